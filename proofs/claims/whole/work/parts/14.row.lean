def pX4_at (Z : CZ) (u : CS) (a0 : Nat) (a1 : Int32) : Option (Int64) := (if a1 < 0 then some (0 : Int64) else (if (Us u a0) ≤ a1 then some (0 : Int64) else (if inb a1 64 = true then some (Uc u (Zc Z a0) a1.toNatClampNeg) else none)))
set_option maxHeartbeats 4000000 in
set_option maxRecDepth 100000 in
theorem ct_X4_at (l : Launch) (D : va_G) (c4 : Nat → ClassId) (A : Nat → Prop) (Z : CZ) (hZ : cok Z) (u : CS) (a0 : Nat) (ha0 : isR Z a0) (a1 : Int32) (r : Int64) (h : pX4_at Z u a0 a1 = some r) : Met l yX4_at (wz yX4_at cX4_at 2 (some .long)) ({ frames := 0, cells := 0, slots := 0, locals := 0 } : Room) (va_Pc [.ref a0, .int a1] (fun U => cPre D c4 A Z u U)) (vp_Sl (fun q => q = r)) 0 0 (fun _ => False) := by
  refine Met.ofW (cc := cX4_at) (maxL := 2) (ret := (some .long)) (by decide) rfl ?_
  intro p e s m args below meth c s₁ B hml hv
  obtain ⟨rfl, ⟨hP, hD, hK, hA⟩, hE⟩ := hv
  have hx := B.exec
  have hb := B.bytes
  have hr := B.returns
  have hts := atoms_spec (ws := (wz yX4_at cX4_at 2 (some .long))) B.pre
  have hown : s.vm.findClass RX4 = some m.cls := findClass_of_methodNamed B.named
  have hlocks := B.notSynchronized
  have hS : va_S A s.heap s.heap [] := va_S.rf
  have hl := lv_entry ([.ref a0, .int a1]) (n := 2) (Nat.le_of_ble_eq_true rfl)
  rw [lg_entry_eq]
  generalize (lg_sl ([.ref a0, .int a1]) ++ List.replicate (2 - (lg_sl ([.ref a0, .int a1])).length) Slot.unset).toArray = ls at hl ⊢
  have hl : lv_has ls 2 [(0, .ref a0), (1, .int a1)] := hl
  unfold pX4_at at h
  refine lv_iload_n hx hb dX4_at_0 rfl (lv_at hl 1 rfl) ?_
  refine lv_if_lt (tgt := 21) hx hb dX4_at_1 (by decide) (fun c_1 => ?_) (fun c_1 => ?_)
  · skip
    rw [if_pos c_1] at h
    refine lv_lconst (v := (0 : Int64)) hx hb dX4_at_21 (by decide) ?_
    exact W.lret (v := (0 : Int64)) hx hb hr (fun t ht hW => ⟨_, rfl, (Option.some.inj h), ht⟩) (fun _ hq => nomatch hq) dX4_at_22
  · skip
    rw [if_neg c_1] at h
    refine lv_iload_n hx hb dX4_at_4 rfl (lv_at hl 1 rfl) ?_
    refine lv_aload_n hx hb dX4_at_5 rfl (lv_at hl 0 rfl) ?_
    obtain ⟨n_2, hn_2⟩ := cW_R (c4 := c4) (u := u) ha0
    refine va_get (D := D) (ci := 3) (v := .int (Us u a0)) (C := RX4) (T := TX4) (N := 2) hx hb hts (fun w h => wm (zin_X4 w h)) hown hK hP n_2 hn_2 rfl 1 (by decide) (hts _ (wm zw_41)) (fun _ h9 => h9) rfl dX4_at_6 ?_
    refine lv_icmp_ge (tgt := 21) hx hb dX4_at_9 (by decide) (fun c_3 => ?_) (fun c_3 => ?_)
    · skip
      rw [if_pos c_3] at h
      refine lv_lconst (v := (0 : Int64)) hx hb dX4_at_21 (by decide) ?_
      exact W.lret (v := (0 : Int64)) hx hb hr (fun t ht hW => ⟨_, rfl, (Option.some.inj h), ht⟩) (fun _ hq => nomatch hq) dX4_at_22
    · skip
      rw [if_neg c_3] at h
      refine lv_aload_n hx hb dX4_at_12 rfl (lv_at hl 0 rfl) ?_
      obtain ⟨n_4, hn_4⟩ := cW_R (c4 := c4) (u := u) ha0
      refine va_get (D := D) (ci := 3) (v := .ref (Zc Z a0)) (C := RX4) (T := TX4) (N := 2) hx hb hts (fun w h => wm (zin_X4 w h)) hown hK hP n_4 hn_4 rfl 0 (by decide) (hts _ (wm zw_39)) (fun _ h9 => h9) rfl dX4_at_13 ?_
      refine lv_iload_n hx hb dX4_at_16 rfl (lv_at hl 1 rfl) ?_
      obtain ⟨hi_5, h⟩ := zb_if h
      obtain ⟨n_6, hn_6⟩ := cW_C (c4 := c4) (u := u) ha0
      refine va_lald hx hb hK hP n_6 0 hn_6 rfl (inb_in hi_5) dX4_at_17 ?_
      refine W.eq (g2 := F0 m 18 ls ([.long (Uc u (Zc Z a0) a1.toNatClampNeg)])) rfl ?_
      refine lv_goto (tgt := 22) hx hb dX4_at_18 (by decide) ?_
      exact W.lret (v := (Uc u (Zc Z a0) a1.toNatClampNeg)) hx hb hr (fun t ht hW => ⟨_, rfl, (Option.some.inj h), ht⟩) (fun _ hq => nomatch hq) dX4_at_22
def pX4_put (Z : CZ) (u : CS) (a0 : Nat) (a1 : Int32) (a2 : Int64) : Option (CS × Unit) := (if a1 < 0 then some (u, ()) else (if (Us u a0) ≤ a1 then some (u, ()) else (if inb a1 64 = true then some ((sC u (Zc Z a0) (vp_updL (Uc u (Zc Z a0)) a1.toNatClampNeg a2)), ()) else none)))
set_option maxHeartbeats 4000000 in
set_option maxRecDepth 100000 in
theorem ct_X4_put (l : Launch) (D : va_G) (c4 : Nat → ClassId) (A : Nat → Prop) (Z : CZ) (hZ : cok Z) (u : CS) (a0 : Nat) (ha0 : isR Z a0) (a1 : Int32) (a2 : Int64) (res : CS × Unit) (h : pX4_put Z u a0 a1 a2 = some res) : Met l yX4_put (wz yX4_put cX4_put 4 none) ({ frames := 0, cells := 0, slots := 0, locals := 0 } : Room) (va_Pc [.ref a0, .int a1, .long a2] (fun U => cPre D c4 A Z u U)) (va_Qv (fun w => res = (w, ())) (fun w t => wPre D c4 A (cW c4 Z w) t) A) 0 0 A := by
  refine Met.ofW (cc := cX4_put) (maxL := 4) (ret := none) (by decide) rfl ?_
  intro p e s m args below meth c s₁ B hml hv
  obtain ⟨rfl, ⟨hP, hD, hK, hA⟩, hE⟩ := hv
  have hx := B.exec
  have hb := B.bytes
  have hr := B.returns
  have hts := atoms_spec (ws := (wz yX4_put cX4_put 4 none)) B.pre
  have hown : s.vm.findClass RX4 = some m.cls := findClass_of_methodNamed B.named
  have hlocks := B.notSynchronized
  have hS : va_S A s.heap s.heap [] := va_S.rf
  have hl := lv_entry ([.ref a0, .int a1, .long a2]) (n := 4) (Nat.le_of_ble_eq_true rfl)
  rw [lg_entry_eq]
  generalize (lg_sl ([.ref a0, .int a1, .long a2]) ++ List.replicate (4 - (lg_sl ([.ref a0, .int a1, .long a2])).length) Slot.unset).toArray = ls at hl ⊢
  have hl : lv_has ls 4 [(0, .ref a0), (1, .int a1), (2, .long a2)] := hl
  unfold pX4_put at h
  refine lv_iload_n hx hb dX4_put_0 rfl (lv_at hl 1 rfl) ?_
  refine lv_if_lt (tgt := 19) hx hb dX4_put_1 (by decide) (fun c_1 => ?_) (fun c_1 => ?_)
  · skip
    rw [if_pos c_1] at h
    exact W.vret hx hb hr (fun t ht hW => ⟨⟨u, rfl, (Option.some.inj h).symm, wPre_go hP hD hK hA hS ht hW.alike⟩, hS.F ht⟩) hS.2.2 dX4_put_19
  · skip
    rw [if_neg c_1] at h
    refine lv_iload_n hx hb dX4_put_4 rfl (lv_at hl 1 rfl) ?_
    refine lv_aload_n hx hb dX4_put_5 rfl (lv_at hl 0 rfl) ?_
    obtain ⟨n_2, hn_2⟩ := cW_R (c4 := c4) (u := u) ha0
    refine va_get (D := D) (ci := 3) (v := .int (Us u a0)) (C := RX4) (T := TX4) (N := 2) hx hb hts (fun w h => wm (zin_X4 w h)) hown hK hP n_2 hn_2 rfl 1 (by decide) (hts _ (wm zw_41)) (fun _ h9 => h9) rfl dX4_put_6 ?_
    refine lv_icmp_ge (tgt := 19) hx hb dX4_put_9 (by decide) (fun c_3 => ?_) (fun c_3 => ?_)
    · skip
      rw [if_pos c_3] at h
      exact W.vret hx hb hr (fun t ht hW => ⟨⟨u, rfl, (Option.some.inj h).symm, wPre_go hP hD hK hA hS ht hW.alike⟩, hS.F ht⟩) hS.2.2 dX4_put_19
    · skip
      rw [if_neg c_3] at h
      refine lv_aload_n hx hb dX4_put_12 rfl (lv_at hl 0 rfl) ?_
      obtain ⟨n_4, hn_4⟩ := cW_R (c4 := c4) (u := u) ha0
      refine va_get (D := D) (ci := 3) (v := .ref (Zc Z a0)) (C := RX4) (T := TX4) (N := 2) hx hb hts (fun w h => wm (zin_X4 w h)) hown hK hP n_4 hn_4 rfl 0 (by decide) (hts _ (wm zw_39)) (fun _ h9 => h9) rfl dX4_put_13 ?_
      refine lv_iload_n hx hb dX4_put_16 rfl (lv_at hl 1 rfl) ?_
      refine lv_lload_n hx hb dX4_put_17 rfl (lv_at hl 2 rfl) ?_
      obtain ⟨hi_5, h⟩ := zb_if h
      obtain ⟨n_6, hn_6⟩ := cW_C (c4 := c4) (u := u) ha0
      refine va_last hx hb hK hP hD hS n_6 0 hn_6 rfl (inb_in hi_5) dX4_put_18 (fun H locs hP hD hS => ?_)
      have hq := fun (hd : va_D A (cW c4 Z u)) => cW_setC (A := A) (f := (vp_updL (Uc u (Zc Z a0)) a1.toNatClampNeg a2)) hd ha0 hn_6 
      have hD0 : va_D A (cW c4 Z u) := by assumption
      have hP : va_P D vwCl (cW c4 Z (sC u (Zc Z a0) (vp_updL (Uc u (Zc Z a0)) a1.toNatClampNeg a2))) H := by rw [← hq hD0]; exact hP
      have hD : va_D A (cW c4 Z (sC u (Zc Z a0) (vp_updL (Uc u (Zc Z a0)) a1.toNatClampNeg a2))) := by rw [← hq hD0]; exact hD
      exact W.vret hx hb hr (fun t ht hW => ⟨⟨(sC u (Zc Z a0) (vp_updL (Uc u (Zc Z a0)) a1.toNatClampNeg a2)), rfl, (Option.some.inj h).symm, wPre_go hP hD hK hA hS ht hW.alike⟩, hS.F ht⟩) hS.2.2 dX4_put_19
def pX4_append (Z : CZ) (u : CS) (a0 : Nat) (a1 : Int64) : Option (CS × Int32) := (if (Us u a0) < (64 : Int32) then (if inb (Us u a0) 64 = true then ((some ((Us u a0) + (1 : Int32))).bind fun y_9 => some ((sS (sC u (Zc Z a0) (vp_updL (Uc u (Zc Z a0)) (Us u a0).toNatClampNeg a1)) a0 y_9), (1 : Int32))) else none) else some (u, (0 : Int32)))
set_option maxHeartbeats 4000000 in
set_option maxRecDepth 100000 in
theorem ct_X4_append (l : Launch) (D : va_G) (c4 : Nat → ClassId) (A : Nat → Prop) (Z : CZ) (hZ : cok Z) (u : CS) (a0 : Nat) (ha0 : isR Z a0) (a1 : Int64) (res : CS × Int32) (h : pX4_append Z u a0 a1 = some res) : Met l yX4_append (wz yX4_append cX4_append 3 (some .boolean)) ({ frames := 0, cells := 0, slots := 0, locals := 0 } : Room) (va_Pc [.ref a0, .long a1] (fun U => cPre D c4 A Z u U)) (va_Qi (fun q w => res = (w, q)) (fun w t => wPre D c4 A (cW c4 Z w) t) A) 0 0 A := by
  refine Met.ofW (cc := cX4_append) (maxL := 3) (ret := (some .boolean)) (by decide) rfl ?_
  intro p e s m args below meth c s₁ B hml hv
  obtain ⟨rfl, ⟨hP, hD, hK, hA⟩, hE⟩ := hv
  have hx := B.exec
  have hb := B.bytes
  have hr := B.returns
  have hts := atoms_spec (ws := (wz yX4_append cX4_append 3 (some .boolean))) B.pre
  have hown : s.vm.findClass RX4 = some m.cls := findClass_of_methodNamed B.named
  have hlocks := B.notSynchronized
  have hS : va_S A s.heap s.heap [] := va_S.rf
  have hl := lv_entry ([.ref a0, .long a1]) (n := 3) (Nat.le_of_ble_eq_true rfl)
  rw [lg_entry_eq]
  generalize (lg_sl ([.ref a0, .long a1]) ++ List.replicate (3 - (lg_sl ([.ref a0, .long a1])).length) Slot.unset).toArray = ls at hl ⊢
  have hl : lv_has ls 3 [(0, .ref a0), (1, .long a1)] := hl
  unfold pX4_append at h
  refine lv_aload_n hx hb dX4_append_0 rfl (lv_at hl 0 rfl) ?_
  obtain ⟨n_1, hn_1⟩ := cW_R (c4 := c4) (u := u) ha0
  refine va_get (D := D) (ci := 3) (v := .int (Us u a0)) (C := RX4) (T := TX4) (N := 2) hx hb hts (fun w h => wm (zin_X4 w h)) hown hK hP n_1 hn_1 rfl 1 (by decide) (hts _ (wm zw_41)) (fun _ h9 => h9) rfl dX4_append_1 ?_
  refine lv_bipush (v := (64 : Int32)) hx hb dX4_append_4 (by decide) ?_
  refine lv_icmp_lt (tgt := 11) hx hb dX4_append_6 (by decide) (fun c_2 => ?_) (fun c_2 => ?_)
  · skip
    rw [if_pos c_2] at h
    refine lv_aload_n hx hb dX4_append_11 rfl (lv_at hl 0 rfl) ?_
    obtain ⟨n_3, hn_3⟩ := cW_R (c4 := c4) (u := u) ha0
    refine va_get (D := D) (ci := 3) (v := .ref (Zc Z a0)) (C := RX4) (T := TX4) (N := 2) hx hb hts (fun w h => wm (zin_X4 w h)) hown hK hP n_3 hn_3 rfl 0 (by decide) (hts _ (wm zw_39)) (fun _ h9 => h9) rfl dX4_append_12 ?_
    refine lv_aload_n hx hb dX4_append_15 rfl (lv_at hl 0 rfl) ?_
    obtain ⟨n_4, hn_4⟩ := cW_R (c4 := c4) (u := u) ha0
    refine va_get (D := D) (ci := 3) (v := .int (Us u a0)) (C := RX4) (T := TX4) (N := 2) hx hb hts (fun w h => wm (zin_X4 w h)) hown hK hP n_4 hn_4 rfl 1 (by decide) (hts _ (wm zw_41)) (fun _ h9 => h9) rfl dX4_append_16 ?_
    refine lv_lload_n hx hb dX4_append_19 rfl (lv_at hl 1 rfl) ?_
    obtain ⟨hi_5, h⟩ := zb_if h
    obtain ⟨n_6, hn_6⟩ := cW_C (c4 := c4) (u := u) ha0
    refine va_last hx hb hK hP hD hS n_6 0 hn_6 rfl (inb_in hi_5) dX4_append_20 (fun H locs hP hD hS => ?_)
    have hq := fun (hd : va_D A (cW c4 Z u)) => cW_setC (A := A) (f := (vp_updL (Uc u (Zc Z a0)) (Us u a0).toNatClampNeg a1)) hd ha0 hn_6 
    have hD0 : va_D A (cW c4 Z u) := by assumption
    have hP : va_P D vwCl (cW c4 Z (sC u (Zc Z a0) (vp_updL (Uc u (Zc Z a0)) (Us u a0).toNatClampNeg a1))) H := by rw [← hq hD0]; exact hP
    have hD : va_D A (cW c4 Z (sC u (Zc Z a0) (vp_updL (Uc u (Zc Z a0)) (Us u a0).toNatClampNeg a1))) := by rw [← hq hD0]; exact hD
    refine lv_aload_n hx hb dX4_append_21 rfl (lv_at hl 0 rfl) ?_
    refine lv_dup hx hb dX4_append_22 rfl ?_
    obtain ⟨n_8, hn_8⟩ := cW_R (c4 := c4) (u := (sC u (Zc Z a0) (vp_updL (Uc u (Zc Z a0)) (Us u a0).toNatClampNeg a1))) ha0
    refine va_get (D := D) (ci := 3) (v := .int (Us u a0)) (C := RX4) (T := TX4) (N := 2) hx hb hts (fun w h => wm (zin_X4 w h)) hown hK hP n_8 hn_8 rfl 1 (by decide) (hts _ (wm zw_41)) (fun _ h9 => h9) rfl dX4_append_23 ?_
    refine lv_iconst (v := (1 : Int32)) hx hb dX4_append_26 (by decide) ?_
    refine lv_iadd hx hb dX4_append_27 ?_
    obtain ⟨y_9, e_9, h⟩ := zb_bind h
    try dsimp only at h
    refine zt_i (Option.some.inj e_9) ?_
    obtain ⟨n_10, hn_10⟩ := cW_R (c4 := c4) (u := (sC u (Zc Z a0) (vp_updL (Uc u (Zc Z a0)) (Us u a0).toNatClampNeg a1))) ha0
    refine va_put (D := D) (ci := 3) (v := .int y_9) (ty := .int) (C := RX4) (T := TX4) (N := 2) hx hb hts (fun w h => wm (zin_X4 w h)) tyX4 tyX4_ok nmX4 hown hK hP hD hS n_10 hn_10 rfl 1 (by decide) (hts _ (wm zw_41)) (fun _ h9 => h9) rfl (by decide +kernel) rfl rfl (Nat.le_of_ble_eq_true rfl) dX4_append_28 (fun H locs hP hD hS => ?_)
    have hq := fun (hd : va_D A (cW c4 Z (sC u (Zc Z a0) (vp_updL (Uc u (Zc Z a0)) (Us u a0).toNatClampNeg a1)))) => cW_setS (A := A) (v := y_9) hd ha0 hn_10 
    have hD0 : va_D A (cW c4 Z (sC u (Zc Z a0) (vp_updL (Uc u (Zc Z a0)) (Us u a0).toNatClampNeg a1))) := by assumption
    have hP : va_P D vwCl (cW c4 Z (sS (sC u (Zc Z a0) (vp_updL (Uc u (Zc Z a0)) (Us u a0).toNatClampNeg a1)) a0 y_9)) H := by rw [← hq hD0]; exact hP
    have hD : va_D A (cW c4 Z (sS (sC u (Zc Z a0) (vp_updL (Uc u (Zc Z a0)) (Us u a0).toNatClampNeg a1)) a0 y_9)) := by rw [← hq hD0]; exact hD
    refine lv_iconst (v := (1 : Int32)) hx hb dX4_append_31 (by decide) ?_
    exact W.zret (v := (1 : Int32)) (ty := .boolean) hx hb hr rfl (fun t ht hW => ⟨⟨(1 : Int32), (sS (sC u (Zc Z a0) (vp_updL (Uc u (Zc Z a0)) (Us u a0).toNatClampNeg a1)) a0 y_9), rfl, (Option.some.inj h).symm, wPre_go hP hD hK hA hS ht hW.alike⟩, hS.F ht⟩) hS.2.2 dX4_append_32
  · skip
    rw [if_neg c_2] at h
    refine lv_iconst (v := (0 : Int32)) hx hb dX4_append_9 (by decide) ?_
    exact W.zret (v := (0 : Int32)) (ty := .boolean) hx hb hr rfl (fun t ht hW => ⟨⟨(0 : Int32), u, rfl, (Option.some.inj h).symm, wPre_go hP hD hK hA hS ht hW.alike⟩, hS.F ht⟩) hS.2.2 dX4_append_10
def pX4_become (Z : CZ) (u : CS) (a0 : Nat) (a1 : Nat) : Option (CS × Unit) := (if ¬ (Us u a1) < 0 ∧ (Us u a1).toNatClampNeg ≤ 64 then ((some (Us u a1)).bind fun y_9 => some ((sS (sC u (Zc Z a0) (va_cpy (Uc u (Zc Z a1)) (Uc u (Zc Z a0)) (0 : Int32).toNatClampNeg (0 : Int32).toNatClampNeg (Us u a1).toNatClampNeg)) a0 y_9), ())) else none)
set_option maxHeartbeats 4000000 in
set_option maxRecDepth 100000 in
theorem ct_X4_become (l : Launch) (D : va_G) (c4 : Nat → ClassId) (A : Nat → Prop) (Z : CZ) (hZ : cok Z) (u : CS) (a0 : Nat) (ha0 : isR Z a0) (a1 : Nat) (ha1 : isR Z a1) (res : CS × Unit) (h : pX4_become Z u a0 a1 = some res) : Met l yX4_become (wz yX4_become cX4_become 2 none) ({ frames := 1, cells := 0, slots := 0, locals := 68 } : Room) (va_Pc [.ref a0, .ref a1] (fun U => cPre D c4 A Z u U)) (va_Qv (fun w => res = (w, ())) (fun w t => wPre D c4 A (cW c4 Z w) t) A) 0 0 A := by
  refine Met.ofW (cc := cX4_become) (maxL := 2) (ret := none) (by decide) rfl ?_
  intro p e s m args below meth c s₁ B hml hv
  obtain ⟨rfl, ⟨hP, hD, hK, hA⟩, hE⟩ := hv
  have hx := B.exec
  have hb := B.bytes
  have hr := B.returns
  have hts := atoms_spec (ws := (wz yX4_become cX4_become 2 none)) B.pre
  have hown : s.vm.findClass RX4 = some m.cls := findClass_of_methodNamed B.named
  have hlocks := B.notSynchronized
  have hS : va_S A s.heap s.heap [] := va_S.rf
  have hl := lv_entry ([.ref a0, .ref a1]) (n := 2) (Nat.le_of_ble_eq_true rfl)
  rw [lg_entry_eq]
  generalize (lg_sl ([.ref a0, .ref a1]) ++ List.replicate (2 - (lg_sl ([.ref a0, .ref a1])).length) Slot.unset).toArray = ls at hl ⊢
  have hl : lv_has ls 2 [(0, .ref a0), (1, .ref a1)] := hl
  unfold pX4_become at h
  refine lv_aload_n hx hb dX4_become_0 rfl (lv_at hl 1 rfl) ?_
  obtain ⟨n_1, hn_1⟩ := cW_R (c4 := c4) (u := u) ha1
  refine va_get (D := D) (ci := 3) (v := .ref (Zc Z a1)) (C := RX4) (T := TX4) (N := 2) hx hb hts (fun w h => wm (zin_X4 w h)) hown hK hP n_1 hn_1 rfl 0 (by decide) (hts _ (wm zw_39)) (fun _ h9 => h9) rfl dX4_become_1 ?_
  refine lv_iconst (v := (0 : Int32)) hx hb dX4_become_4 (by decide) ?_
  refine lv_aload_n hx hb dX4_become_5 rfl (lv_at hl 0 rfl) ?_
  obtain ⟨n_2, hn_2⟩ := cW_R (c4 := c4) (u := u) ha0
  refine va_get (D := D) (ci := 3) (v := .ref (Zc Z a0)) (C := RX4) (T := TX4) (N := 2) hx hb hts (fun w h => wm (zin_X4 w h)) hown hK hP n_2 hn_2 rfl 0 (by decide) (hts _ (wm zw_39)) (fun _ h9 => h9) rfl dX4_become_6 ?_
  refine lv_iconst (v := (0 : Int32)) hx hb dX4_become_9 (by decide) ?_
  refine lv_aload_n hx hb dX4_become_10 rfl (lv_at hl 1 rfl) ?_
  obtain ⟨n_3, hn_3⟩ := cW_R (c4 := c4) (u := u) ha1
  refine va_get (D := D) (ci := 3) (v := .int (Us u a1)) (C := RX4) (T := TX4) (N := 2) hx hb hts (fun w h => wm (zin_X4 w h)) hown hK hP n_3 hn_3 rfl 1 (by decide) (hts _ (wm zw_41)) (fun _ h9 => h9) rfl dX4_become_11 ?_
  obtain ⟨hi_4, h⟩ := zb_if h
  obtain ⟨n_5, hn_5⟩ := cW_C (c4 := c4) (u := u) ha1
  obtain ⟨n_6, hn_6⟩ := cW_C (c4 := c4) (u := u) ha0
  refine va_copyl hx hb (hml.trans hl.1.symm) hown (hts _ (wm zw_228)) (hts _ (wm zw_230)) (hts _ (wm zw_229)) (hts _ (wm zw_17)) hK hP hD hS n_5 n_6 0 0 hn_5 hn_6 rfl rfl rfl (by decide) (by decide) hi_4.1 (by show 0 + _ ≤ 64; omega) (by show 0 + _ ≤ 64; omega) (fun _ _ => rfl) (Nat.le_of_ble_eq_true rfl) (Nat.le_of_ble_eq_true rfl) dX4_become_14 (fun H locs hP hD hS => ?_)
  have hq := fun (hd : va_D A (cW c4 Z u)) => cW_setC (A := A) (f := (va_cpy (Uc u (Zc Z a1)) (Uc u (Zc Z a0)) (0 : Int32).toNatClampNeg (0 : Int32).toNatClampNeg (Us u a1).toNatClampNeg)) hd ha0 hn_6 
  have hD0 : va_D A (cW c4 Z u) := by assumption
  have hP : va_P D vwCl (cW c4 Z (sC u (Zc Z a0) (va_cpy (Uc u (Zc Z a1)) (Uc u (Zc Z a0)) (0 : Int32).toNatClampNeg (0 : Int32).toNatClampNeg (Us u a1).toNatClampNeg))) H := by rw [← hq hD0]; exact hP
  have hD : va_D A (cW c4 Z (sC u (Zc Z a0) (va_cpy (Uc u (Zc Z a1)) (Uc u (Zc Z a0)) (0 : Int32).toNatClampNeg (0 : Int32).toNatClampNeg (Us u a1).toNatClampNeg))) := by rw [← hq hD0]; exact hD
  refine lv_aload_n hx hb dX4_become_17 rfl (lv_at hl 0 rfl) ?_
  refine lv_aload_n hx hb dX4_become_18 rfl (lv_at hl 1 rfl) ?_
  obtain ⟨n_8, hn_8⟩ := cW_R (c4 := c4) (u := (sC u (Zc Z a0) (va_cpy (Uc u (Zc Z a1)) (Uc u (Zc Z a0)) (0 : Int32).toNatClampNeg (0 : Int32).toNatClampNeg (Us u a1).toNatClampNeg))) ha1
  refine va_get (D := D) (ci := 3) (v := .int (Us u a1)) (C := RX4) (T := TX4) (N := 2) hx hb hts (fun w h => wm (zin_X4 w h)) hown hK hP n_8 hn_8 rfl 1 (by decide) (hts _ (wm zw_41)) (fun _ h9 => h9) rfl dX4_become_19 ?_
  obtain ⟨y_9, e_9, h⟩ := zb_bind h
  try dsimp only at h
  refine zt_i (Option.some.inj e_9) ?_
  obtain ⟨n_10, hn_10⟩ := cW_R (c4 := c4) (u := (sC u (Zc Z a0) (va_cpy (Uc u (Zc Z a1)) (Uc u (Zc Z a0)) (0 : Int32).toNatClampNeg (0 : Int32).toNatClampNeg (Us u a1).toNatClampNeg))) ha0
  refine va_put (D := D) (ci := 3) (v := .int y_9) (ty := .int) (C := RX4) (T := TX4) (N := 2) hx hb hts (fun w h => wm (zin_X4 w h)) tyX4 tyX4_ok nmX4 hown hK hP hD hS n_10 hn_10 rfl 1 (by decide) (hts _ (wm zw_41)) (fun _ h9 => h9) rfl (by decide +kernel) rfl rfl (Nat.le_of_ble_eq_true rfl) dX4_become_22 (fun H locs hP hD hS => ?_)
  have hq := fun (hd : va_D A (cW c4 Z (sC u (Zc Z a0) (va_cpy (Uc u (Zc Z a1)) (Uc u (Zc Z a0)) (0 : Int32).toNatClampNeg (0 : Int32).toNatClampNeg (Us u a1).toNatClampNeg)))) => cW_setS (A := A) (v := y_9) hd ha0 hn_10 
  have hD0 : va_D A (cW c4 Z (sC u (Zc Z a0) (va_cpy (Uc u (Zc Z a1)) (Uc u (Zc Z a0)) (0 : Int32).toNatClampNeg (0 : Int32).toNatClampNeg (Us u a1).toNatClampNeg))) := by assumption
  have hP : va_P D vwCl (cW c4 Z (sS (sC u (Zc Z a0) (va_cpy (Uc u (Zc Z a1)) (Uc u (Zc Z a0)) (0 : Int32).toNatClampNeg (0 : Int32).toNatClampNeg (Us u a1).toNatClampNeg)) a0 y_9)) H := by rw [← hq hD0]; exact hP
  have hD : va_D A (cW c4 Z (sS (sC u (Zc Z a0) (va_cpy (Uc u (Zc Z a1)) (Uc u (Zc Z a0)) (0 : Int32).toNatClampNeg (0 : Int32).toNatClampNeg (Us u a1).toNatClampNeg)) a0 y_9)) := by rw [← hq hD0]; exact hD
  exact W.vret hx hb hr (fun t ht hW => ⟨⟨(sS (sC u (Zc Z a0) (va_cpy (Uc u (Zc Z a1)) (Uc u (Zc Z a0)) (0 : Int32).toNatClampNeg (0 : Int32).toNatClampNeg (Us u a1).toNatClampNeg)) a0 y_9), rfl, (Option.some.inj h).symm, wPre_go hP hD hK hA hS ht hW.alike⟩, hS.F ht⟩) hS.2.2 dX4_become_25
def pX4_hasSameWords_15 (Z : CZ) (u : CS) (a0 : Nat) (a1 : Nat) : Nat → Int32 → Option (Int32)
  | 0, _ => none
  | n + 1, x0 => (if (Us u a0) ≤ x0 then some (1 : Int32) else (if inb x0 64 = true then (if inb x0 64 = true then (if (Uc u (Zc Z a0) x0.toNatClampNeg) = (Uc u (Zc Z a1) x0.toNatClampNeg) then pX4_hasSameWords_15 Z u a0 a1 n (x0 + (1 : Int32)) else some (0 : Int32)) else none) else none))
theorem pX4_hasSameWords_15_s (Z : CZ) (u : CS) (a0 : Nat) (a1 : Nat) (n : Nat) (x0 : Int32) : pX4_hasSameWords_15 Z u a0 a1 (n + 1) x0 = (if (Us u a0) ≤ x0 then some (1 : Int32) else (if inb x0 64 = true then (if inb x0 64 = true then (if (Uc u (Zc Z a0) x0.toNatClampNeg) = (Uc u (Zc Z a1) x0.toNatClampNeg) then pX4_hasSameWords_15 Z u a0 a1 n (x0 + (1 : Int32)) else some (0 : Int32)) else none) else none)) := rfl
def pX4_hasSameWords (Z : CZ) (u : CS) (a0 : Nat) (a1 : Nat) : Option (Int32) := (if (Us u a0) = (Us u a1) then pX4_hasSameWords_15 Z u a0 a1 300 (0 : Int32) else some (0 : Int32))
set_option maxHeartbeats 4000000 in
set_option maxRecDepth 100000 in
theorem ct_X4_hasSameWords (l : Launch) (D : va_G) (c4 : Nat → ClassId) (A : Nat → Prop) (Z : CZ) (hZ : cok Z) (u : CS) (a0 : Nat) (ha0 : isR Z a0) (a1 : Nat) (ha1 : isR Z a1) (r : Int32) (h : pX4_hasSameWords Z u a0 a1 = some r) : Met l yX4_hasSameWords (wz yX4_hasSameWords cX4_hasSameWords 3 (some .boolean)) ({ frames := 0, cells := 0, slots := 0, locals := 0 } : Room) (va_Pc [.ref a0, .ref a1] (fun U => cPre D c4 A Z u U)) (vp_Si (fun q => q = r)) 0 0 (fun _ => False) := by
  refine Met.ofW (cc := cX4_hasSameWords) (maxL := 3) (ret := (some .boolean)) (by decide) rfl ?_
  intro p e s m args below meth c s₁ B hml hv
  obtain ⟨rfl, ⟨hP, hD, hK, hA⟩, hE⟩ := hv
  have hx := B.exec
  have hb := B.bytes
  have hr := B.returns
  have hts := atoms_spec (ws := (wz yX4_hasSameWords cX4_hasSameWords 3 (some .boolean))) B.pre
  have hown : s.vm.findClass RX4 = some m.cls := findClass_of_methodNamed B.named
  have hlocks := B.notSynchronized
  have hS : va_S A s.heap s.heap [] := va_S.rf
  have hl := lv_entry ([.ref a0, .ref a1]) (n := 3) (Nat.le_of_ble_eq_true rfl)
  rw [lg_entry_eq]
  generalize (lg_sl ([.ref a0, .ref a1]) ++ List.replicate (3 - (lg_sl ([.ref a0, .ref a1])).length) Slot.unset).toArray = ls at hl ⊢
  have hl : lv_has ls 3 [(0, .ref a0), (1, .ref a1)] := hl
  have k_15 : ∀ (n_15 : Nat), ∀ (x0 : Int32), ∀ (ls : Array Slot), lv_has ls 3 [(0, .ref a0), (1, .ref a1), (2, .int x0)] → pX4_hasSameWords_15 Z u a0 a1 n_15 x0 = some r → W p l e ({ frames := 0, cells := 0, slots := 0, locals := 0 } : Room) s m ([.ref a0, .ref a1] : List Value).toArray below meth c s.heap [] 0 0 (MQ below (vp_Si (fun q => q = r)) ([.ref a0, .ref a1] : List Value).toArray s 0 0 (fun _ => False)) (F0 m 15 ls []) := by
    intro n_15
    induction n_15 with
    | zero =>
      intro x0 ls hl h
      exact nomatch h
    | succ n_15 ih_15 =>
      intro x0 ls hl h
      rw [pX4_hasSameWords_15_s] at h
      refine lv_iload_n hx hb dX4_hasSameWords_15 rfl (lv_at hl 2 rfl) ?_
      refine lv_aload_n hx hb dX4_hasSameWords_16 rfl (lv_at hl 0 rfl) ?_
      obtain ⟨n_1, hn_1⟩ := cW_R (c4 := c4) (u := u) ha0
      refine va_get (D := D) (ci := 3) (v := .int (Us u a0)) (C := RX4) (T := TX4) (N := 2) hx hb hts (fun w h => wm (zin_X4 w h)) hown hK hP n_1 hn_1 rfl 1 (by decide) (hts _ (wm zw_41)) (fun _ h9 => h9) rfl dX4_hasSameWords_17 ?_
      refine lv_icmp_ge (tgt := 47) hx hb dX4_hasSameWords_20 (by decide) (fun c_2 => ?_) (fun c_2 => ?_)
      · skip
        rw [if_pos c_2] at h
        refine lv_iconst (v := (1 : Int32)) hx hb dX4_hasSameWords_47 (by decide) ?_
        exact W.zret (v := (1 : Int32)) (ty := .boolean) hx hb hr rfl (fun t ht hW => ⟨_, rfl, (Option.some.inj h), ht⟩) (fun _ hq => nomatch hq) dX4_hasSameWords_48
      · skip
        rw [if_neg c_2] at h
        refine lv_aload_n hx hb dX4_hasSameWords_23 rfl (lv_at hl 0 rfl) ?_
        obtain ⟨n_3, hn_3⟩ := cW_R (c4 := c4) (u := u) ha0
        refine va_get (D := D) (ci := 3) (v := .ref (Zc Z a0)) (C := RX4) (T := TX4) (N := 2) hx hb hts (fun w h => wm (zin_X4 w h)) hown hK hP n_3 hn_3 rfl 0 (by decide) (hts _ (wm zw_39)) (fun _ h9 => h9) rfl dX4_hasSameWords_24 ?_
        refine lv_iload_n hx hb dX4_hasSameWords_27 rfl (lv_at hl 2 rfl) ?_
        obtain ⟨hi_4, h⟩ := zb_if h
        obtain ⟨n_5, hn_5⟩ := cW_C (c4 := c4) (u := u) ha0
        refine va_lald hx hb hK hP n_5 0 hn_5 rfl (inb_in hi_4) dX4_hasSameWords_28 ?_
        refine W.eq (g2 := F0 m 29 ls ([.long (Uc u (Zc Z a0) x0.toNatClampNeg)])) rfl ?_
        refine lv_aload_n hx hb dX4_hasSameWords_29 rfl (lv_at hl 1 rfl) ?_
        obtain ⟨n_6, hn_6⟩ := cW_R (c4 := c4) (u := u) ha1
        refine va_get (D := D) (ci := 3) (v := .ref (Zc Z a1)) (C := RX4) (T := TX4) (N := 2) hx hb hts (fun w h => wm (zin_X4 w h)) hown hK hP n_6 hn_6 rfl 0 (by decide) (hts _ (wm zw_39)) (fun _ h9 => h9) rfl dX4_hasSameWords_30 ?_
        refine lv_iload_n hx hb dX4_hasSameWords_33 rfl (lv_at hl 2 rfl) ?_
        obtain ⟨hi_7, h⟩ := zb_if h
        obtain ⟨n_8, hn_8⟩ := cW_C (c4 := c4) (u := u) ha1
        refine va_lald hx hb hK hP n_8 0 hn_8 rfl (inb_in hi_7) dX4_hasSameWords_34 ?_
        refine W.eq (g2 := F0 m 35 ls ([.long (Uc u (Zc Z a1) x0.toNatClampNeg), .long (Uc u (Zc Z a0) x0.toNatClampNeg)])) rfl ?_
        refine W.lcmp hx hb dX4_hasSameWords_35 ?_
        refine lv_if_eq (tgt := 41) hx hb dX4_hasSameWords_36 (by decide) (fun c_9 => ?_) (fun c_9 => ?_)
        · skip
          have c_9 := (lg_cmp_eq _ _).mp c_9
          rw [if_pos c_9] at h
          refine lv_iinc (v := (x0 + (1 : Int32))) (lv' := [(2, .int (x0 + (1 : Int32))), (0, .ref a0), (1, .ref a1)]) hx hb dX4_hasSameWords_41 hl (k := 2) rfl rfl (by decide) rfl (fun ls hl => ?_)
          refine lv_goto (tgt := 15) hx hb dX4_hasSameWords_44 (by decide) ?_
          exact ih_15 (x0 + (1 : Int32)) ls (lv_sub hl [1, 2, 0] rfl) h
        · skip
          have c_9 := mt (lg_cmp_eq _ _).mpr c_9
          rw [if_neg c_9] at h
          refine lv_iconst (v := (0 : Int32)) hx hb dX4_hasSameWords_39 (by decide) ?_
          exact W.zret (v := (0 : Int32)) (ty := .boolean) hx hb hr rfl (fun t ht hW => ⟨_, rfl, (Option.some.inj h), ht⟩) (fun _ hq => nomatch hq) dX4_hasSameWords_40
  unfold pX4_hasSameWords at h
  refine lv_aload_n hx hb dX4_hasSameWords_0 rfl (lv_at hl 0 rfl) ?_
  obtain ⟨n_10, hn_10⟩ := cW_R (c4 := c4) (u := u) ha0
  refine va_get (D := D) (ci := 3) (v := .int (Us u a0)) (C := RX4) (T := TX4) (N := 2) hx hb hts (fun w h => wm (zin_X4 w h)) hown hK hP n_10 hn_10 rfl 1 (by decide) (hts _ (wm zw_41)) (fun _ h9 => h9) rfl dX4_hasSameWords_1 ?_
  refine lv_aload_n hx hb dX4_hasSameWords_4 rfl (lv_at hl 1 rfl) ?_
  obtain ⟨n_11, hn_11⟩ := cW_R (c4 := c4) (u := u) ha1
  refine va_get (D := D) (ci := 3) (v := .int (Us u a1)) (C := RX4) (T := TX4) (N := 2) hx hb hts (fun w h => wm (zin_X4 w h)) hown hK hP n_11 hn_11 rfl 1 (by decide) (hts _ (wm zw_41)) (fun _ h9 => h9) rfl dX4_hasSameWords_5 ?_
  refine lv_icmp_eq (tgt := 13) hx hb dX4_hasSameWords_8 (by decide) (fun c_12 => ?_) (fun c_12 => ?_)
  · skip
    rw [if_pos c_12] at h
    refine lv_iconst (v := (0 : Int32)) hx hb dX4_hasSameWords_13 (by decide) ?_
    refine lv_istore_n (lv' := [(2, .int (0 : Int32)), (0, .ref a0), (1, .ref a1)]) hx hb dX4_hasSameWords_14 rfl hl (by decide) rfl (fun ls hl => ?_)
    exact k_15 300 (0 : Int32) ls (lv_sub hl [1, 2, 0] rfl) h
  · skip
    rw [if_neg c_12] at h
    refine lv_iconst (v := (0 : Int32)) hx hb dX4_hasSameWords_11 (by decide) ?_
    exact W.zret (v := (0 : Int32)) (ty := .boolean) hx hb hr rfl (fun t ht hW => ⟨_, rfl, (Option.some.inj h), ht⟩) (fun _ hq => nomatch hq) dX4_hasSameWords_12
