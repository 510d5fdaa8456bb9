set_option maxHeartbeats 4000000 in
set_option maxRecDepth 100000 in
theorem lt_open (l : Launch) (hl0 : l.stackTraces = false) (D : va_G) (c4 : Nat → ClassId) (A : Nat → Prop) (Z : CZ) (hZ : cok Z) (u : CS) (o : Nat) (g : Nat → Int64) (res : CS × (Nat ⊕ Int32)) (h : pX5_open Z u = some res) (hk : ∀ (w : CS) (k : Nat), res = (w, .inl k) → k = 1 ∨ k = 2 ∨ k = 3 ∨ k = 4) : Met l yL_open (.codeWith yL_open cL_open 3 (some .int) [((0 : Nat), (8 : Nat), (11 : Nat), (13 : Nat)), ((0 : Nat), (8 : Nat), (14 : Nat), (15 : Nat)), ((0 : Nat), (8 : Nat), (17 : Nat), (17 : Nat)), ((0 : Nat), (8 : Nat), (20 : Nat), (19 : Nat))] :: WG) ({ frames := 10, cells := 1, slots := 6, locals := 190 } : Room) (va_Pc [.ref (Zz Z 0), .ref o] (fun U => lPre D c4 A Z u o g U)) (va_Qi (lAns (fun x : Int32 => x.toInt64) lco1 g res) (fun w t => wPre D c4 A (wO c4 o w.2 ++ cW c4 Z w.1) t) A) 1 6 A := by
  refine va_MetW (cc := cL_open) (maxL := 3) (ret := some .int) (hh := [((0 : Nat), (8 : Nat), (11 : Nat), (13 : Nat)), ((0 : Nat), (8 : Nat), (14 : Nat), (15 : Nat)), ((0 : Nat), (8 : Nat), (17 : Nat), (17 : Nat)), ((0 : Nat), (8 : Nat), (20 : Nat), (19 : Nat))]) (by decide) rfl ?_
  intro p e s m args below meth c s₁ B hml hv
  obtain ⟨rfl, ⟨hP, hD, hK, hA⟩, hE, hN⟩ := hv
  have hx := B.exec
  have hb := B.bytes
  have hr := B.returns
  have hts := atoms_spec (ws := (.codeWith yL_open cL_open 3 (some .int) [((0 : Nat), (8 : Nat), (11 : Nat), (13 : Nat)), ((0 : Nat), (8 : Nat), (14 : Nat), (15 : Nat)), ((0 : Nat), (8 : Nat), (17 : Nat), (17 : Nat)), ((0 : Nat), (8 : Nat), (20 : Nat), (19 : Nat))] :: WG)) B.pre
  have hown : s.vm.findClass RL = some m.cls := findClass_of_methodNamed B.named
  have hlocks := B.notSynchronized
  have htb := vx_table (x := yL_open) B (hts _ List.mem_cons_self)
  have hS : va_S A s.heap s.heap [] := va_S.rf
  have hl := lv_entry ([.ref (Zz Z 0), .ref o]) (n := 3) (Nat.le_of_ble_eq_true rfl)
  rw [lg_entry_eq]
  generalize (lg_sl ([.ref (Zz Z 0), .ref o]) ++ List.replicate (3 - (lg_sl ([.ref (Zz Z 0), .ref o])).length) Slot.unset).toArray = ls at hl ⊢
  have hl : lv_has ls 3 [(0, .ref (Zz Z 0)), (1, .ref o)] := hl
  refine lv_aload_n hx hb dL_open_0 rfl (lv_at hl 1 rfl) ?_
  refine lv_iconst (v := (0 : Int32)) hx hb dL_open_1 (by decide) ?_
  refine lv_aload_n hx hb dL_open_2 rfl (lv_at hl 0 rfl) ?_
  have hFc := zfreeR hD hS hA
  refine vx_calli (vx_runV (As := []) (rest := [.int (0 : Int32), .ref o]) ⟨hx, hb, hml, hown, hts⟩ (ct_X5_open l hl0 D c4 (va_A (cW c4 Z u) s.heap.size) Z hZ u res h) (cwV 0 hts (wz_V zw_250 zw_251 zw_252 zw_1 zw_253) rfl rfl rfl (by decide +kernel) ⟨Nat.le_of_ble_eq_true rfl, Nat.le_of_ble_eq_true rfl⟩) ⟨fbC, va_recv hK (va_P_r hP) (ci := 4) (q0 := 0) rfl rfl, fun U9 hU hW => ⟨rfl, goC2 hP hD hK hA hE hS hU hW⟩⟩ rfl rfl hl.1 rfl (lv_room (Nat.le_of_ble_eq_true rfl)) dL_open_3 ⟨Nat.le_of_ble_eq_true rfl, Nat.le_of_ble_eq_true rfl⟩) hS (fun q _ h => hFc q h) hFc (fun q _ h => hFc q h) (fun E9 ce9 q9 kw t H1 locs ht hvm e9 hB hz1 hk1 hS hc9 hv9 hcl9 => ?_) (fun r9 u9 t H1 locs ht hvm e9 hB hz1 hk1 hS => ?_)
  · obtain ⟨rfl, hP1, hD1, -, -⟩ := hB
    rw [ht] at hP1
    obtain ⟨hP, hD⟩ := zjoinR hP hD hk1 hFc hP1 hD1
    obtain ⟨k9, w9⟩ := kw
    rcases hk w9 k9 e9 with rfl | rfl | rfl | rfl
    · refine vx_catch (own := RL) (name := "java/lang/IndexOutOfBoundsException") hown [] ⟨0, 8, 11, 13⟩ [⟨0, 8, 14, 15⟩, ⟨0, 8, 17, 17⟩, ⟨0, 8, 20, 19⟩] htb (fun z hz => ?_) (by decide) (by decide) (hts _ (wm zw_246)) (va_Nw.use rfl (hE.2.2.2.2.2.2 _ (by decide))) hc9 hv9 hcl9 ?_
      · exact nomatch hz
      · refine lv_astore_n (lv' := [(2, .ref q9), (0, .ref (Zz Z 0)), (1, .ref o)]) hx hb dL_open_11 rfl hl (by decide) rfl (fun ls hl => ?_)
        refine lv_iconst (v := (1 : Int32)) hx hb dL_open_12 (by decide) ?_
        exact W.iret (v := (1 : Int32)) hx hb hr (fun t ht hW => ⟨⟨_, (w9, g), rfl, Or.inr ⟨_, e9, rfl⟩, wPre_go hP hD hK hA hS ht hW.alike⟩, hS.F ht⟩) hS.2.2 dL_open_13
    · refine vx_catch (own := RL) (name := "java/util/NoSuchElementException") hown [⟨0, 8, 11, 13⟩] ⟨0, 8, 14, 15⟩ [⟨0, 8, 17, 17⟩, ⟨0, 8, 20, 19⟩] htb (fun z hz => ?_) (by decide) (by decide) (hts _ (wm zw_247)) (va_Nw.use rfl (hE.2.2.2.2.2.2 _ (by decide))) hc9 hv9 hcl9 ?_
      · simp only [List.mem_cons, List.not_mem_nil, or_false] at hz
        subst hz
        exact Or.inr ⟨by decide, "java/lang/IndexOutOfBoundsException", hts _ (wm zw_246), hN _ (by decide) _ (by decide) (by decide)⟩
      · refine lv_astore_n (lv' := [(2, .ref q9), (0, .ref (Zz Z 0)), (1, .ref o)]) hx hb dL_open_14 rfl hl (by decide) rfl (fun ls hl => ?_)
        refine lv_iconst (v := (2 : Int32)) hx hb dL_open_15 (by decide) ?_
        exact W.iret (v := (2 : Int32)) hx hb hr (fun t ht hW => ⟨⟨_, (w9, g), rfl, Or.inr ⟨_, e9, rfl⟩, wPre_go hP hD hK hA hS ht hW.alike⟩, hS.F ht⟩) hS.2.2 dL_open_16
    · refine vx_catch (own := RL) (name := "java/lang/IllegalArgumentException") hown [⟨0, 8, 11, 13⟩, ⟨0, 8, 14, 15⟩] ⟨0, 8, 17, 17⟩ [⟨0, 8, 20, 19⟩] htb (fun z hz => ?_) (by decide) (by decide) (hts _ (wm zw_248)) (va_Nw.use rfl (hE.2.2.2.2.2.2 _ (by decide))) hc9 hv9 hcl9 ?_
      · simp only [List.mem_cons, List.not_mem_nil, or_false] at hz
        rcases hz with rfl | rfl
        · exact Or.inr ⟨by decide, "java/lang/IndexOutOfBoundsException", hts _ (wm zw_246), hN _ (by decide) _ (by decide) (by decide)⟩
        · exact Or.inr ⟨by decide, "java/util/NoSuchElementException", hts _ (wm zw_247), hN _ (by decide) _ (by decide) (by decide)⟩
      · refine lv_astore_n (lv' := [(2, .ref q9), (0, .ref (Zz Z 0)), (1, .ref o)]) hx hb dL_open_17 rfl hl (by decide) rfl (fun ls hl => ?_)
        refine lv_iconst (v := (3 : Int32)) hx hb dL_open_18 (by decide) ?_
        exact W.iret (v := (3 : Int32)) hx hb hr (fun t ht hW => ⟨⟨_, (w9, g), rfl, Or.inr ⟨_, e9, rfl⟩, wPre_go hP hD hK hA hS ht hW.alike⟩, hS.F ht⟩) hS.2.2 dL_open_19
    · refine vx_catch (own := RL) (name := "java/lang/IllegalStateException") hown [⟨0, 8, 11, 13⟩, ⟨0, 8, 14, 15⟩, ⟨0, 8, 17, 17⟩] ⟨0, 8, 20, 19⟩ [] htb (fun z hz => ?_) (by decide) (by decide) (hts _ (wm zw_249)) (va_Nw.use rfl (hE.2.2.2.2.2.2 _ (by decide))) hc9 hv9 hcl9 ?_
      · simp only [List.mem_cons, List.not_mem_nil, or_false] at hz
        rcases hz with rfl | rfl | rfl
        · exact Or.inr ⟨by decide, "java/lang/IndexOutOfBoundsException", hts _ (wm zw_246), hN _ (by decide) _ (by decide) (by decide)⟩
        · exact Or.inr ⟨by decide, "java/util/NoSuchElementException", hts _ (wm zw_247), hN _ (by decide) _ (by decide) (by decide)⟩
        · exact Or.inr ⟨by decide, "java/lang/IllegalArgumentException", hts _ (wm zw_248), hN _ (by decide) _ (by decide) (by decide)⟩
      · refine lv_astore_n (lv' := [(2, .ref q9), (0, .ref (Zz Z 0)), (1, .ref o)]) hx hb dL_open_20 rfl hl (by decide) rfl (fun ls hl => ?_)
        refine lv_iconst (v := (4 : Int32)) hx hb dL_open_21 (by decide) ?_
        exact W.iret (v := (4 : Int32)) hx hb hr (fun t ht hW => ⟨⟨_, (w9, g), rfl, Or.inr ⟨_, e9, rfl⟩, wPre_go hP hD hK hA hS ht hW.alike⟩, hS.F ht⟩) hS.2.2 dL_open_22
  · obtain ⟨hP1, hD1, -, -⟩ := hB
    rw [ht] at hP1
    obtain ⟨hP, hD⟩ := zjoinR hP hD hk1 hFc hP1 hD1
    refine lv_i2l hx hb dL_open_6 rfl ?_
    refine va_last hx hb hK hP hD hS 0 0 rfl rfl (inb_in (n := 1) (by decide)) dL_open_7 (fun H locs hP hD hS => ?_)
    have hP : va_P D vwCl (wO c4 o (vp_updL g (0 : Int32).toNatClampNeg (r9.toInt64)) ++ cW c4 Z u9) H := hP
    have hD : va_D A (wO c4 o (vp_updL g (0 : Int32).toNatClampNeg (r9.toInt64)) ++ cW c4 Z u9) := hD
    refine lv_goto (tgt := 23) hx hb dL_open_8 (by decide) ?_
    refine lv_iconst (v := (0 : Int32)) hx hb dL_open_23 (by decide) ?_
    refine W.widen (k := 1) (n := 6) (by omega) (by omega) ?_
    exact W.iret (v := (0 : Int32)) hx hb hr (fun t ht hW => ⟨⟨_, (u9, vp_updL g (0 : Int32).toNatClampNeg (r9.toInt64)), rfl, Or.inl ⟨_, e9, rfl, rfl⟩, wPre_go hP hD hK hA hS ht hW.alike⟩, hS.F ht⟩) hS.2.2 dL_open_24
set_option maxHeartbeats 4000000 in
set_option maxRecDepth 100000 in
theorem lt_go (l : Launch) (hl0 : l.stackTraces = false) (D : va_G) (c4 : Nat → ClassId) (A : Nat → Prop) (Z : CZ) (hZ : cok Z) (u : CS) (o : Nat) (g : Nat → Int64) (a1 : Int32) (a2 : Int32) (res : CS × (Nat ⊕ Int32)) (h : pX5_go Z u a1 a2 = some res) (hk : ∀ (w : CS) (k : Nat), res = (w, .inl k) → k = 2 ∨ k = 5 ∨ k = 1 ∨ k = 4 ∨ k = 3) : Met l yL_go (.codeWith yL_go cL_go 5 (some .int) [((0 : Nat), (10 : Nat), (13 : Nat), (15 : Nat)), ((0 : Nat), (10 : Nat), (17 : Nat), (25 : Nat)), ((0 : Nat), (10 : Nat), (21 : Nat), (13 : Nat)), ((0 : Nat), (10 : Nat), (25 : Nat), (19 : Nat)), ((0 : Nat), (10 : Nat), (29 : Nat), (17 : Nat))] :: WG) ({ frames := 10, cells := 1, slots := 6, locals := 196 } : Room) (va_Pc [.ref (Zz Z 0), .int a1, .int a2, .ref o] (fun U => lPre D c4 A Z u o g U)) (va_Qi (lAns (fun x : Int32 => x.toInt64) lco2 g res) (fun w t => wPre D c4 A (wO c4 o w.2 ++ cW c4 Z w.1) t) A) 1 6 A := by
  refine va_MetW (cc := cL_go) (maxL := 5) (ret := some .int) (hh := [((0 : Nat), (10 : Nat), (13 : Nat), (15 : Nat)), ((0 : Nat), (10 : Nat), (17 : Nat), (25 : Nat)), ((0 : Nat), (10 : Nat), (21 : Nat), (13 : Nat)), ((0 : Nat), (10 : Nat), (25 : Nat), (19 : Nat)), ((0 : Nat), (10 : Nat), (29 : Nat), (17 : Nat))]) (by decide) rfl ?_
  intro p e s m args below meth c s₁ B hml hv
  obtain ⟨rfl, ⟨hP, hD, hK, hA⟩, hE, hN⟩ := hv
  have hx := B.exec
  have hb := B.bytes
  have hr := B.returns
  have hts := atoms_spec (ws := (.codeWith yL_go cL_go 5 (some .int) [((0 : Nat), (10 : Nat), (13 : Nat), (15 : Nat)), ((0 : Nat), (10 : Nat), (17 : Nat), (25 : Nat)), ((0 : Nat), (10 : Nat), (21 : Nat), (13 : Nat)), ((0 : Nat), (10 : Nat), (25 : Nat), (19 : Nat)), ((0 : Nat), (10 : Nat), (29 : Nat), (17 : Nat))] :: WG)) B.pre
  have hown : s.vm.findClass RL = some m.cls := findClass_of_methodNamed B.named
  have hlocks := B.notSynchronized
  have htb := vx_table (x := yL_go) B (hts _ List.mem_cons_self)
  have hS : va_S A s.heap s.heap [] := va_S.rf
  have hl := lv_entry ([.ref (Zz Z 0), .int a1, .int a2, .ref o]) (n := 5) (Nat.le_of_ble_eq_true rfl)
  rw [lg_entry_eq]
  generalize (lg_sl ([.ref (Zz Z 0), .int a1, .int a2, .ref o]) ++ List.replicate (5 - (lg_sl ([.ref (Zz Z 0), .int a1, .int a2, .ref o])).length) Slot.unset).toArray = ls at hl ⊢
  have hl : lv_has ls 5 [(0, .ref (Zz Z 0)), (1, .int a1), (2, .int a2), (3, .ref o)] := hl
  refine lv_aload_n hx hb dL_go_0 rfl (lv_at hl 3 rfl) ?_
  refine lv_iconst (v := (0 : Int32)) hx hb dL_go_1 (by decide) ?_
  refine lv_aload_n hx hb dL_go_2 rfl (lv_at hl 0 rfl) ?_
  refine lv_iload_n hx hb dL_go_3 rfl (lv_at hl 1 rfl) ?_
  refine lv_iload_n hx hb dL_go_4 rfl (lv_at hl 2 rfl) ?_
  have hFc := zfreeR hD hS hA
  refine vx_calli (vx_runV (As := [.int a1, .int a2]) (rest := [.int (0 : Int32), .ref o]) ⟨hx, hb, hml, hown, hts⟩ (ct_X5_go l hl0 D c4 (va_A (cW c4 Z u) s.heap.size) Z hZ u a1 a2 res h) (cwV 2 hts (wz_V zw_472 zw_473 zw_474 zw_1 zw_475) rfl rfl rfl (by decide +kernel) ⟨Nat.le_of_ble_eq_true rfl, Nat.le_of_ble_eq_true rfl⟩) ⟨fbC, va_recv hK (va_P_r hP) (ci := 4) (q0 := 0) rfl rfl, fun U9 hU hW => ⟨rfl, goC2 hP hD hK hA hE hS hU hW⟩⟩ rfl rfl hl.1 rfl (lv_room (Nat.le_of_ble_eq_true rfl)) dL_go_5 ⟨Nat.le_of_ble_eq_true rfl, Nat.le_of_ble_eq_true rfl⟩) hS (fun q _ h => hFc q h) hFc (fun q _ h => hFc q h) (fun E9 ce9 q9 kw t H1 locs ht hvm e9 hB hz1 hk1 hS hc9 hv9 hcl9 => ?_) (fun r9 u9 t H1 locs ht hvm e9 hB hz1 hk1 hS => ?_)
  · obtain ⟨rfl, hP1, hD1, -, -⟩ := hB
    rw [ht] at hP1
    obtain ⟨hP, hD⟩ := zjoinR hP hD hk1 hFc hP1 hD1
    obtain ⟨k9, w9⟩ := kw
    rcases hk w9 k9 e9 with rfl | rfl | rfl | rfl | rfl
    · refine vx_catch (own := RL) (name := "java/util/NoSuchElementException") hown [] ⟨0, 10, 13, 15⟩ [⟨0, 10, 17, 25⟩, ⟨0, 10, 21, 13⟩, ⟨0, 10, 25, 19⟩, ⟨0, 10, 29, 17⟩] htb (fun z hz => ?_) (by decide) (by decide) (hts _ (wm zw_247)) (va_Nw.use rfl (hE.2.2.2.2.2.2 _ (by decide))) hc9 hv9 hcl9 ?_
      · exact nomatch hz
      · refine lv_astore (lv' := [(4, .ref q9), (0, .ref (Zz Z 0)), (1, .int a1), (2, .int a2), (3, .ref o)]) hx hb dL_go_13 hl (by decide) rfl (fun ls hl => ?_)
        refine lv_iconst (v := (1 : Int32)) hx hb dL_go_15 (by decide) ?_
        exact W.iret (v := (1 : Int32)) hx hb hr (fun t ht hW => ⟨⟨_, (w9, g), rfl, Or.inr ⟨_, e9, rfl⟩, wPre_go hP hD hK hA hS ht hW.alike⟩, hS.F ht⟩) hS.2.2 dL_go_16
    · refine vx_catch (own := RL) (name := "java/lang/UnsupportedOperationException") hown [⟨0, 10, 13, 15⟩] ⟨0, 10, 17, 25⟩ [⟨0, 10, 21, 13⟩, ⟨0, 10, 25, 19⟩, ⟨0, 10, 29, 17⟩] htb (fun z hz => ?_) (by decide) (by decide) (hts _ (wm zw_471)) (va_Nw.use rfl (hE.2.2.2.2.2.2 _ (by decide))) hc9 hv9 hcl9 ?_
      · simp only [List.mem_cons, List.not_mem_nil, or_false] at hz
        subst hz
        exact Or.inr ⟨by decide, "java/util/NoSuchElementException", hts _ (wm zw_247), hN _ (by decide) _ (by decide) (by decide)⟩
      · refine lv_astore (lv' := [(4, .ref q9), (0, .ref (Zz Z 0)), (1, .int a1), (2, .int a2), (3, .ref o)]) hx hb dL_go_17 hl (by decide) rfl (fun ls hl => ?_)
        refine lv_iconst (v := (2 : Int32)) hx hb dL_go_19 (by decide) ?_
        exact W.iret (v := (2 : Int32)) hx hb hr (fun t ht hW => ⟨⟨_, (w9, g), rfl, Or.inr ⟨_, e9, rfl⟩, wPre_go hP hD hK hA hS ht hW.alike⟩, hS.F ht⟩) hS.2.2 dL_go_20
    · refine vx_catch (own := RL) (name := "java/lang/IndexOutOfBoundsException") hown [⟨0, 10, 13, 15⟩, ⟨0, 10, 17, 25⟩] ⟨0, 10, 21, 13⟩ [⟨0, 10, 25, 19⟩, ⟨0, 10, 29, 17⟩] htb (fun z hz => ?_) (by decide) (by decide) (hts _ (wm zw_246)) (va_Nw.use rfl (hE.2.2.2.2.2.2 _ (by decide))) hc9 hv9 hcl9 ?_
      · simp only [List.mem_cons, List.not_mem_nil, or_false] at hz
        rcases hz with rfl | rfl
        · exact Or.inr ⟨by decide, "java/util/NoSuchElementException", hts _ (wm zw_247), hN _ (by decide) _ (by decide) (by decide)⟩
        · exact Or.inr ⟨by decide, "java/lang/UnsupportedOperationException", hts _ (wm zw_471), hN _ (by decide) _ (by decide) (by decide)⟩
      · refine lv_astore (lv' := [(4, .ref q9), (0, .ref (Zz Z 0)), (1, .int a1), (2, .int a2), (3, .ref o)]) hx hb dL_go_21 hl (by decide) rfl (fun ls hl => ?_)
        refine lv_iconst (v := (3 : Int32)) hx hb dL_go_23 (by decide) ?_
        exact W.iret (v := (3 : Int32)) hx hb hr (fun t ht hW => ⟨⟨_, (w9, g), rfl, Or.inr ⟨_, e9, rfl⟩, wPre_go hP hD hK hA hS ht hW.alike⟩, hS.F ht⟩) hS.2.2 dL_go_24
    · refine vx_catch (own := RL) (name := "java/lang/IllegalStateException") hown [⟨0, 10, 13, 15⟩, ⟨0, 10, 17, 25⟩, ⟨0, 10, 21, 13⟩] ⟨0, 10, 25, 19⟩ [⟨0, 10, 29, 17⟩] htb (fun z hz => ?_) (by decide) (by decide) (hts _ (wm zw_249)) (va_Nw.use rfl (hE.2.2.2.2.2.2 _ (by decide))) hc9 hv9 hcl9 ?_
      · simp only [List.mem_cons, List.not_mem_nil, or_false] at hz
        rcases hz with rfl | rfl | rfl
        · exact Or.inr ⟨by decide, "java/util/NoSuchElementException", hts _ (wm zw_247), hN _ (by decide) _ (by decide) (by decide)⟩
        · exact Or.inr ⟨by decide, "java/lang/UnsupportedOperationException", hts _ (wm zw_471), hN _ (by decide) _ (by decide) (by decide)⟩
        · exact Or.inr ⟨by decide, "java/lang/IndexOutOfBoundsException", hts _ (wm zw_246), hN _ (by decide) _ (by decide) (by decide)⟩
      · refine lv_astore (lv' := [(4, .ref q9), (0, .ref (Zz Z 0)), (1, .int a1), (2, .int a2), (3, .ref o)]) hx hb dL_go_25 hl (by decide) rfl (fun ls hl => ?_)
        refine lv_iconst (v := (4 : Int32)) hx hb dL_go_27 (by decide) ?_
        exact W.iret (v := (4 : Int32)) hx hb hr (fun t ht hW => ⟨⟨_, (w9, g), rfl, Or.inr ⟨_, e9, rfl⟩, wPre_go hP hD hK hA hS ht hW.alike⟩, hS.F ht⟩) hS.2.2 dL_go_28
    · refine vx_catch (own := RL) (name := "java/lang/IllegalArgumentException") hown [⟨0, 10, 13, 15⟩, ⟨0, 10, 17, 25⟩, ⟨0, 10, 21, 13⟩, ⟨0, 10, 25, 19⟩] ⟨0, 10, 29, 17⟩ [] htb (fun z hz => ?_) (by decide) (by decide) (hts _ (wm zw_248)) (va_Nw.use rfl (hE.2.2.2.2.2.2 _ (by decide))) hc9 hv9 hcl9 ?_
      · simp only [List.mem_cons, List.not_mem_nil, or_false] at hz
        rcases hz with rfl | rfl | rfl | rfl
        · exact Or.inr ⟨by decide, "java/util/NoSuchElementException", hts _ (wm zw_247), hN _ (by decide) _ (by decide) (by decide)⟩
        · exact Or.inr ⟨by decide, "java/lang/UnsupportedOperationException", hts _ (wm zw_471), hN _ (by decide) _ (by decide) (by decide)⟩
        · exact Or.inr ⟨by decide, "java/lang/IndexOutOfBoundsException", hts _ (wm zw_246), hN _ (by decide) _ (by decide) (by decide)⟩
        · exact Or.inr ⟨by decide, "java/lang/IllegalStateException", hts _ (wm zw_249), hN _ (by decide) _ (by decide) (by decide)⟩
      · refine lv_astore (lv' := [(4, .ref q9), (0, .ref (Zz Z 0)), (1, .int a1), (2, .int a2), (3, .ref o)]) hx hb dL_go_29 hl (by decide) rfl (fun ls hl => ?_)
        refine lv_iconst (v := (5 : Int32)) hx hb dL_go_31 (by decide) ?_
        exact W.iret (v := (5 : Int32)) hx hb hr (fun t ht hW => ⟨⟨_, (w9, g), rfl, Or.inr ⟨_, e9, rfl⟩, wPre_go hP hD hK hA hS ht hW.alike⟩, hS.F ht⟩) hS.2.2 dL_go_32
  · obtain ⟨hP1, hD1, -, -⟩ := hB
    rw [ht] at hP1
    obtain ⟨hP, hD⟩ := zjoinR hP hD hk1 hFc hP1 hD1
    refine lv_i2l hx hb dL_go_8 rfl ?_
    refine va_last hx hb hK hP hD hS 0 0 rfl rfl (inb_in (n := 1) (by decide)) dL_go_9 (fun H locs hP hD hS => ?_)
    have hP : va_P D vwCl (wO c4 o (vp_updL g (0 : Int32).toNatClampNeg (r9.toInt64)) ++ cW c4 Z u9) H := hP
    have hD : va_D A (wO c4 o (vp_updL g (0 : Int32).toNatClampNeg (r9.toInt64)) ++ cW c4 Z u9) := hD
    refine lv_goto (tgt := 33) hx hb dL_go_10 (by decide) ?_
    refine lv_iconst (v := (0 : Int32)) hx hb dL_go_33 (by decide) ?_
    refine W.widen (k := 1) (n := 6) (by omega) (by omega) ?_
    exact W.iret (v := (0 : Int32)) hx hb hr (fun t ht hW => ⟨⟨_, (u9, vp_updL g (0 : Int32).toNatClampNeg (r9.toInt64)), rfl, Or.inl ⟨_, e9, rfl, rfl⟩, wPre_go hP hD hK hA hS ht hW.alike⟩, hS.F ht⟩) hS.2.2 dL_go_34
set_option maxHeartbeats 4000000 in
set_option maxRecDepth 100000 in
theorem lt_element (l : Launch) (hl0 : l.stackTraces = false) (D : va_G) (c4 : Nat → ClassId) (A : Nat → Prop) (Z : CZ) (hZ : cok Z) (u : CS) (o : Nat) (g : Nat → Int64) (a1 : Int32) (a2 : Int32) (res : CS × (Nat ⊕ Int32)) (h : pX5_element Z u a1 a2 = some res) (hk : ∀ (w : CS) (k : Nat), res = (w, .inl k) → k = 2 ∨ k = 5 ∨ k = 1 ∨ k = 4) : Met l yL_element (.codeWith yL_element cL_element 5 (some .int) [((0 : Nat), (10 : Nat), (13 : Nat), (15 : Nat)), ((0 : Nat), (10 : Nat), (17 : Nat), (25 : Nat)), ((0 : Nat), (10 : Nat), (21 : Nat), (13 : Nat)), ((0 : Nat), (10 : Nat), (25 : Nat), (19 : Nat))] :: WG) ({ frames := 8, cells := 1, slots := 6, locals := 134 } : Room) (va_Pc [.ref (Zz Z 0), .int a1, .int a2, .ref o] (fun U => lPre D c4 A Z u o g U)) (va_Qi (lAns (fun x : Int32 => x.toInt64) lco2 g res) (fun w t => wPre D c4 A (wO c4 o w.2 ++ cW c4 Z w.1) t) A) 1 6 A := by
  refine va_MetW (cc := cL_element) (maxL := 5) (ret := some .int) (hh := [((0 : Nat), (10 : Nat), (13 : Nat), (15 : Nat)), ((0 : Nat), (10 : Nat), (17 : Nat), (25 : Nat)), ((0 : Nat), (10 : Nat), (21 : Nat), (13 : Nat)), ((0 : Nat), (10 : Nat), (25 : Nat), (19 : Nat))]) (by decide) rfl ?_
  intro p e s m args below meth c s₁ B hml hv
  obtain ⟨rfl, ⟨hP, hD, hK, hA⟩, hE, hN⟩ := hv
  have hx := B.exec
  have hb := B.bytes
  have hr := B.returns
  have hts := atoms_spec (ws := (.codeWith yL_element cL_element 5 (some .int) [((0 : Nat), (10 : Nat), (13 : Nat), (15 : Nat)), ((0 : Nat), (10 : Nat), (17 : Nat), (25 : Nat)), ((0 : Nat), (10 : Nat), (21 : Nat), (13 : Nat)), ((0 : Nat), (10 : Nat), (25 : Nat), (19 : Nat))] :: WG)) B.pre
  have hown : s.vm.findClass RL = some m.cls := findClass_of_methodNamed B.named
  have hlocks := B.notSynchronized
  have htb := vx_table (x := yL_element) B (hts _ List.mem_cons_self)
  have hS : va_S A s.heap s.heap [] := va_S.rf
  have hl := lv_entry ([.ref (Zz Z 0), .int a1, .int a2, .ref o]) (n := 5) (Nat.le_of_ble_eq_true rfl)
  rw [lg_entry_eq]
  generalize (lg_sl ([.ref (Zz Z 0), .int a1, .int a2, .ref o]) ++ List.replicate (5 - (lg_sl ([.ref (Zz Z 0), .int a1, .int a2, .ref o])).length) Slot.unset).toArray = ls at hl ⊢
  have hl : lv_has ls 5 [(0, .ref (Zz Z 0)), (1, .int a1), (2, .int a2), (3, .ref o)] := hl
  refine lv_aload_n hx hb dL_element_0 rfl (lv_at hl 3 rfl) ?_
  refine lv_iconst (v := (0 : Int32)) hx hb dL_element_1 (by decide) ?_
  refine lv_aload_n hx hb dL_element_2 rfl (lv_at hl 0 rfl) ?_
  refine lv_iload_n hx hb dL_element_3 rfl (lv_at hl 1 rfl) ?_
  refine lv_iload_n hx hb dL_element_4 rfl (lv_at hl 2 rfl) ?_
  have hFc := zfreeR hD hS hA
  refine vx_calli (vx_runV (As := [.int a1, .int a2]) (rest := [.int (0 : Int32), .ref o]) ⟨hx, hb, hml, hown, hts⟩ (ct_X5_element l hl0 D c4 (va_A (cW c4 Z u) s.heap.size) Z hZ u a1 a2 res h) (cwV 2 hts (wz_V zw_527 zw_528 zw_529 zw_1 zw_530) rfl rfl rfl (by decide +kernel) ⟨Nat.le_of_ble_eq_true rfl, Nat.le_of_ble_eq_true rfl⟩) ⟨fbC, va_recv hK (va_P_r hP) (ci := 4) (q0 := 0) rfl rfl, fun U9 hU hW => ⟨rfl, goC2 hP hD hK hA hE hS hU hW⟩⟩ rfl rfl hl.1 rfl (lv_room (Nat.le_of_ble_eq_true rfl)) dL_element_5 ⟨Nat.le_of_ble_eq_true rfl, Nat.le_of_ble_eq_true rfl⟩) hS (fun q _ h => hFc q h) hFc (fun q _ h => hFc q h) (fun E9 ce9 q9 kw t H1 locs ht hvm e9 hB hz1 hk1 hS hc9 hv9 hcl9 => ?_) (fun r9 u9 t H1 locs ht hvm e9 hB hz1 hk1 hS => ?_)
  · obtain ⟨rfl, hP1, hD1, -, -⟩ := hB
    rw [ht] at hP1
    obtain ⟨hP, hD⟩ := zjoinR hP hD hk1 hFc hP1 hD1
    obtain ⟨k9, w9⟩ := kw
    rcases hk w9 k9 e9 with rfl | rfl | rfl | rfl
    · refine vx_catch (own := RL) (name := "java/util/NoSuchElementException") hown [] ⟨0, 10, 13, 15⟩ [⟨0, 10, 17, 25⟩, ⟨0, 10, 21, 13⟩, ⟨0, 10, 25, 19⟩] htb (fun z hz => ?_) (by decide) (by decide) (hts _ (wm zw_247)) (va_Nw.use rfl (hE.2.2.2.2.2.2 _ (by decide))) hc9 hv9 hcl9 ?_
      · exact nomatch hz
      · refine lv_astore (lv' := [(4, .ref q9), (0, .ref (Zz Z 0)), (1, .int a1), (2, .int a2), (3, .ref o)]) hx hb dL_element_13 hl (by decide) rfl (fun ls hl => ?_)
        refine lv_iconst (v := (1 : Int32)) hx hb dL_element_15 (by decide) ?_
        exact W.iret (v := (1 : Int32)) hx hb hr (fun t ht hW => ⟨⟨_, (w9, g), rfl, Or.inr ⟨_, e9, rfl⟩, wPre_go hP hD hK hA hS ht hW.alike⟩, hS.F ht⟩) hS.2.2 dL_element_16
    · refine vx_catch (own := RL) (name := "java/lang/UnsupportedOperationException") hown [⟨0, 10, 13, 15⟩] ⟨0, 10, 17, 25⟩ [⟨0, 10, 21, 13⟩, ⟨0, 10, 25, 19⟩] htb (fun z hz => ?_) (by decide) (by decide) (hts _ (wm zw_471)) (va_Nw.use rfl (hE.2.2.2.2.2.2 _ (by decide))) hc9 hv9 hcl9 ?_
      · simp only [List.mem_cons, List.not_mem_nil, or_false] at hz
        subst hz
        exact Or.inr ⟨by decide, "java/util/NoSuchElementException", hts _ (wm zw_247), hN _ (by decide) _ (by decide) (by decide)⟩
      · refine lv_astore (lv' := [(4, .ref q9), (0, .ref (Zz Z 0)), (1, .int a1), (2, .int a2), (3, .ref o)]) hx hb dL_element_17 hl (by decide) rfl (fun ls hl => ?_)
        refine lv_iconst (v := (2 : Int32)) hx hb dL_element_19 (by decide) ?_
        exact W.iret (v := (2 : Int32)) hx hb hr (fun t ht hW => ⟨⟨_, (w9, g), rfl, Or.inr ⟨_, e9, rfl⟩, wPre_go hP hD hK hA hS ht hW.alike⟩, hS.F ht⟩) hS.2.2 dL_element_20
    · refine vx_catch (own := RL) (name := "java/lang/IndexOutOfBoundsException") hown [⟨0, 10, 13, 15⟩, ⟨0, 10, 17, 25⟩] ⟨0, 10, 21, 13⟩ [⟨0, 10, 25, 19⟩] htb (fun z hz => ?_) (by decide) (by decide) (hts _ (wm zw_246)) (va_Nw.use rfl (hE.2.2.2.2.2.2 _ (by decide))) hc9 hv9 hcl9 ?_
      · simp only [List.mem_cons, List.not_mem_nil, or_false] at hz
        rcases hz with rfl | rfl
        · exact Or.inr ⟨by decide, "java/util/NoSuchElementException", hts _ (wm zw_247), hN _ (by decide) _ (by decide) (by decide)⟩
        · exact Or.inr ⟨by decide, "java/lang/UnsupportedOperationException", hts _ (wm zw_471), hN _ (by decide) _ (by decide) (by decide)⟩
      · refine lv_astore (lv' := [(4, .ref q9), (0, .ref (Zz Z 0)), (1, .int a1), (2, .int a2), (3, .ref o)]) hx hb dL_element_21 hl (by decide) rfl (fun ls hl => ?_)
        refine lv_iconst (v := (3 : Int32)) hx hb dL_element_23 (by decide) ?_
        exact W.iret (v := (3 : Int32)) hx hb hr (fun t ht hW => ⟨⟨_, (w9, g), rfl, Or.inr ⟨_, e9, rfl⟩, wPre_go hP hD hK hA hS ht hW.alike⟩, hS.F ht⟩) hS.2.2 dL_element_24
    · refine vx_catch (own := RL) (name := "java/lang/IllegalStateException") hown [⟨0, 10, 13, 15⟩, ⟨0, 10, 17, 25⟩, ⟨0, 10, 21, 13⟩] ⟨0, 10, 25, 19⟩ [] htb (fun z hz => ?_) (by decide) (by decide) (hts _ (wm zw_249)) (va_Nw.use rfl (hE.2.2.2.2.2.2 _ (by decide))) hc9 hv9 hcl9 ?_
      · simp only [List.mem_cons, List.not_mem_nil, or_false] at hz
        rcases hz with rfl | rfl | rfl
        · exact Or.inr ⟨by decide, "java/util/NoSuchElementException", hts _ (wm zw_247), hN _ (by decide) _ (by decide) (by decide)⟩
        · exact Or.inr ⟨by decide, "java/lang/UnsupportedOperationException", hts _ (wm zw_471), hN _ (by decide) _ (by decide) (by decide)⟩
        · exact Or.inr ⟨by decide, "java/lang/IndexOutOfBoundsException", hts _ (wm zw_246), hN _ (by decide) _ (by decide) (by decide)⟩
      · refine lv_astore (lv' := [(4, .ref q9), (0, .ref (Zz Z 0)), (1, .int a1), (2, .int a2), (3, .ref o)]) hx hb dL_element_25 hl (by decide) rfl (fun ls hl => ?_)
        refine lv_iconst (v := (4 : Int32)) hx hb dL_element_27 (by decide) ?_
        exact W.iret (v := (4 : Int32)) hx hb hr (fun t ht hW => ⟨⟨_, (w9, g), rfl, Or.inr ⟨_, e9, rfl⟩, wPre_go hP hD hK hA hS ht hW.alike⟩, hS.F ht⟩) hS.2.2 dL_element_28
  · obtain ⟨hP1, hD1, -, -⟩ := hB
    rw [ht] at hP1
    obtain ⟨hP, hD⟩ := zjoinR hP hD hk1 hFc hP1 hD1
    refine lv_i2l hx hb dL_element_8 rfl ?_
    refine va_last hx hb hK hP hD hS 0 0 rfl rfl (inb_in (n := 1) (by decide)) dL_element_9 (fun H locs hP hD hS => ?_)
    have hP : va_P D vwCl (wO c4 o (vp_updL g (0 : Int32).toNatClampNeg (r9.toInt64)) ++ cW c4 Z u9) H := hP
    have hD : va_D A (wO c4 o (vp_updL g (0 : Int32).toNatClampNeg (r9.toInt64)) ++ cW c4 Z u9) := hD
    refine lv_goto (tgt := 29) hx hb dL_element_10 (by decide) ?_
    refine lv_iconst (v := (0 : Int32)) hx hb dL_element_29 (by decide) ?_
    refine W.widen (k := 1) (n := 6) (by omega) (by omega) ?_
    exact W.iret (v := (0 : Int32)) hx hb hr (fun t ht hW => ⟨⟨_, (u9, vp_updL g (0 : Int32).toNatClampNeg (r9.toInt64)), rfl, Or.inl ⟨_, e9, rfl, rfl⟩, wPre_go hP hD hK hA hS ht hW.alike⟩, hS.F ht⟩) hS.2.2 dL_element_30
set_option maxHeartbeats 4000000 in
set_option maxRecDepth 100000 in
theorem lt_about (l : Launch) (hl0 : l.stackTraces = false) (D : va_G) (c4 : Nat → ClassId) (A : Nat → Prop) (Z : CZ) (hZ : cok Z) (u : CS) (o : Nat) (g : Nat → Int64) (a1 : Int32) (a2 : Int32) (res : CS × (Nat ⊕ Int32)) (h : pX5_about Z u a1 a2 = some res) (hk : ∀ (w : CS) (k : Nat), res = (w, .inl k) → k = 2 ∨ k = 1) : Met l yL_about (.codeWith yL_about cL_about 5 (some .int) [((0 : Nat), (10 : Nat), (13 : Nat), (15 : Nat)), ((0 : Nat), (10 : Nat), (17 : Nat), (13 : Nat))] :: WG) ({ frames := 8, cells := 1, slots := 6, locals := 134 } : Room) (va_Pc [.ref (Zz Z 0), .int a1, .int a2, .ref o] (fun U => lPre D c4 A Z u o g U)) (va_Qi (lAns (fun x : Int32 => x.toInt64) lco3 g res) (fun w t => wPre D c4 A (wO c4 o w.2 ++ cW c4 Z w.1) t) A) 1 6 A := by
  refine va_MetW (cc := cL_about) (maxL := 5) (ret := some .int) (hh := [((0 : Nat), (10 : Nat), (13 : Nat), (15 : Nat)), ((0 : Nat), (10 : Nat), (17 : Nat), (13 : Nat))]) (by decide) rfl ?_
  intro p e s m args below meth c s₁ B hml hv
  obtain ⟨rfl, ⟨hP, hD, hK, hA⟩, hE, hN⟩ := hv
  have hx := B.exec
  have hb := B.bytes
  have hr := B.returns
  have hts := atoms_spec (ws := (.codeWith yL_about cL_about 5 (some .int) [((0 : Nat), (10 : Nat), (13 : Nat), (15 : Nat)), ((0 : Nat), (10 : Nat), (17 : Nat), (13 : Nat))] :: WG)) B.pre
  have hown : s.vm.findClass RL = some m.cls := findClass_of_methodNamed B.named
  have hlocks := B.notSynchronized
  have htb := vx_table (x := yL_about) B (hts _ List.mem_cons_self)
  have hS : va_S A s.heap s.heap [] := va_S.rf
  have hl := lv_entry ([.ref (Zz Z 0), .int a1, .int a2, .ref o]) (n := 5) (Nat.le_of_ble_eq_true rfl)
  rw [lg_entry_eq]
  generalize (lg_sl ([.ref (Zz Z 0), .int a1, .int a2, .ref o]) ++ List.replicate (5 - (lg_sl ([.ref (Zz Z 0), .int a1, .int a2, .ref o])).length) Slot.unset).toArray = ls at hl ⊢
  have hl : lv_has ls 5 [(0, .ref (Zz Z 0)), (1, .int a1), (2, .int a2), (3, .ref o)] := hl
  refine lv_aload_n hx hb dL_about_0 rfl (lv_at hl 3 rfl) ?_
  refine lv_iconst (v := (0 : Int32)) hx hb dL_about_1 (by decide) ?_
  refine lv_aload_n hx hb dL_about_2 rfl (lv_at hl 0 rfl) ?_
  refine lv_iload_n hx hb dL_about_3 rfl (lv_at hl 1 rfl) ?_
  refine lv_iload_n hx hb dL_about_4 rfl (lv_at hl 2 rfl) ?_
  have hFc := zfreeR hD hS hA
  refine vx_calli (vx_runV (As := [.int a1, .int a2]) (rest := [.int (0 : Int32), .ref o]) ⟨hx, hb, hml, hown, hts⟩ (ct_X5_about l hl0 D c4 (va_A (cW c4 Z u) s.heap.size) Z hZ u a1 a2 res h) (cwV 2 hts (wz_V zw_543 zw_544 zw_545 zw_1 zw_546) rfl rfl rfl (by decide +kernel) ⟨Nat.le_of_ble_eq_true rfl, Nat.le_of_ble_eq_true rfl⟩) ⟨fbC, va_recv hK (va_P_r hP) (ci := 4) (q0 := 0) rfl rfl, fun U9 hU hW => ⟨rfl, goC2 hP hD hK hA hE hS hU hW⟩⟩ rfl rfl hl.1 rfl (lv_room (Nat.le_of_ble_eq_true rfl)) dL_about_5 ⟨Nat.le_of_ble_eq_true rfl, Nat.le_of_ble_eq_true rfl⟩) hS (fun q _ h => hFc q h) hFc (fun q _ h => hFc q h) (fun E9 ce9 q9 kw t H1 locs ht hvm e9 hB hz1 hk1 hS hc9 hv9 hcl9 => ?_) (fun r9 u9 t H1 locs ht hvm e9 hB hz1 hk1 hS => ?_)
  · obtain ⟨rfl, hP1, hD1, -, -⟩ := hB
    rw [ht] at hP1
    obtain ⟨hP, hD⟩ := zjoinR hP hD hk1 hFc hP1 hD1
    obtain ⟨k9, w9⟩ := kw
    rcases hk w9 k9 e9 with rfl | rfl
    · refine vx_catch (own := RL) (name := "java/util/NoSuchElementException") hown [] ⟨0, 10, 13, 15⟩ [⟨0, 10, 17, 13⟩] htb (fun z hz => ?_) (by decide) (by decide) (hts _ (wm zw_247)) (va_Nw.use rfl (hE.2.2.2.2.2.2 _ (by decide))) hc9 hv9 hcl9 ?_
      · exact nomatch hz
      · refine lv_astore (lv' := [(4, .ref q9), (0, .ref (Zz Z 0)), (1, .int a1), (2, .int a2), (3, .ref o)]) hx hb dL_about_13 hl (by decide) rfl (fun ls hl => ?_)
        refine lv_iconst (v := (1 : Int32)) hx hb dL_about_15 (by decide) ?_
        exact W.iret (v := (1 : Int32)) hx hb hr (fun t ht hW => ⟨⟨_, (w9, g), rfl, Or.inr ⟨_, e9, rfl⟩, wPre_go hP hD hK hA hS ht hW.alike⟩, hS.F ht⟩) hS.2.2 dL_about_16
    · refine vx_catch (own := RL) (name := "java/lang/IndexOutOfBoundsException") hown [⟨0, 10, 13, 15⟩] ⟨0, 10, 17, 13⟩ [] htb (fun z hz => ?_) (by decide) (by decide) (hts _ (wm zw_246)) (va_Nw.use rfl (hE.2.2.2.2.2.2 _ (by decide))) hc9 hv9 hcl9 ?_
      · simp only [List.mem_cons, List.not_mem_nil, or_false] at hz
        subst hz
        exact Or.inr ⟨by decide, "java/util/NoSuchElementException", hts _ (wm zw_247), hN _ (by decide) _ (by decide) (by decide)⟩
      · refine lv_astore (lv' := [(4, .ref q9), (0, .ref (Zz Z 0)), (1, .int a1), (2, .int a2), (3, .ref o)]) hx hb dL_about_17 hl (by decide) rfl (fun ls hl => ?_)
        refine lv_iconst (v := (2 : Int32)) hx hb dL_about_19 (by decide) ?_
        exact W.iret (v := (2 : Int32)) hx hb hr (fun t ht hW => ⟨⟨_, (w9, g), rfl, Or.inr ⟨_, e9, rfl⟩, wPre_go hP hD hK hA hS ht hW.alike⟩, hS.F ht⟩) hS.2.2 dL_about_20
  · obtain ⟨hP1, hD1, -, -⟩ := hB
    rw [ht] at hP1
    obtain ⟨hP, hD⟩ := zjoinR hP hD hk1 hFc hP1 hD1
    refine lv_i2l hx hb dL_about_8 rfl ?_
    refine va_last hx hb hK hP hD hS 0 0 rfl rfl (inb_in (n := 1) (by decide)) dL_about_9 (fun H locs hP hD hS => ?_)
    have hP : va_P D vwCl (wO c4 o (vp_updL g (0 : Int32).toNatClampNeg (r9.toInt64)) ++ cW c4 Z u9) H := hP
    have hD : va_D A (wO c4 o (vp_updL g (0 : Int32).toNatClampNeg (r9.toInt64)) ++ cW c4 Z u9) := hD
    refine lv_goto (tgt := 21) hx hb dL_about_10 (by decide) ?_
    refine lv_iconst (v := (0 : Int32)) hx hb dL_about_21 (by decide) ?_
    refine W.widen (k := 1) (n := 6) (by omega) (by omega) ?_
    exact W.iret (v := (0 : Int32)) hx hb hr (fun t ht hW => ⟨⟨_, (u9, vp_updL g (0 : Int32).toNatClampNeg (r9.toInt64)), rfl, Or.inl ⟨_, e9, rfl, rfl⟩, wPre_go hP hD hK hA hS ht hW.alike⟩, hS.F ht⟩) hS.2.2 dL_about_22
set_option maxHeartbeats 4000000 in
set_option maxRecDepth 100000 in
theorem lt_data (l : Launch) (hl0 : l.stackTraces = false) (D : va_G) (c4 : Nat → ClassId) (A : Nat → Prop) (Z : CZ) (hZ : cok Z) (u : CS) (o : Nat) (g : Nat → Int64) (a1 : Int32) (a2 : Int32) (res : CS × (Nat ⊕ Int64)) (h : pX5_data Z u a1 a2 = some res) (hk : ∀ (w : CS) (k : Nat), res = (w, .inl k) → k = 2 ∨ k = 5 ∨ k = 1) : Met l yL_data (.codeWith yL_data cL_data 5 (some .int) [((0 : Nat), (9 : Nat), (12 : Nat), (15 : Nat)), ((0 : Nat), (9 : Nat), (16 : Nat), (25 : Nat)), ((0 : Nat), (9 : Nat), (20 : Nat), (13 : Nat))] :: WG) ({ frames := 8, cells := 1, slots := 6, locals := 134 } : Room) (va_Pc [.ref (Zz Z 0), .int a1, .int a2, .ref o] (fun U => lPre D c4 A Z u o g U)) (va_Qi (lAns (fun x : Int64 => x) lco2 g res) (fun w t => wPre D c4 A (wO c4 o w.2 ++ cW c4 Z w.1) t) A) 1 6 A := by
  refine va_MetW (cc := cL_data) (maxL := 5) (ret := some .int) (hh := [((0 : Nat), (9 : Nat), (12 : Nat), (15 : Nat)), ((0 : Nat), (9 : Nat), (16 : Nat), (25 : Nat)), ((0 : Nat), (9 : Nat), (20 : Nat), (13 : Nat))]) (by decide) rfl ?_
  intro p e s m args below meth c s₁ B hml hv
  obtain ⟨rfl, ⟨hP, hD, hK, hA⟩, hE, hN⟩ := hv
  have hx := B.exec
  have hb := B.bytes
  have hr := B.returns
  have hts := atoms_spec (ws := (.codeWith yL_data cL_data 5 (some .int) [((0 : Nat), (9 : Nat), (12 : Nat), (15 : Nat)), ((0 : Nat), (9 : Nat), (16 : Nat), (25 : Nat)), ((0 : Nat), (9 : Nat), (20 : Nat), (13 : Nat))] :: WG)) B.pre
  have hown : s.vm.findClass RL = some m.cls := findClass_of_methodNamed B.named
  have hlocks := B.notSynchronized
  have htb := vx_table (x := yL_data) B (hts _ List.mem_cons_self)
  have hS : va_S A s.heap s.heap [] := va_S.rf
  have hl := lv_entry ([.ref (Zz Z 0), .int a1, .int a2, .ref o]) (n := 5) (Nat.le_of_ble_eq_true rfl)
  rw [lg_entry_eq]
  generalize (lg_sl ([.ref (Zz Z 0), .int a1, .int a2, .ref o]) ++ List.replicate (5 - (lg_sl ([.ref (Zz Z 0), .int a1, .int a2, .ref o])).length) Slot.unset).toArray = ls at hl ⊢
  have hl : lv_has ls 5 [(0, .ref (Zz Z 0)), (1, .int a1), (2, .int a2), (3, .ref o)] := hl
  refine lv_aload_n hx hb dL_data_0 rfl (lv_at hl 3 rfl) ?_
  refine lv_iconst (v := (0 : Int32)) hx hb dL_data_1 (by decide) ?_
  refine lv_aload_n hx hb dL_data_2 rfl (lv_at hl 0 rfl) ?_
  refine lv_iload_n hx hb dL_data_3 rfl (lv_at hl 1 rfl) ?_
  refine lv_iload_n hx hb dL_data_4 rfl (lv_at hl 2 rfl) ?_
  have hFc := zfreeR hD hS hA
  refine vx_calll (vx_runV (As := [.int a1, .int a2]) (rest := [.int (0 : Int32), .ref o]) ⟨hx, hb, hml, hown, hts⟩ (ct_X5_data l hl0 D c4 (va_A (cW c4 Z u) s.heap.size) Z hZ u a1 a2 res h) (cwV 2 hts (wz_V zw_551 zw_552 zw_553 zw_1 zw_554) rfl rfl rfl (by decide +kernel) ⟨Nat.le_of_ble_eq_true rfl, Nat.le_of_ble_eq_true rfl⟩) ⟨fbC, va_recv hK (va_P_r hP) (ci := 4) (q0 := 0) rfl rfl, fun U9 hU hW => ⟨rfl, goC2 hP hD hK hA hE hS hU hW⟩⟩ rfl rfl hl.1 rfl (lv_room (Nat.le_of_ble_eq_true rfl)) dL_data_5 ⟨Nat.le_of_ble_eq_true rfl, Nat.le_of_ble_eq_true rfl⟩) hS (fun q _ h => hFc q h) hFc (fun q _ h => hFc q h) (fun E9 ce9 q9 kw t H1 locs ht hvm e9 hB hz1 hk1 hS hc9 hv9 hcl9 => ?_) (fun r9 u9 t H1 locs ht hvm e9 hB hz1 hk1 hS => ?_)
  · obtain ⟨rfl, hP1, hD1, -, -⟩ := hB
    rw [ht] at hP1
    obtain ⟨hP, hD⟩ := zjoinR hP hD hk1 hFc hP1 hD1
    obtain ⟨k9, w9⟩ := kw
    rcases hk w9 k9 e9 with rfl | rfl | rfl
    · refine vx_catch (own := RL) (name := "java/util/NoSuchElementException") hown [] ⟨0, 9, 12, 15⟩ [⟨0, 9, 16, 25⟩, ⟨0, 9, 20, 13⟩] htb (fun z hz => ?_) (by decide) (by decide) (hts _ (wm zw_247)) (va_Nw.use rfl (hE.2.2.2.2.2.2 _ (by decide))) hc9 hv9 hcl9 ?_
      · exact nomatch hz
      · refine lv_astore (lv' := [(4, .ref q9), (0, .ref (Zz Z 0)), (1, .int a1), (2, .int a2), (3, .ref o)]) hx hb dL_data_12 hl (by decide) rfl (fun ls hl => ?_)
        refine lv_iconst (v := (1 : Int32)) hx hb dL_data_14 (by decide) ?_
        exact W.iret (v := (1 : Int32)) hx hb hr (fun t ht hW => ⟨⟨_, (w9, g), rfl, Or.inr ⟨_, e9, rfl⟩, wPre_go hP hD hK hA hS ht hW.alike⟩, hS.F ht⟩) hS.2.2 dL_data_15
    · refine vx_catch (own := RL) (name := "java/lang/UnsupportedOperationException") hown [⟨0, 9, 12, 15⟩] ⟨0, 9, 16, 25⟩ [⟨0, 9, 20, 13⟩] htb (fun z hz => ?_) (by decide) (by decide) (hts _ (wm zw_471)) (va_Nw.use rfl (hE.2.2.2.2.2.2 _ (by decide))) hc9 hv9 hcl9 ?_
      · simp only [List.mem_cons, List.not_mem_nil, or_false] at hz
        subst hz
        exact Or.inr ⟨by decide, "java/util/NoSuchElementException", hts _ (wm zw_247), hN _ (by decide) _ (by decide) (by decide)⟩
      · refine lv_astore (lv' := [(4, .ref q9), (0, .ref (Zz Z 0)), (1, .int a1), (2, .int a2), (3, .ref o)]) hx hb dL_data_16 hl (by decide) rfl (fun ls hl => ?_)
        refine lv_iconst (v := (2 : Int32)) hx hb dL_data_18 (by decide) ?_
        exact W.iret (v := (2 : Int32)) hx hb hr (fun t ht hW => ⟨⟨_, (w9, g), rfl, Or.inr ⟨_, e9, rfl⟩, wPre_go hP hD hK hA hS ht hW.alike⟩, hS.F ht⟩) hS.2.2 dL_data_19
    · refine vx_catch (own := RL) (name := "java/lang/IndexOutOfBoundsException") hown [⟨0, 9, 12, 15⟩, ⟨0, 9, 16, 25⟩] ⟨0, 9, 20, 13⟩ [] htb (fun z hz => ?_) (by decide) (by decide) (hts _ (wm zw_246)) (va_Nw.use rfl (hE.2.2.2.2.2.2 _ (by decide))) hc9 hv9 hcl9 ?_
      · simp only [List.mem_cons, List.not_mem_nil, or_false] at hz
        rcases hz with rfl | rfl
        · exact Or.inr ⟨by decide, "java/util/NoSuchElementException", hts _ (wm zw_247), hN _ (by decide) _ (by decide) (by decide)⟩
        · exact Or.inr ⟨by decide, "java/lang/UnsupportedOperationException", hts _ (wm zw_471), hN _ (by decide) _ (by decide) (by decide)⟩
      · refine lv_astore (lv' := [(4, .ref q9), (0, .ref (Zz Z 0)), (1, .int a1), (2, .int a2), (3, .ref o)]) hx hb dL_data_20 hl (by decide) rfl (fun ls hl => ?_)
        refine lv_iconst (v := (3 : Int32)) hx hb dL_data_22 (by decide) ?_
        exact W.iret (v := (3 : Int32)) hx hb hr (fun t ht hW => ⟨⟨_, (w9, g), rfl, Or.inr ⟨_, e9, rfl⟩, wPre_go hP hD hK hA hS ht hW.alike⟩, hS.F ht⟩) hS.2.2 dL_data_23
  · obtain ⟨hP1, hD1, -, -⟩ := hB
    rw [ht] at hP1
    obtain ⟨hP, hD⟩ := zjoinR hP hD hk1 hFc hP1 hD1
    refine va_last hx hb hK hP hD hS 0 0 rfl rfl (inb_in (n := 1) (by decide)) dL_data_8 (fun H locs hP hD hS => ?_)
    have hP : va_P D vwCl (wO c4 o (vp_updL g (0 : Int32).toNatClampNeg (r9)) ++ cW c4 Z u9) H := hP
    have hD : va_D A (wO c4 o (vp_updL g (0 : Int32).toNatClampNeg (r9)) ++ cW c4 Z u9) := hD
    refine lv_goto (tgt := 24) hx hb dL_data_9 (by decide) ?_
    refine lv_iconst (v := (0 : Int32)) hx hb dL_data_24 (by decide) ?_
    refine W.widen (k := 1) (n := 6) (by omega) (by omega) ?_
    exact W.iret (v := (0 : Int32)) hx hb hr (fun t ht hW => ⟨⟨_, (u9, vp_updL g (0 : Int32).toNatClampNeg (r9)), rfl, Or.inl ⟨_, e9, rfl, rfl⟩, wPre_go hP hD hK hA hS ht hW.alike⟩, hS.F ht⟩) hS.2.2 dL_data_25
set_option maxHeartbeats 4000000 in
set_option maxRecDepth 100000 in
theorem lt_form (l : Launch) (hl0 : l.stackTraces = false) (D : va_G) (c4 : Nat → ClassId) (A : Nat → Prop) (Z : CZ) (hZ : cok Z) (u : CS) (o : Nat) (g : Nat → Int64) (res : CS × (Nat ⊕ Int32)) (h : pX5_form Z u = some res) (hk : ∀ (w : CS) (k : Nat), res = (w, .inl k) → k = 1 ∨ k = 2 ∨ k = 3 ∨ k = 4) : Met l yL_form (.codeWith yL_form cL_form 3 (some .int) [((0 : Nat), (8 : Nat), (11 : Nat), (13 : Nat)), ((0 : Nat), (8 : Nat), (14 : Nat), (15 : Nat)), ((0 : Nat), (8 : Nat), (17 : Nat), (17 : Nat)), ((0 : Nat), (8 : Nat), (20 : Nat), (19 : Nat))] :: WG) ({ frames := 102, cells := 1, slots := 6, locals := 4043 } : Room) (va_Pc [.ref (Zz Z 0), .ref o] (fun U => lPre D c4 A Z u o g U)) (va_Qi (lAns (fun x : Int32 => x.toInt64) lco1 g res) (fun w t => wPre D c4 A (wO c4 o w.2 ++ cW c4 Z w.1) t) A) 1 6 A := by
  refine va_MetW (cc := cL_form) (maxL := 3) (ret := some .int) (hh := [((0 : Nat), (8 : Nat), (11 : Nat), (13 : Nat)), ((0 : Nat), (8 : Nat), (14 : Nat), (15 : Nat)), ((0 : Nat), (8 : Nat), (17 : Nat), (17 : Nat)), ((0 : Nat), (8 : Nat), (20 : Nat), (19 : Nat))]) (by decide) rfl ?_
  intro p e s m args below meth c s₁ B hml hv
  obtain ⟨rfl, ⟨hP, hD, hK, hA⟩, hE, hN⟩ := hv
  have hx := B.exec
  have hb := B.bytes
  have hr := B.returns
  have hts := atoms_spec (ws := (.codeWith yL_form cL_form 3 (some .int) [((0 : Nat), (8 : Nat), (11 : Nat), (13 : Nat)), ((0 : Nat), (8 : Nat), (14 : Nat), (15 : Nat)), ((0 : Nat), (8 : Nat), (17 : Nat), (17 : Nat)), ((0 : Nat), (8 : Nat), (20 : Nat), (19 : Nat))] :: WG)) B.pre
  have hown : s.vm.findClass RL = some m.cls := findClass_of_methodNamed B.named
  have hlocks := B.notSynchronized
  have htb := vx_table (x := yL_form) B (hts _ List.mem_cons_self)
  have hS : va_S A s.heap s.heap [] := va_S.rf
  have hl := lv_entry ([.ref (Zz Z 0), .ref o]) (n := 3) (Nat.le_of_ble_eq_true rfl)
  rw [lg_entry_eq]
  generalize (lg_sl ([.ref (Zz Z 0), .ref o]) ++ List.replicate (3 - (lg_sl ([.ref (Zz Z 0), .ref o])).length) Slot.unset).toArray = ls at hl ⊢
  have hl : lv_has ls 3 [(0, .ref (Zz Z 0)), (1, .ref o)] := hl
  refine lv_aload_n hx hb dL_form_0 rfl (lv_at hl 1 rfl) ?_
  refine lv_iconst (v := (0 : Int32)) hx hb dL_form_1 (by decide) ?_
  refine lv_aload_n hx hb dL_form_2 rfl (lv_at hl 0 rfl) ?_
  have hFc := zfreeR hD hS hA
  refine vx_calli (vx_runV (As := []) (rest := [.int (0 : Int32), .ref o]) ⟨hx, hb, hml, hown, hts⟩ (ct_X5_form l hl0 D c4 (va_A (cW c4 Z u) s.heap.size) Z hZ u res h) (cwV 0 hts (wz_V zw_568 zw_569 zw_570 zw_1 zw_571) rfl rfl rfl (by decide +kernel) ⟨Nat.le_of_ble_eq_true rfl, Nat.le_of_ble_eq_true rfl⟩) ⟨fbC, va_recv hK (va_P_r hP) (ci := 4) (q0 := 0) rfl rfl, fun U9 hU hW => ⟨rfl, goC2 hP hD hK hA hE hS hU hW⟩⟩ rfl rfl hl.1 rfl (lv_room (Nat.le_of_ble_eq_true rfl)) dL_form_3 ⟨Nat.le_of_ble_eq_true rfl, Nat.le_of_ble_eq_true rfl⟩) hS (fun q _ h => hFc q h) hFc (fun q _ h => hFc q h) (fun E9 ce9 q9 kw t H1 locs ht hvm e9 hB hz1 hk1 hS hc9 hv9 hcl9 => ?_) (fun r9 u9 t H1 locs ht hvm e9 hB hz1 hk1 hS => ?_)
  · obtain ⟨rfl, hP1, hD1, -, -⟩ := hB
    rw [ht] at hP1
    obtain ⟨hP, hD⟩ := zjoinR hP hD hk1 hFc hP1 hD1
    obtain ⟨k9, w9⟩ := kw
    rcases hk w9 k9 e9 with rfl | rfl | rfl | rfl
    · refine vx_catch (own := RL) (name := "java/lang/IndexOutOfBoundsException") hown [] ⟨0, 8, 11, 13⟩ [⟨0, 8, 14, 15⟩, ⟨0, 8, 17, 17⟩, ⟨0, 8, 20, 19⟩] htb (fun z hz => ?_) (by decide) (by decide) (hts _ (wm zw_246)) (va_Nw.use rfl (hE.2.2.2.2.2.2 _ (by decide))) hc9 hv9 hcl9 ?_
      · exact nomatch hz
      · refine lv_astore_n (lv' := [(2, .ref q9), (0, .ref (Zz Z 0)), (1, .ref o)]) hx hb dL_form_11 rfl hl (by decide) rfl (fun ls hl => ?_)
        refine lv_iconst (v := (1 : Int32)) hx hb dL_form_12 (by decide) ?_
        exact W.iret (v := (1 : Int32)) hx hb hr (fun t ht hW => ⟨⟨_, (w9, g), rfl, Or.inr ⟨_, e9, rfl⟩, wPre_go hP hD hK hA hS ht hW.alike⟩, hS.F ht⟩) hS.2.2 dL_form_13
    · refine vx_catch (own := RL) (name := "java/util/NoSuchElementException") hown [⟨0, 8, 11, 13⟩] ⟨0, 8, 14, 15⟩ [⟨0, 8, 17, 17⟩, ⟨0, 8, 20, 19⟩] htb (fun z hz => ?_) (by decide) (by decide) (hts _ (wm zw_247)) (va_Nw.use rfl (hE.2.2.2.2.2.2 _ (by decide))) hc9 hv9 hcl9 ?_
      · simp only [List.mem_cons, List.not_mem_nil, or_false] at hz
        subst hz
        exact Or.inr ⟨by decide, "java/lang/IndexOutOfBoundsException", hts _ (wm zw_246), hN _ (by decide) _ (by decide) (by decide)⟩
      · refine lv_astore_n (lv' := [(2, .ref q9), (0, .ref (Zz Z 0)), (1, .ref o)]) hx hb dL_form_14 rfl hl (by decide) rfl (fun ls hl => ?_)
        refine lv_iconst (v := (2 : Int32)) hx hb dL_form_15 (by decide) ?_
        exact W.iret (v := (2 : Int32)) hx hb hr (fun t ht hW => ⟨⟨_, (w9, g), rfl, Or.inr ⟨_, e9, rfl⟩, wPre_go hP hD hK hA hS ht hW.alike⟩, hS.F ht⟩) hS.2.2 dL_form_16
    · refine vx_catch (own := RL) (name := "java/lang/IllegalArgumentException") hown [⟨0, 8, 11, 13⟩, ⟨0, 8, 14, 15⟩] ⟨0, 8, 17, 17⟩ [⟨0, 8, 20, 19⟩] htb (fun z hz => ?_) (by decide) (by decide) (hts _ (wm zw_248)) (va_Nw.use rfl (hE.2.2.2.2.2.2 _ (by decide))) hc9 hv9 hcl9 ?_
      · simp only [List.mem_cons, List.not_mem_nil, or_false] at hz
        rcases hz with rfl | rfl
        · exact Or.inr ⟨by decide, "java/lang/IndexOutOfBoundsException", hts _ (wm zw_246), hN _ (by decide) _ (by decide) (by decide)⟩
        · exact Or.inr ⟨by decide, "java/util/NoSuchElementException", hts _ (wm zw_247), hN _ (by decide) _ (by decide) (by decide)⟩
      · refine lv_astore_n (lv' := [(2, .ref q9), (0, .ref (Zz Z 0)), (1, .ref o)]) hx hb dL_form_17 rfl hl (by decide) rfl (fun ls hl => ?_)
        refine lv_iconst (v := (3 : Int32)) hx hb dL_form_18 (by decide) ?_
        exact W.iret (v := (3 : Int32)) hx hb hr (fun t ht hW => ⟨⟨_, (w9, g), rfl, Or.inr ⟨_, e9, rfl⟩, wPre_go hP hD hK hA hS ht hW.alike⟩, hS.F ht⟩) hS.2.2 dL_form_19
    · refine vx_catch (own := RL) (name := "java/lang/IllegalStateException") hown [⟨0, 8, 11, 13⟩, ⟨0, 8, 14, 15⟩, ⟨0, 8, 17, 17⟩] ⟨0, 8, 20, 19⟩ [] htb (fun z hz => ?_) (by decide) (by decide) (hts _ (wm zw_249)) (va_Nw.use rfl (hE.2.2.2.2.2.2 _ (by decide))) hc9 hv9 hcl9 ?_
      · simp only [List.mem_cons, List.not_mem_nil, or_false] at hz
        rcases hz with rfl | rfl | rfl
        · exact Or.inr ⟨by decide, "java/lang/IndexOutOfBoundsException", hts _ (wm zw_246), hN _ (by decide) _ (by decide) (by decide)⟩
        · exact Or.inr ⟨by decide, "java/util/NoSuchElementException", hts _ (wm zw_247), hN _ (by decide) _ (by decide) (by decide)⟩
        · exact Or.inr ⟨by decide, "java/lang/IllegalArgumentException", hts _ (wm zw_248), hN _ (by decide) _ (by decide) (by decide)⟩
      · refine lv_astore_n (lv' := [(2, .ref q9), (0, .ref (Zz Z 0)), (1, .ref o)]) hx hb dL_form_20 rfl hl (by decide) rfl (fun ls hl => ?_)
        refine lv_iconst (v := (4 : Int32)) hx hb dL_form_21 (by decide) ?_
        exact W.iret (v := (4 : Int32)) hx hb hr (fun t ht hW => ⟨⟨_, (w9, g), rfl, Or.inr ⟨_, e9, rfl⟩, wPre_go hP hD hK hA hS ht hW.alike⟩, hS.F ht⟩) hS.2.2 dL_form_22
  · obtain ⟨hP1, hD1, -, -⟩ := hB
    rw [ht] at hP1
    obtain ⟨hP, hD⟩ := zjoinR hP hD hk1 hFc hP1 hD1
    refine lv_i2l hx hb dL_form_6 rfl ?_
    refine va_last hx hb hK hP hD hS 0 0 rfl rfl (inb_in (n := 1) (by decide)) dL_form_7 (fun H locs hP hD hS => ?_)
    have hP : va_P D vwCl (wO c4 o (vp_updL g (0 : Int32).toNatClampNeg (r9.toInt64)) ++ cW c4 Z u9) H := hP
    have hD : va_D A (wO c4 o (vp_updL g (0 : Int32).toNatClampNeg (r9.toInt64)) ++ cW c4 Z u9) := hD
    refine lv_goto (tgt := 23) hx hb dL_form_8 (by decide) ?_
    refine lv_iconst (v := (0 : Int32)) hx hb dL_form_23 (by decide) ?_
    refine W.widen (k := 1) (n := 6) (by omega) (by omega) ?_
    exact W.iret (v := (0 : Int32)) hx hb hr (fun t ht hW => ⟨⟨_, (u9, vp_updL g (0 : Int32).toNatClampNeg (r9.toInt64)), rfl, Or.inl ⟨_, e9, rfl, rfl⟩, wPre_go hP hD hK hA hS ht hW.alike⟩, hS.F ht⟩) hS.2.2 dL_form_24
