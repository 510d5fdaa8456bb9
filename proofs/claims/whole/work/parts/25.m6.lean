def pX6_writeList_170 : Nat → MS → Int32 → Int32 → Int32 → Int32 → Option (MS × Unit)
  | 0, _, _, _, _, _ => none
  | n + 1, v, x0, x1, x2, x3 => (if x3 < 0 then some (v, ()) else (if x1 = (6 : Int32) then ((pX6_await v (x2 + x3) (Vi v 6) ((Vi v 7) + x3) (x0 + (1 : Int32))).bind fun x_3 => pX6_writeList_170 n (x_3.1) x0 x1 x2 (x3 + (-1 : Int32))) else some (v, ())))
theorem pX6_writeList_170_s (n : Nat) (v : MS) (x0 : Int32) (x1 : Int32) (x2 : Int32) (x3 : Int32) : pX6_writeList_170 (n + 1) v x0 x1 x2 x3 = (if x3 < 0 then some (v, ()) else (if x1 = (6 : Int32) then ((pX6_await v (x2 + x3) (Vi v 6) ((Vi v 7) + x3) (x0 + (1 : Int32))).bind fun x_3 => pX6_writeList_170 n (x_3.1) x0 x1 x2 (x3 + (-1 : Int32))) else some (v, ()))) := rfl
def pX6_writeList_161 (v : MS) (x0 : Int32) (x1 : Int32) (x2 : Int32) : Option (MS × Unit) := ((some (((Vl v 11).toInt32) - (1 : Int32))).bind fun y_4 => pX6_writeList_170 300 v x0 x1 x2 y_4)
def pX6_writeList_122 (v : MS) (x0 : Int32) (x1 : Int32) (x2 : Int32) (y0 : Int64) : Option (MS × Unit) := (if y0 ≤ (0 : Int64) then pX6_writeList_161 v x0 x1 x2 else (if inb ((Vi v 21) - (1 : Int32)) 160 = true then ((some ((Vr v 22 ((Vi v 21) - (1 : Int32)).toNatClampNeg) &&& (((1 : Int64) <<< ((y0.toInt32).toInt64 &&& 63)) - (1 : Int64)))).bind fun y_7 => (if inb ((Vi v 21) - (1 : Int32)) 160 = true then pX6_writeList_161 (tR v 22 ((Vi v 21) - (1 : Int32)).toNatClampNeg y_7) x0 x1 x2 else none)) else none))
def pX6_writeList_89 (kf_57 : MS → Int32 → Int32 → Int32 → Int32 → Int32 → Option (MS × Unit)) (v : MS) (x0 : Int32) (x1 : Int32) (x2 : Int32) (x3 : Int32) (x4 : Int32) (y0 : Int64) : Option (MS × Unit) := ((pX6_put v y0).bind fun x_9 => kf_57 (x_9.1) x0 x1 x2 x3 (x4 + (1 : Int32)))
def pX6_writeList_57 : Nat → MS → Int32 → Int32 → Int32 → Int32 → Int32 → Option (MS × Unit)
  | 0, _, _, _, _, _, _ => none
  | n + 1, v, x0, x1, x2, x3, x4 => (if (Vl v 11) ≤ (x4.toInt64) then (if (6 : Int32) ≤ x1 then pX6_writeList_122 v x0 x1 x3 (0 : Int64) else pX6_writeList_122 v x0 x1 x3 (((Vl v 8) * ((pX6_bits x1).toInt64)) - ((Vl v 8) * ((pX6_bits x1).toInt64)) / (64 : Int64) * (64 : Int64))) else (if x1 = (6 : Int32) then pX6_writeList_89 (fun u9 x0 x1 x2 x3 x4 => pX6_writeList_57 n u9 x0 x1 x2 x3 x4) v x0 x1 x2 x3 x4 (0 : Int64) else (if inb (x2 + x4) 256 = true then pX6_writeList_89 (fun u9 x0 x1 x2 x3 x4 => pX6_writeList_57 n u9 x0 x1 x2 x3 x4) v x0 x1 x2 x3 x4 (Vr v 1 (x2 + x4).toNatClampNeg) else none)))
theorem pX6_writeList_57_s (n : Nat) (v : MS) (x0 : Int32) (x1 : Int32) (x2 : Int32) (x3 : Int32) (x4 : Int32) : pX6_writeList_57 (n + 1) v x0 x1 x2 x3 x4 = (if (Vl v 11) ≤ (x4.toInt64) then (if (6 : Int32) ≤ x1 then pX6_writeList_122 v x0 x1 x3 (0 : Int64) else pX6_writeList_122 v x0 x1 x3 (((Vl v 8) * ((pX6_bits x1).toInt64)) - ((Vl v 8) * ((pX6_bits x1).toInt64)) / (64 : Int64) * (64 : Int64))) else (if x1 = (6 : Int32) then pX6_writeList_89 (fun u9 x0 x1 x2 x3 x4 => pX6_writeList_57 n u9 x0 x1 x2 x3 x4) v x0 x1 x2 x3 x4 (0 : Int64) else (if inb (x2 + x4) 256 = true then pX6_writeList_89 (fun u9 x0 x1 x2 x3 x4 => pX6_writeList_57 n u9 x0 x1 x2 x3 x4) v x0 x1 x2 x3 x4 (Vr v 1 (x2 + x4).toNatClampNeg) else none))) := rfl
def pX6_writeList (v : MS) (a1 : Int32) (a2 : Int32) : Option (MS × Unit) := ((some ((Vi v 5) - (1 : Int32))).bind fun y_15 => ((some (((64 : Int32) * (Vi v 6)) + (Vi v 7))).bind fun y_16 => ((some (Vi v 21)).bind fun y_17 => ((some (pX6_pointer a1 y_17 (((1 : Int64) ||| ((y_15.toInt64) <<< ((32 : Int32).toInt64 &&& 63))) ||| ((Vl v 8) <<< ((35 : Int32).toInt64 &&& 63))))).bind fun y_19 => (if inb a1 160 = true then pX6_writeList_57 300 (tR v 22 a1.toNatClampNeg y_19) a2 y_15 y_16 y_17 (0 : Int32) else none)))))
set_option maxHeartbeats 4000000 in
set_option maxRecDepth 100000 in
theorem ct_X6_writeList (l : Launch) (D : va_G) (c4 : Nat → ClassId) (A : Nat → Prop) (z : Nat → Nat) (v : MS) (a1 : Int32) (a2 : Int32) (res : MS × Unit) (h : pX6_writeList v a1 a2 = some res) : Met l yX6_writeList (wz yX6_writeList cX6_writeList 9 none) ({ frames := 1, cells := 0, slots := 0, locals := 25 } : Room) (va_Pc [.ref (z 0), .int a1, .int a2] (fun U => mPre D c4 A z v U)) (va_Qv (fun w => res = (w, ())) (fun w t => wPre D c4 A (mW c4 z w) t) A) 0 0 A := by
  refine Met.ofW (cc := cX6_writeList) (maxL := 9) (ret := none) (by decide) rfl ?_
  intro p e s m args below meth c s₁ B hml hv
  obtain ⟨rfl, hP, hD, hK, hA⟩ := hv
  have hx := B.exec
  have hb := B.bytes
  have hr := B.returns
  have hts := atoms_spec (ws := (wz yX6_writeList cX6_writeList 9 none)) B.pre
  have hown : s.vm.findClass RX6 = some m.cls := findClass_of_methodNamed B.named
  have hlocks := B.notSynchronized
  have hS : va_S A s.heap s.heap [] := va_S.rf
  have hl := lv_entry ([.ref (z 0), .int a1, .int a2]) (n := 9) (Nat.le_of_ble_eq_true rfl)
  rw [lg_entry_eq]
  generalize (lg_sl ([.ref (z 0), .int a1, .int a2]) ++ List.replicate (9 - (lg_sl ([.ref (z 0), .int a1, .int a2])).length) Slot.unset).toArray = ls at hl ⊢
  have hl : lv_has ls 9 [(0, .ref (z 0)), (1, .int a1), (2, .int a2)] := hl
  have k_170 : ∀ (n_170 : Nat), ∀ (v : MS) (H : Heap) (locs : List Loc) (x0 : Int32) (x1 : Int32) (x2 : Int32) (x3 : Int32), va_P D vwCl (mW c4 z v) H → va_D A (mW c4 z v) → va_S A s.heap H locs → ∀ (ls : Array Slot), lv_has ls 9 [(0, .ref (z 0)), (2, .int x0), (3, .int x1), (5, .int x2), (8, .int x3)] → pX6_writeList_170 n_170 v x0 x1 x2 x3 = some res → W p l e ({ frames := 1, cells := 0, slots := 0, locals := 25 } : Room) s m ([.ref (z 0), .int a1, .int a2] : List Value).toArray below meth c H locs 0 0 (MQ below (va_Qv (fun w => res = (w, ())) (fun w t => wPre D c4 A (mW c4 z w) t) A) ([.ref (z 0), .int a1, .int a2] : List Value).toArray s 0 0 A) (F0 m 170 ls []) := by
    intro n_170
    induction n_170 with
    | zero =>
      intro v H locs x0 x1 x2 x3 hP hD hS ls hl h
      exact nomatch h
    | succ n_170 ih_170 =>
      intro v H locs x0 x1 x2 x3 hP hD hS ls hl h
      rw [pX6_writeList_170_s] at h
      refine lv_iload hx hb dX6_writeList_170 (lv_at hl 4 rfl) ?_
      refine lv_if_lt (tgt := 210) hx hb dX6_writeList_172 (by decide) (fun c_1 => ?_) (fun c_1 => ?_)
      · skip
        rw [if_pos c_1] at h
        exact W.vret hx hb hr (fun t ht hW => ⟨⟨v, rfl, (Option.some.inj h).symm, wPre_go hP hD hK hA hS ht hW.alike⟩, hS.F ht⟩) hS.2.2 dX6_writeList_210
      · skip
        rw [if_neg c_1] at h
        refine lv_iload_n hx hb dX6_writeList_175 rfl (lv_at hl 2 rfl) ?_
        refine lv_bipush (v := (6 : Int32)) hx hb dX6_writeList_176 (by decide) ?_
        refine lv_icmp_ne (tgt := 210) hx hb dX6_writeList_178 (by decide) (fun c_2 => ?_) (fun c_2 => ?_)
        · skip
          rw [if_neg c_2] at h
          exact W.vret hx hb hr (fun t ht hW => ⟨⟨v, rfl, (Option.some.inj h).symm, wPre_go hP hD hK hA hS ht hW.alike⟩, hS.F ht⟩) hS.2.2 dX6_writeList_210
        · skip
          rw [if_pos c_2] at h
          refine lv_aload_n hx hb dX6_writeList_181 rfl (lv_at hl 0 rfl) ?_
          refine lv_iload hx hb dX6_writeList_182 (lv_at hl 3 rfl) ?_
          refine lv_iload hx hb dX6_writeList_184 (lv_at hl 4 rfl) ?_
          refine lv_iadd hx hb dX6_writeList_186 ?_
          refine lv_aload_n hx hb dX6_writeList_187 rfl (lv_at hl 0 rfl) ?_
          refine va_get (D := D) (ci := 5) (v := .int (Vi v 6)) (C := RX6) (T := TX6) (N := 33) hx hb hts (fun w h => wm (zin_X6 w h)) hown hK hP 0 rfl rfl 6 (by decide) (hts _ (wm zw_643)) (fun _ h9 => h9) rfl dX6_writeList_188 ?_
          refine lv_aload_n hx hb dX6_writeList_191 rfl (lv_at hl 0 rfl) ?_
          refine va_get (D := D) (ci := 5) (v := .int (Vi v 7)) (C := RX6) (T := TX6) (N := 33) hx hb hts (fun w h => wm (zin_X6 w h)) hown hK hP 0 rfl rfl 7 (by decide) (hts _ (wm zw_644)) (fun _ h9 => h9) rfl dX6_writeList_192 ?_
          refine lv_iload hx hb dX6_writeList_195 (lv_at hl 4 rfl) ?_
          refine lv_iadd hx hb dX6_writeList_197 ?_
          refine lv_iload_n hx hb dX6_writeList_198 rfl (lv_at hl 1 rfl) ?_
          refine lv_iconst (v := (1 : Int32)) hx hb dX6_writeList_199 (by decide) ?_
          refine lv_iadd hx hb dX6_writeList_200 ?_
          obtain ⟨x_3, hc_3, h⟩ := zb_bind h
          try dsimp only at h
          refine va_callv (va_runV (As := [.int (x2 + x3), .int (Vi v 6), .int ((Vi v 7) + x3), .int (x0 + (1 : Int32))]) (rest := []) ⟨hx, hb, hml, hown, hts⟩ (ct_X6_await l D c4 A z v (x2 + x3) (Vi v 6) ((Vi v 7) + x3) (x0 + (1 : Int32)) _ hc_3) (cwV 4 hts (wz_V zw_873 zw_875 zs_31 zw_6 zw_876) rfl rfl rfl (by decide +kernel) ⟨Nat.le_of_ble_eq_true rfl, Nat.le_of_ble_eq_true rfl⟩) ⟨fbM, va_recv hK hP (ci := 5) (q0 := 0) rfl rfl, fun U9 hU hW => ⟨rfl, wPre_go hP hD hK hA hS hU hW.alike⟩⟩ rfl rfl hl.1 rfl (lv_room (Nat.le_of_ble_eq_true rfl)) dX6_writeList_201 ⟨Nat.le_of_ble_eq_true rfl, Nat.le_of_ble_eq_true rfl⟩) hS (fun q _ h => h) (fun q h => h) (fun u_3 t H1 locs ht hvm e_3 hB hz1 hk1 hS => ?_)
          subst e_3
          try dsimp only at h
          obtain ⟨hP, hD, -, -⟩ := hB
          rw [ht] at hP
          generalize H1 = H at hP hS ⊢
          refine lv_iinc (v := (x3 + (-1 : Int32))) (lv' := [(8, .int (x3 + (-1 : Int32))), (0, .ref (z 0)), (2, .int x0), (3, .int x1), (5, .int x2)]) hx hb dX6_writeList_204 hl (k := 4) rfl rfl (by decide) rfl (fun ls hl => ?_)
          refine lv_goto (tgt := 170) hx hb dX6_writeList_207 (by decide) ?_
          exact ih_170 u_3 _ _ x0 x1 x2 (x3 + (-1 : Int32)) hP hD hS ls (lv_sub hl [1, 2, 3, 4, 0] rfl) h
  have k_161 : ∀ (v : MS) (H : Heap) (locs : List Loc) (x0 : Int32) (x1 : Int32) (x2 : Int32), va_P D vwCl (mW c4 z v) H → va_D A (mW c4 z v) → va_S A s.heap H locs → ∀ (ls : Array Slot), lv_has ls 9 [(0, .ref (z 0)), (2, .int x0), (3, .int x1), (5, .int x2)] → pX6_writeList_161 v x0 x1 x2 = some res → W p l e ({ frames := 1, cells := 0, slots := 0, locals := 25 } : Room) s m ([.ref (z 0), .int a1, .int a2] : List Value).toArray below meth c H locs 0 0 (MQ below (va_Qv (fun w => res = (w, ())) (fun w t => wPre D c4 A (mW c4 z w) t) A) ([.ref (z 0), .int a1, .int a2] : List Value).toArray s 0 0 A) (F0 m 161 ls []) := by
    intro v H locs x0 x1 x2 hP hD hS ls hl h
    unfold pX6_writeList_161 at h
    refine lv_aload_n hx hb dX6_writeList_161 rfl (lv_at hl 0 rfl) ?_
    refine va_get (D := D) (ci := 5) (v := .long (Vl v 11)) (C := RX6) (T := TX6) (N := 33) hx hb hts (fun w h => wm (zin_X6 w h)) hown hK hP 0 rfl rfl 11 (by decide) (hts _ (wm zw_648)) (fun _ h9 => h9) rfl dX6_writeList_162 ?_
    refine lv_l2i hx hb dX6_writeList_165 rfl ?_
    refine lv_iconst (v := (1 : Int32)) hx hb dX6_writeList_166 (by decide) ?_
    refine lv_isub hx hb dX6_writeList_167 ?_
    obtain ⟨y_4, e_4, h⟩ := zb_bind h
    try dsimp only at h
    refine zt_i (Option.some.inj e_4) ?_
    refine lv_istore (lv' := [(8, .int y_4), (0, .ref (z 0)), (2, .int x0), (3, .int x1), (5, .int x2)]) hx hb dX6_writeList_168 hl (by decide) rfl (fun ls hl => ?_)
    exact k_170 300 v _ _ x0 x1 x2 y_4 hP hD hS ls (lv_sub hl [1, 2, 3, 4, 0] rfl) h
  have k_122 : ∀ (v : MS) (H : Heap) (locs : List Loc) (x0 : Int32) (x1 : Int32) (x2 : Int32) (y0 : Int64), va_P D vwCl (mW c4 z v) H → va_D A (mW c4 z v) → va_S A s.heap H locs → ∀ (ls : Array Slot), lv_has ls 9 [(0, .ref (z 0)), (2, .int x0), (3, .int x1), (5, .int x2)] → pX6_writeList_122 v x0 x1 x2 y0 = some res → W p l e ({ frames := 1, cells := 0, slots := 0, locals := 25 } : Room) s m ([.ref (z 0), .int a1, .int a2] : List Value).toArray below meth c H locs 0 0 (MQ below (va_Qv (fun w => res = (w, ())) (fun w t => wPre D c4 A (mW c4 z w) t) A) ([.ref (z 0), .int a1, .int a2] : List Value).toArray s 0 0 A) (F0 m 122 ls [.long y0]) := by
    intro v H locs x0 x1 x2 y0 hP hD hS ls hl h
    unfold pX6_writeList_122 at h
    refine lv_lstore (lv' := [(6, .long y0), (0, .ref (z 0)), (2, .int x0), (3, .int x1), (5, .int x2)]) hx hb dX6_writeList_122 hl (by decide) rfl (fun ls hl => ?_)
    refine lv_lload hx hb dX6_writeList_124 (lv_at hl 0 rfl) ?_
    refine lv_lconst (v := (0 : Int64)) hx hb dX6_writeList_126 (by decide) ?_
    refine W.lcmp hx hb dX6_writeList_127 ?_
    refine lv_if_le (tgt := 161) hx hb dX6_writeList_128 (by decide) (fun c_5 => ?_) (fun c_5 => ?_)
    · skip
      have c_5 := (lg_cmp_le _ _).mp c_5
      rw [if_pos c_5] at h
      exact k_161 v _ _ x0 x1 x2 hP hD hS ls (lv_sub hl [1, 2, 3, 4] rfl) h
    · skip
      have c_5 := mt (lg_cmp_le _ _).mpr c_5
      rw [if_neg c_5] at h
      refine lv_aload_n hx hb dX6_writeList_131 rfl (lv_at hl 1 rfl) ?_
      refine va_get (D := D) (ci := 5) (v := .ref (z 22)) (C := RX6) (T := TX6) (N := 33) hx hb hts (fun w h => wm (zin_X6 w h)) hown hK hP 0 rfl rfl 22 (by decide) (hts _ (wm zw_659)) (fun _ h9 => h9) rfl dX6_writeList_132 ?_
      refine lv_aload_n hx hb dX6_writeList_135 rfl (lv_at hl 1 rfl) ?_
      refine va_get (D := D) (ci := 5) (v := .int (Vi v 21)) (C := RX6) (T := TX6) (N := 33) hx hb hts (fun w h => wm (zin_X6 w h)) hown hK hP 0 rfl rfl 21 (by decide) (hts _ (wm zw_658)) (fun _ h9 => h9) rfl dX6_writeList_136 ?_
      refine lv_iconst (v := (1 : Int32)) hx hb dX6_writeList_139 (by decide) ?_
      refine lv_isub hx hb dX6_writeList_140 ?_
      refine lv_aload_n hx hb dX6_writeList_141 rfl (lv_at hl 1 rfl) ?_
      refine va_get (D := D) (ci := 5) (v := .ref (z 22)) (C := RX6) (T := TX6) (N := 33) hx hb hts (fun w h => wm (zin_X6 w h)) hown hK hP 0 rfl rfl 22 (by decide) (hts _ (wm zw_659)) (fun _ h9 => h9) rfl dX6_writeList_142 ?_
      refine lv_aload_n hx hb dX6_writeList_145 rfl (lv_at hl 1 rfl) ?_
      refine va_get (D := D) (ci := 5) (v := .int (Vi v 21)) (C := RX6) (T := TX6) (N := 33) hx hb hts (fun w h => wm (zin_X6 w h)) hown hK hP 0 rfl rfl 21 (by decide) (hts _ (wm zw_658)) (fun _ h9 => h9) rfl dX6_writeList_146 ?_
      refine lv_iconst (v := (1 : Int32)) hx hb dX6_writeList_149 (by decide) ?_
      refine lv_isub hx hb dX6_writeList_150 ?_
      obtain ⟨hi_6, h⟩ := zb_if h
      refine va_lald hx hb hK hP 10 0 rfl rfl (inb_in hi_6) dX6_writeList_151 ?_
      refine W.eq (g2 := F0 m 152 ls ([.long (Vr v 22 ((Vi v 21) - (1 : Int32)).toNatClampNeg), .int ((Vi v 21) - (1 : Int32)), .ref (z 22)])) rfl ?_
      refine lv_lconst (v := (1 : Int64)) hx hb dX6_writeList_152 (by decide) ?_
      refine lv_lload hx hb dX6_writeList_153 (lv_at hl 0 rfl) ?_
      refine lv_l2i hx hb dX6_writeList_155 rfl ?_
      refine lv_lshl hx hb dX6_writeList_156 rfl ?_
      refine lv_lconst (v := (1 : Int64)) hx hb dX6_writeList_157 (by decide) ?_
      refine lv_lsub hx hb dX6_writeList_158 ?_
      refine lv_land hx hb dX6_writeList_159 ?_
      obtain ⟨y_7, e_7, h⟩ := zb_bind h
      try dsimp only at h
      refine zt_l (Option.some.inj e_7) ?_
      obtain ⟨hi_8, h⟩ := zb_if h
      refine va_last hx hb hK hP hD hS 10 0 rfl rfl (inb_in hi_8) dX6_writeList_160 (fun H locs hP hD hS => ?_)
      have hP : va_P D vwCl (mW c4 z (tR v 22 ((Vi v 21) - (1 : Int32)).toNatClampNeg y_7)) H := hP
      have hD : va_D A (mW c4 z (tR v 22 ((Vi v 21) - (1 : Int32)).toNatClampNeg y_7)) := hD
      exact k_161 (tR v 22 ((Vi v 21) - (1 : Int32)).toNatClampNeg y_7) _ _ x0 x1 x2 hP hD hS ls (lv_sub hl [1, 2, 3, 4] rfl) h
  have k_57 : ∀ (n_57 : Nat), ∀ (v : MS) (H : Heap) (locs : List Loc) (x0 : Int32) (x1 : Int32) (x2 : Int32) (x3 : Int32) (x4 : Int32), va_P D vwCl (mW c4 z v) H → va_D A (mW c4 z v) → va_S A s.heap H locs → ∀ (ls : Array Slot), lv_has ls 9 [(0, .ref (z 0)), (2, .int x0), (3, .int x1), (4, .int x2), (5, .int x3), (6, .int x4)] → pX6_writeList_57 n_57 v x0 x1 x2 x3 x4 = some res → W p l e ({ frames := 1, cells := 0, slots := 0, locals := 25 } : Room) s m ([.ref (z 0), .int a1, .int a2] : List Value).toArray below meth c H locs 0 0 (MQ below (va_Qv (fun w => res = (w, ())) (fun w t => wPre D c4 A (mW c4 z w) t) A) ([.ref (z 0), .int a1, .int a2] : List Value).toArray s 0 0 A) (F0 m 57 ls []) := by
    intro n_57
    induction n_57 with
    | zero =>
      intro v H locs x0 x1 x2 x3 x4 hP hD hS ls hl h
      exact nomatch h
    | succ n_57 ih_57 =>
      have k_89 : ∀ (v : MS) (H : Heap) (locs : List Loc) (x0 : Int32) (x1 : Int32) (x2 : Int32) (x3 : Int32) (x4 : Int32) (y0 : Int64), va_P D vwCl (mW c4 z v) H → va_D A (mW c4 z v) → va_S A s.heap H locs → ∀ (ls : Array Slot), lv_has ls 9 [(0, .ref (z 0)), (2, .int x0), (3, .int x1), (4, .int x2), (5, .int x3), (6, .int x4)] → pX6_writeList_89 (fun u9 x0 x1 x2 x3 x4 => pX6_writeList_57 n_57 u9 x0 x1 x2 x3 x4) v x0 x1 x2 x3 x4 y0 = some res → W p l e ({ frames := 1, cells := 0, slots := 0, locals := 25 } : Room) s m ([.ref (z 0), .int a1, .int a2] : List Value).toArray below meth c H locs 0 0 (MQ below (va_Qv (fun w => res = (w, ())) (fun w t => wPre D c4 A (mW c4 z w) t) A) ([.ref (z 0), .int a1, .int a2] : List Value).toArray s 0 0 A) (F0 m 89 ls [.long y0, .ref (z 0)]) := by
        intro v H locs x0 x1 x2 x3 x4 y0 hP hD hS ls hl h
        unfold pX6_writeList_89 at h
        obtain ⟨x_9, hc_9, h⟩ := zb_bind h
        try dsimp only at h
        refine va_callv (va_runV (As := [.long y0]) (rest := []) ⟨hx, hb, hml, hown, hts⟩ (ct_X6_put l D c4 A z v y0 _ hc_9) (cwV 1 hts (wz_V zw_852 zw_854 zs_27 zw_6 zw_855) rfl rfl rfl (by decide +kernel) ⟨Nat.le_of_ble_eq_true rfl, Nat.le_of_ble_eq_true rfl⟩) ⟨fbM, va_recv hK hP (ci := 5) (q0 := 0) rfl rfl, fun U9 hU hW => ⟨rfl, wPre_go hP hD hK hA hS hU hW.alike⟩⟩ rfl rfl hl.1 rfl (lv_room (Nat.le_of_ble_eq_true rfl)) dX6_writeList_89 ⟨Nat.le_of_ble_eq_true rfl, Nat.le_of_ble_eq_true rfl⟩) hS (fun q _ h => h) (fun q h => h) (fun u_9 t H1 locs ht hvm e_9 hB hz1 hk1 hS => ?_)
        subst e_9
        try dsimp only at h
        obtain ⟨hP, hD, -, -⟩ := hB
        rw [ht] at hP
        generalize H1 = H at hP hS ⊢
        refine lv_iinc (v := (x4 + (1 : Int32))) (lv' := [(6, .int (x4 + (1 : Int32))), (0, .ref (z 0)), (2, .int x0), (3, .int x1), (4, .int x2), (5, .int x3)]) hx hb dX6_writeList_92 hl (k := 5) rfl rfl (by decide) rfl (fun ls hl => ?_)
        refine lv_goto (tgt := 57) hx hb dX6_writeList_95 (by decide) ?_
        exact ih_57 u_9 _ _ x0 x1 x2 x3 (x4 + (1 : Int32)) hP hD hS ls (lv_sub hl [1, 2, 3, 4, 5, 0] rfl) h
      intro v H locs x0 x1 x2 x3 x4 hP hD hS ls hl h
      rw [pX6_writeList_57_s] at h
      refine lv_iload hx hb dX6_writeList_57 (lv_at hl 5 rfl) ?_
      refine lv_i2l hx hb dX6_writeList_59 rfl ?_
      refine lv_aload_n hx hb dX6_writeList_60 rfl (lv_at hl 0 rfl) ?_
      refine va_get (D := D) (ci := 5) (v := .long (Vl v 11)) (C := RX6) (T := TX6) (N := 33) hx hb hts (fun w h => wm (zin_X6 w h)) hown hK hP 0 rfl rfl 11 (by decide) (hts _ (wm zw_648)) (fun _ h9 => h9) rfl dX6_writeList_61 ?_
      refine W.lcmp hx hb dX6_writeList_64 ?_
      refine lv_if_ge (tgt := 98) hx hb dX6_writeList_65 (by decide) (fun c_10 => ?_) (fun c_10 => ?_)
      · skip
        have c_10 := (lg_cmp_ge _ _).mp c_10
        rw [if_pos c_10] at h
        refine lv_iload_n hx hb dX6_writeList_98 rfl (lv_at hl 2 rfl) ?_
        refine lv_bipush (v := (6 : Int32)) hx hb dX6_writeList_99 (by decide) ?_
        refine lv_icmp_ge (tgt := 121) hx hb dX6_writeList_101 (by decide) (fun c_11 => ?_) (fun c_11 => ?_)
        · skip
          rw [if_pos c_11] at h
          refine lv_lconst (v := (0 : Int64)) hx hb dX6_writeList_121 (by decide) ?_
          exact k_122 v _ _ x0 x1 x3 (0 : Int64) hP hD hS ls (lv_sub hl [0, 1, 2, 4] rfl) h
        · skip
          rw [if_neg c_11] at h
          refine lv_aload_n hx hb dX6_writeList_104 rfl (lv_at hl 0 rfl) ?_
          refine va_get (D := D) (ci := 5) (v := .long (Vl v 8)) (C := RX6) (T := TX6) (N := 33) hx hb hts (fun w h => wm (zin_X6 w h)) hown hK hP 0 rfl rfl 8 (by decide) (hts _ (wm zw_645)) (fun _ h9 => h9) rfl dX6_writeList_105 ?_
          refine lv_iload_n hx hb dX6_writeList_108 rfl (lv_at hl 2 rfl) ?_
          refine vp_callSi (W.runS (As := [.int x1]) (rest := [.long (Vl v 8)]) ⟨hx, hb, hml, hown, hts⟩ (ct_X6_bits l x1 _ rfl) (va_cwS 1 hts (wz_S zw_802 zw_803 zw_6 zw_804) rfl rfl rfl (by decide +kernel) ⟨Nat.le_of_ble_eq_true rfl, Nat.le_of_ble_eq_true rfl⟩) ⟨fbN, fun U9 hU hW => ⟨rfl, trivial⟩⟩ rfl rfl hl.1 rfl (lv_room (Nat.le_of_ble_eq_true rfl)) dX6_writeList_109 ⟨Nat.le_of_ble_eq_true rfl, Nat.le_of_ble_eq_true rfl⟩) (fun r_12 e_12 => ?_)
          subst e_12
          refine lv_i2l hx hb dX6_writeList_112 rfl ?_
          refine lv_lmul hx hb dX6_writeList_113 ?_
          refine lv_ldc2 (v := (64 : Int64)) hx hb hown (hts _ (wm zw_806)) dX6_writeList_114 ?_
          refine lv_lrem hx hb dX6_writeList_117 (by decide) ?_
          refine lv_goto (tgt := 122) hx hb dX6_writeList_118 (by decide) ?_
          exact k_122 v _ _ x0 x1 x3 (((Vl v 8) * ((pX6_bits x1).toInt64)) - ((Vl v 8) * ((pX6_bits x1).toInt64)) / (64 : Int64) * (64 : Int64)) hP hD hS ls (lv_sub hl [0, 1, 2, 4] rfl) h
      · skip
        have c_10 := mt (lg_cmp_ge _ _).mpr c_10
        rw [if_neg c_10] at h
        refine lv_aload_n hx hb dX6_writeList_68 rfl (lv_at hl 0 rfl) ?_
        refine lv_iload_n hx hb dX6_writeList_69 rfl (lv_at hl 2 rfl) ?_
        refine lv_bipush (v := (6 : Int32)) hx hb dX6_writeList_70 (by decide) ?_
        refine lv_icmp_ne (tgt := 79) hx hb dX6_writeList_72 (by decide) (fun c_13 => ?_) (fun c_13 => ?_)
        · skip
          rw [if_neg c_13] at h
          refine lv_aload_n hx hb dX6_writeList_79 rfl (lv_at hl 0 rfl) ?_
          refine va_get (D := D) (ci := 5) (v := .ref (z 1)) (C := RX6) (T := TX6) (N := 33) hx hb hts (fun w h => wm (zin_X6 w h)) hown hK hP 0 rfl rfl 1 (by decide) (hts _ (wm zw_638)) (fun _ h9 => h9) rfl dX6_writeList_80 ?_
          refine lv_iload hx hb dX6_writeList_83 (lv_at hl 3 rfl) ?_
          refine lv_iload hx hb dX6_writeList_85 (lv_at hl 5 rfl) ?_
          refine lv_iadd hx hb dX6_writeList_87 ?_
          obtain ⟨hi_14, h⟩ := zb_if h
          refine va_lald hx hb hK hP 1 0 rfl rfl (inb_in hi_14) dX6_writeList_88 ?_
          refine W.eq (g2 := F0 m 89 ls ([.long (Vr v 1 (x2 + x4).toNatClampNeg), .ref (z 0)])) rfl ?_
          exact k_89 v _ _ x0 x1 x2 x3 x4 (Vr v 1 (x2 + x4).toNatClampNeg) hP hD hS ls (lv_sub hl [0, 1, 2, 3, 4, 5] rfl) h
        · skip
          rw [if_pos c_13] at h
          refine lv_lconst (v := (0 : Int64)) hx hb dX6_writeList_75 (by decide) ?_
          refine lv_goto (tgt := 89) hx hb dX6_writeList_76 (by decide) ?_
          exact k_89 v _ _ x0 x1 x2 x3 x4 (0 : Int64) hP hD hS ls (lv_sub hl [0, 1, 2, 3, 4, 5] rfl) h
  unfold pX6_writeList at h
  refine lv_aload_n hx hb dX6_writeList_0 rfl (lv_at hl 0 rfl) ?_
  refine va_get (D := D) (ci := 5) (v := .int (Vi v 5)) (C := RX6) (T := TX6) (N := 33) hx hb hts (fun w h => wm (zin_X6 w h)) hown hK hP 0 rfl rfl 5 (by decide) (hts _ (wm zw_642)) (fun _ h9 => h9) rfl dX6_writeList_1 ?_
  refine lv_iconst (v := (1 : Int32)) hx hb dX6_writeList_4 (by decide) ?_
  refine lv_isub hx hb dX6_writeList_5 ?_
  obtain ⟨y_15, e_15, h⟩ := zb_bind h
  try dsimp only at h
  refine zt_i (Option.some.inj e_15) ?_
  refine lv_istore_n (lv' := [(3, .int y_15), (0, .ref (z 0)), (1, .int a1), (2, .int a2)]) hx hb dX6_writeList_6 rfl hl (by decide) rfl (fun ls hl => ?_)
  refine lv_bipush (v := (64 : Int32)) hx hb dX6_writeList_7 (by decide) ?_
  refine lv_aload_n hx hb dX6_writeList_9 rfl (lv_at hl 1 rfl) ?_
  refine va_get (D := D) (ci := 5) (v := .int (Vi v 6)) (C := RX6) (T := TX6) (N := 33) hx hb hts (fun w h => wm (zin_X6 w h)) hown hK hP 0 rfl rfl 6 (by decide) (hts _ (wm zw_643)) (fun _ h9 => h9) rfl dX6_writeList_10 ?_
  refine lv_imul hx hb dX6_writeList_13 ?_
  refine lv_aload_n hx hb dX6_writeList_14 rfl (lv_at hl 1 rfl) ?_
  refine va_get (D := D) (ci := 5) (v := .int (Vi v 7)) (C := RX6) (T := TX6) (N := 33) hx hb hts (fun w h => wm (zin_X6 w h)) hown hK hP 0 rfl rfl 7 (by decide) (hts _ (wm zw_644)) (fun _ h9 => h9) rfl dX6_writeList_15 ?_
  refine lv_iadd hx hb dX6_writeList_18 ?_
  obtain ⟨y_16, e_16, h⟩ := zb_bind h
  try dsimp only at h
  refine zt_i (Option.some.inj e_16) ?_
  refine lv_istore (lv' := [(4, .int y_16), (3, .int y_15), (0, .ref (z 0)), (1, .int a1), (2, .int a2)]) hx hb dX6_writeList_19 hl (by decide) rfl (fun ls hl => ?_)
  refine lv_aload_n hx hb dX6_writeList_21 rfl (lv_at hl 2 rfl) ?_
  refine va_get (D := D) (ci := 5) (v := .int (Vi v 21)) (C := RX6) (T := TX6) (N := 33) hx hb hts (fun w h => wm (zin_X6 w h)) hown hK hP 0 rfl rfl 21 (by decide) (hts _ (wm zw_658)) (fun _ h9 => h9) rfl dX6_writeList_22 ?_
  obtain ⟨y_17, e_17, h⟩ := zb_bind h
  try dsimp only at h
  refine zt_i (Option.some.inj e_17) ?_
  refine lv_istore (lv' := [(5, .int y_17), (4, .int y_16), (3, .int y_15), (0, .ref (z 0)), (1, .int a1), (2, .int a2)]) hx hb dX6_writeList_25 hl (by decide) rfl (fun ls hl => ?_)
  refine lv_aload_n hx hb dX6_writeList_27 rfl (lv_at hl 3 rfl) ?_
  refine va_get (D := D) (ci := 5) (v := .ref (z 22)) (C := RX6) (T := TX6) (N := 33) hx hb hts (fun w h => wm (zin_X6 w h)) hown hK hP 0 rfl rfl 22 (by decide) (hts _ (wm zw_659)) (fun _ h9 => h9) rfl dX6_writeList_28 ?_
  refine lv_iload_n hx hb dX6_writeList_31 rfl (lv_at hl 4 rfl) ?_
  refine lv_iload_n hx hb dX6_writeList_32 rfl (lv_at hl 4 rfl) ?_
  refine lv_iload hx hb dX6_writeList_33 (lv_at hl 0 rfl) ?_
  refine lv_lconst (v := (1 : Int64)) hx hb dX6_writeList_35 (by decide) ?_
  refine lv_iload_n hx hb dX6_writeList_36 rfl (lv_at hl 2 rfl) ?_
  refine lv_i2l hx hb dX6_writeList_37 rfl ?_
  refine lv_bipush (v := (32 : Int32)) hx hb dX6_writeList_38 (by decide) ?_
  refine lv_lshl hx hb dX6_writeList_40 rfl ?_
  refine lv_lor hx hb dX6_writeList_41 ?_
  refine lv_aload_n hx hb dX6_writeList_42 rfl (lv_at hl 3 rfl) ?_
  refine va_get (D := D) (ci := 5) (v := .long (Vl v 8)) (C := RX6) (T := TX6) (N := 33) hx hb hts (fun w h => wm (zin_X6 w h)) hown hK hP 0 rfl rfl 8 (by decide) (hts _ (wm zw_645)) (fun _ h9 => h9) rfl dX6_writeList_43 ?_
  refine lv_bipush (v := (35 : Int32)) hx hb dX6_writeList_46 (by decide) ?_
  refine lv_lshl hx hb dX6_writeList_48 rfl ?_
  refine lv_lor hx hb dX6_writeList_49 ?_
  refine vp_callSl (W.runS (As := [.int a1, .int y_17, .long (((1 : Int64) ||| ((y_15.toInt64) <<< ((32 : Int32).toInt64 &&& 63))) ||| ((Vl v 8) <<< ((35 : Int32).toInt64 &&& 63)))]) (rest := [.int a1, .ref (z 22)]) ⟨hx, hb, hml, hown, hts⟩ (ct_X6_pointer l a1 y_17 (((1 : Int64) ||| ((y_15.toInt64) <<< ((32 : Int32).toInt64 &&& 63))) ||| ((Vl v 8) <<< ((35 : Int32).toInt64 &&& 63))) _ rfl) (va_cwS 3 hts (wz_S zw_869 zw_870 zw_6 zw_871) rfl rfl rfl (by decide +kernel) ⟨Nat.le_of_ble_eq_true rfl, Nat.le_of_ble_eq_true rfl⟩) ⟨fbN, fun U9 hU hW => ⟨rfl, trivial⟩⟩ rfl rfl hl.1 rfl (lv_room (Nat.le_of_ble_eq_true rfl)) dX6_writeList_50 ⟨Nat.le_of_ble_eq_true rfl, Nat.le_of_ble_eq_true rfl⟩) (fun r_18 e_18 => ?_)
  subst e_18
  obtain ⟨y_19, e_19, h⟩ := zb_bind h
  try dsimp only at h
  refine zt_l (Option.some.inj e_19) ?_
  obtain ⟨hi_20, h⟩ := zb_if h
  refine va_last hx hb hK hP hD hS 10 0 rfl rfl (inb_in hi_20) dX6_writeList_53 (fun H locs hP hD hS => ?_)
  have hP : va_P D vwCl (mW c4 z (tR v 22 a1.toNatClampNeg y_19)) H := hP
  have hD : va_D A (mW c4 z (tR v 22 a1.toNatClampNeg y_19)) := hD
  refine lv_iconst (v := (0 : Int32)) hx hb dX6_writeList_54 (by decide) ?_
  refine lv_istore (lv' := [(6, .int (0 : Int32)), (5, .int y_17), (4, .int y_16), (3, .int y_15), (0, .ref (z 0)), (1, .int a1), (2, .int a2)]) hx hb dX6_writeList_55 hl (by decide) rfl (fun ls hl => ?_)
  exact k_57 300 (tR v 22 a1.toNatClampNeg y_19) _ _ a2 y_15 y_16 y_17 (0 : Int32) hP hD hS ls (lv_sub hl [4, 6, 3, 2, 1, 0] rfl) h
