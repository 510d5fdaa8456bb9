def pX6_writeStruct_161 : Nat → MS → Int32 → Int32 → Int32 → Int32 → Int32 → Int32 → Option (MS × Unit)
  | 0, _, _, _, _, _, _, _ => none
  | n + 1, v, x0, x1, x2, x3, x4, x5 => (if x5 < 0 then some (v, ()) else ((pX6_await v ((x2 + x1) + x5) x4 (x3 + x5) (x0 + (1 : Int32))).bind fun x_2 => pX6_writeStruct_161 n (x_2.1) x0 x1 x2 x3 x4 (x5 + (-1 : Int32))))
theorem pX6_writeStruct_161_s (n : Nat) (v : MS) (x0 : Int32) (x1 : Int32) (x2 : Int32) (x3 : Int32) (x4 : Int32) (x5 : Int32) : pX6_writeStruct_161 (n + 1) v x0 x1 x2 x3 x4 x5 = (if x5 < 0 then some (v, ()) else ((pX6_await v ((x2 + x1) + x5) x4 (x3 + x5) (x0 + (1 : Int32))).bind fun x_2 => pX6_writeStruct_161 n (x_2.1) x0 x1 x2 x3 x4 (x5 + (-1 : Int32)))) := rfl
def pX6_writeStruct_137 : Nat → MS → Int32 → Int32 → Int32 → Int32 → Int32 → Int32 → Int32 → Option (MS × Unit)
  | 0, _, _, _, _, _, _, _, _ => none
  | n + 1, v, x0, x1, x2, x3, x4, x5, x6 => (if x2 ≤ x6 then ((some (x2 - (1 : Int32))).bind fun y_4 => pX6_writeStruct_161 300 v x0 x1 x3 x4 x5 y_4) else ((pX6_put v (0 : Int64)).bind fun x_5 => pX6_writeStruct_137 n (x_5.1) x0 x1 x2 x3 x4 x5 (x6 + (1 : Int32))))
theorem pX6_writeStruct_137_s (n : Nat) (v : MS) (x0 : Int32) (x1 : Int32) (x2 : Int32) (x3 : Int32) (x4 : Int32) (x5 : Int32) (x6 : Int32) : pX6_writeStruct_137 (n + 1) v x0 x1 x2 x3 x4 x5 x6 = (if x2 ≤ x6 then ((some (x2 - (1 : Int32))).bind fun y_4 => pX6_writeStruct_161 300 v x0 x1 x3 x4 x5 y_4) else ((pX6_put v (0 : Int64)).bind fun x_5 => pX6_writeStruct_137 n (x_5.1) x0 x1 x2 x3 x4 x5 (x6 + (1 : Int32)))) := rfl
def pX6_writeStruct_90 : Nat → MS → Int32 → Int32 → Int32 → Int32 → Int32 → Int32 → Option (MS × Unit)
  | 0, _, _, _, _, _, _, _ => none
  | n + 1, v, x0, x1, x2, x3, x4, x5 => (if x2 ≤ x5 then ((some ((Vi v 7) + ((Vl v 8).toInt32))).bind fun y_7 => ((some (Vi v 6)).bind fun y_8 => pX6_writeStruct_137 300 v x0 x2 x3 x4 y_7 y_8 (0 : Int32))) else (if inb (x1 + x5) 256 = true then ((pX6_put v (Vr v 1 (x1 + x5).toNatClampNeg)).bind fun x_10 => pX6_writeStruct_90 n (x_10.1) x0 x1 x2 x3 x4 (x5 + (1 : Int32))) else none))
theorem pX6_writeStruct_90_s (n : Nat) (v : MS) (x0 : Int32) (x1 : Int32) (x2 : Int32) (x3 : Int32) (x4 : Int32) (x5 : Int32) : pX6_writeStruct_90 (n + 1) v x0 x1 x2 x3 x4 x5 = (if x2 ≤ x5 then ((some ((Vi v 7) + ((Vl v 8).toInt32))).bind fun y_7 => ((some (Vi v 6)).bind fun y_8 => pX6_writeStruct_137 300 v x0 x2 x3 x4 y_7 y_8 (0 : Int32))) else (if inb (x1 + x5) 256 = true then ((pX6_put v (Vr v 1 (x1 + x5).toNatClampNeg)).bind fun x_10 => pX6_writeStruct_90 n (x_10.1) x0 x1 x2 x3 x4 (x5 + (1 : Int32))) else none)) := rfl
def pX6_writeStruct (v : MS) (a1 : Int32) (a2 : Int32) : Option (MS × Unit) := ((some (((64 : Int32) * (Vi v 6)) + (Vi v 7))).bind fun y_11 => ((pX6_without v y_11 ((Vl v 8).toInt32)).bind fun r_12 => ((pX6_without v (y_11 + ((Vl v 8).toInt32)) (Vi v 10)).bind fun r_13 => ((some (Vi v 21)).bind fun y_14 => (if (r_12 + r_13) = 0 then (if inb a1 160 = true then pX6_writeStruct_90 300 (tR v 22 a1.toNatClampNeg (4294967292 : Int64)) a2 y_11 r_12 r_13 y_14 (0 : Int32) else none) else ((some (pX6_pointer a1 y_14 (((r_12.toInt64) <<< ((32 : Int32).toInt64 &&& 63)) ||| ((r_13.toInt64) <<< ((48 : Int32).toInt64 &&& 63))))).bind fun y_17 => (if inb a1 160 = true then pX6_writeStruct_90 300 (tR v 22 a1.toNatClampNeg y_17) a2 y_11 r_12 r_13 y_14 (0 : Int32) else none)))))))
set_option maxHeartbeats 4000000 in
set_option maxRecDepth 100000 in
theorem ct_X6_writeStruct (l : Launch) (D : va_G) (c4 : Nat → ClassId) (A : Nat → Prop) (z : Nat → Nat) (v : MS) (a1 : Int32) (a2 : Int32) (res : MS × Unit) (h : pX6_writeStruct v a1 a2 = some res) : Met l yX6_writeStruct (wz yX6_writeStruct cX6_writeStruct 10 none) ({ frames := 1, cells := 0, slots := 0, locals := 25 } : Room) (va_Pc [.ref (z 0), .int a1, .int a2] (fun U => mPre D c4 A z v U)) (va_Qv (fun w => res = (w, ())) (fun w t => wPre D c4 A (mW c4 z w) t) A) 0 0 A := by
  refine Met.ofW (cc := cX6_writeStruct) (maxL := 10) (ret := none) (by decide) rfl ?_
  intro p e s m args below meth c s₁ B hml hv
  obtain ⟨rfl, hP, hD, hK, hA⟩ := hv
  have hx := B.exec
  have hb := B.bytes
  have hr := B.returns
  have hts := atoms_spec (ws := (wz yX6_writeStruct cX6_writeStruct 10 none)) B.pre
  have hown : s.vm.findClass RX6 = some m.cls := findClass_of_methodNamed B.named
  have hlocks := B.notSynchronized
  have hS : va_S A s.heap s.heap [] := va_S.rf
  have hl := lv_entry ([.ref (z 0), .int a1, .int a2]) (n := 10) (Nat.le_of_ble_eq_true rfl)
  rw [lg_entry_eq]
  generalize (lg_sl ([.ref (z 0), .int a1, .int a2]) ++ List.replicate (10 - (lg_sl ([.ref (z 0), .int a1, .int a2])).length) Slot.unset).toArray = ls at hl ⊢
  have hl : lv_has ls 10 [(0, .ref (z 0)), (1, .int a1), (2, .int a2)] := hl
  have k_161 : ∀ (n_161 : Nat), ∀ (v : MS) (H : Heap) (locs : List Loc) (x0 : Int32) (x1 : Int32) (x2 : Int32) (x3 : Int32) (x4 : Int32) (x5 : Int32), va_P D vwCl (mW c4 z v) H → va_D A (mW c4 z v) → va_S A s.heap H locs → ∀ (ls : Array Slot), lv_has ls 10 [(0, .ref (z 0)), (2, .int x0), (4, .int x1), (6, .int x2), (7, .int x3), (8, .int x4), (9, .int x5)] → pX6_writeStruct_161 n_161 v x0 x1 x2 x3 x4 x5 = some res → W p l e ({ frames := 1, cells := 0, slots := 0, locals := 25 } : Room) s m ([.ref (z 0), .int a1, .int a2] : List Value).toArray below meth c H locs 0 0 (MQ below (va_Qv (fun w => res = (w, ())) (fun w t => wPre D c4 A (mW c4 z w) t) A) ([.ref (z 0), .int a1, .int a2] : List Value).toArray s 0 0 A) (F0 m 161 ls []) := by
    intro n_161
    induction n_161 with
    | zero =>
      intro v H locs x0 x1 x2 x3 x4 x5 hP hD hS ls hl h
      exact nomatch h
    | succ n_161 ih_161 =>
      intro v H locs x0 x1 x2 x3 x4 x5 hP hD hS ls hl h
      rw [pX6_writeStruct_161_s] at h
      refine lv_iload hx hb dX6_writeStruct_161 (lv_at hl 6 rfl) ?_
      refine lv_if_lt (tgt := 194) hx hb dX6_writeStruct_163 (by decide) (fun c_1 => ?_) (fun c_1 => ?_)
      · skip
        rw [if_pos c_1] at h
        exact W.vret hx hb hr (fun t ht hW => ⟨⟨v, rfl, (Option.some.inj h).symm, wPre_go hP hD hK hA hS ht hW.alike⟩, hS.F ht⟩) hS.2.2 dX6_writeStruct_194
      · skip
        rw [if_neg c_1] at h
        refine lv_aload_n hx hb dX6_writeStruct_166 rfl (lv_at hl 0 rfl) ?_
        refine lv_iload hx hb dX6_writeStruct_167 (lv_at hl 3 rfl) ?_
        refine lv_iload hx hb dX6_writeStruct_169 (lv_at hl 2 rfl) ?_
        refine lv_iadd hx hb dX6_writeStruct_171 ?_
        refine lv_iload hx hb dX6_writeStruct_172 (lv_at hl 6 rfl) ?_
        refine lv_iadd hx hb dX6_writeStruct_174 ?_
        refine lv_iload hx hb dX6_writeStruct_175 (lv_at hl 5 rfl) ?_
        refine lv_iload hx hb dX6_writeStruct_177 (lv_at hl 4 rfl) ?_
        refine lv_iload hx hb dX6_writeStruct_179 (lv_at hl 6 rfl) ?_
        refine lv_iadd hx hb dX6_writeStruct_181 ?_
        refine lv_iload_n hx hb dX6_writeStruct_182 rfl (lv_at hl 1 rfl) ?_
        refine lv_iconst (v := (1 : Int32)) hx hb dX6_writeStruct_183 (by decide) ?_
        refine lv_iadd hx hb dX6_writeStruct_184 ?_
        obtain ⟨x_2, hc_2, h⟩ := zb_bind h
        try dsimp only at h
        refine va_callv (va_runV (As := [.int ((x2 + x1) + x5), .int x4, .int (x3 + x5), .int (x0 + (1 : Int32))]) (rest := []) ⟨hx, hb, hml, hown, hts⟩ (ct_X6_await l D c4 A z v ((x2 + x1) + x5) x4 (x3 + x5) (x0 + (1 : Int32)) _ hc_2) (cwV 4 hts (wz_V zw_873 zw_875 zs_31 zw_6 zw_876) rfl rfl rfl (by decide +kernel) ⟨Nat.le_of_ble_eq_true rfl, Nat.le_of_ble_eq_true rfl⟩) ⟨fbM, va_recv hK hP (ci := 5) (q0 := 0) rfl rfl, fun U9 hU hW => ⟨rfl, wPre_go hP hD hK hA hS hU hW.alike⟩⟩ rfl rfl hl.1 rfl (lv_room (Nat.le_of_ble_eq_true rfl)) dX6_writeStruct_185 ⟨Nat.le_of_ble_eq_true rfl, Nat.le_of_ble_eq_true rfl⟩) hS (fun q _ h => h) (fun q h => h) (fun u_2 t H1 locs ht hvm e_2 hB hz1 hk1 hS => ?_)
        subst e_2
        try dsimp only at h
        obtain ⟨hP, hD, -, -⟩ := hB
        rw [ht] at hP
        generalize H1 = H at hP hS ⊢
        refine lv_iinc (v := (x5 + (-1 : Int32))) (lv' := [(9, .int (x5 + (-1 : Int32))), (0, .ref (z 0)), (2, .int x0), (4, .int x1), (6, .int x2), (7, .int x3), (8, .int x4)]) hx hb dX6_writeStruct_188 hl (k := 6) rfl rfl (by decide) rfl (fun ls hl => ?_)
        refine lv_goto (tgt := 161) hx hb dX6_writeStruct_191 (by decide) ?_
        exact ih_161 u_2 _ _ x0 x1 x2 x3 x4 (x5 + (-1 : Int32)) hP hD hS ls (lv_sub hl [1, 2, 3, 4, 5, 6, 0] rfl) h
  have k_137 : ∀ (n_137 : Nat), ∀ (v : MS) (H : Heap) (locs : List Loc) (x0 : Int32) (x1 : Int32) (x2 : Int32) (x3 : Int32) (x4 : Int32) (x5 : Int32) (x6 : Int32), va_P D vwCl (mW c4 z v) H → va_D A (mW c4 z v) → va_S A s.heap H locs → ∀ (ls : Array Slot), lv_has ls 10 [(0, .ref (z 0)), (2, .int x0), (4, .int x1), (5, .int x2), (6, .int x3), (7, .int x4), (8, .int x5), (9, .int x6)] → pX6_writeStruct_137 n_137 v x0 x1 x2 x3 x4 x5 x6 = some res → W p l e ({ frames := 1, cells := 0, slots := 0, locals := 25 } : Room) s m ([.ref (z 0), .int a1, .int a2] : List Value).toArray below meth c H locs 0 0 (MQ below (va_Qv (fun w => res = (w, ())) (fun w t => wPre D c4 A (mW c4 z w) t) A) ([.ref (z 0), .int a1, .int a2] : List Value).toArray s 0 0 A) (F0 m 137 ls []) := by
    intro n_137
    induction n_137 with
    | zero =>
      intro v H locs x0 x1 x2 x3 x4 x5 x6 hP hD hS ls hl h
      exact nomatch h
    | succ n_137 ih_137 =>
      intro v H locs x0 x1 x2 x3 x4 x5 x6 hP hD hS ls hl h
      rw [pX6_writeStruct_137_s] at h
      refine lv_iload hx hb dX6_writeStruct_137 (lv_at hl 7 rfl) ?_
      refine lv_iload hx hb dX6_writeStruct_139 (lv_at hl 3 rfl) ?_
      refine lv_icmp_ge (tgt := 155) hx hb dX6_writeStruct_141 (by decide) (fun c_3 => ?_) (fun c_3 => ?_)
      · skip
        rw [if_pos c_3] at h
        refine lv_iload hx hb dX6_writeStruct_155 (lv_at hl 3 rfl) ?_
        refine lv_iconst (v := (1 : Int32)) hx hb dX6_writeStruct_157 (by decide) ?_
        refine lv_isub hx hb dX6_writeStruct_158 ?_
        obtain ⟨y_4, e_4, h⟩ := zb_bind h
        try dsimp only at h
        refine zt_i (Option.some.inj e_4) ?_
        refine lv_istore (lv' := [(9, .int y_4), (0, .ref (z 0)), (2, .int x0), (4, .int x1), (5, .int x2), (6, .int x3), (7, .int x4), (8, .int x5)]) hx hb dX6_writeStruct_159 hl (by decide) rfl (fun ls hl => ?_)
        exact k_161 300 v _ _ x0 x1 x3 x4 x5 y_4 hP hD hS ls (lv_sub hl [1, 2, 3, 5, 6, 7, 0] rfl) h
      · skip
        rw [if_neg c_3] at h
        refine lv_aload_n hx hb dX6_writeStruct_144 rfl (lv_at hl 0 rfl) ?_
        refine lv_lconst (v := (0 : Int64)) hx hb dX6_writeStruct_145 (by decide) ?_
        obtain ⟨x_5, hc_5, h⟩ := zb_bind h
        try dsimp only at h
        refine va_callv (va_runV (As := [.long (0 : Int64)]) (rest := []) ⟨hx, hb, hml, hown, hts⟩ (ct_X6_put l D c4 A z v (0 : Int64) _ hc_5) (cwV 1 hts (wz_V zw_852 zw_854 zs_27 zw_6 zw_855) rfl rfl rfl (by decide +kernel) ⟨Nat.le_of_ble_eq_true rfl, Nat.le_of_ble_eq_true rfl⟩) ⟨fbM, va_recv hK hP (ci := 5) (q0 := 0) rfl rfl, fun U9 hU hW => ⟨rfl, wPre_go hP hD hK hA hS hU hW.alike⟩⟩ rfl rfl hl.1 rfl (lv_room (Nat.le_of_ble_eq_true rfl)) dX6_writeStruct_146 ⟨Nat.le_of_ble_eq_true rfl, Nat.le_of_ble_eq_true rfl⟩) hS (fun q _ h => h) (fun q h => h) (fun u_5 t H1 locs ht hvm e_5 hB hz1 hk1 hS => ?_)
        subst e_5
        try dsimp only at h
        obtain ⟨hP, hD, -, -⟩ := hB
        rw [ht] at hP
        generalize H1 = H at hP hS ⊢
        refine lv_iinc (v := (x6 + (1 : Int32))) (lv' := [(9, .int (x6 + (1 : Int32))), (0, .ref (z 0)), (2, .int x0), (4, .int x1), (5, .int x2), (6, .int x3), (7, .int x4), (8, .int x5)]) hx hb dX6_writeStruct_149 hl (k := 7) rfl rfl (by decide) rfl (fun ls hl => ?_)
        refine lv_goto (tgt := 137) hx hb dX6_writeStruct_152 (by decide) ?_
        exact ih_137 u_5 _ _ x0 x1 x2 x3 x4 x5 (x6 + (1 : Int32)) hP hD hS ls (lv_sub hl [1, 2, 3, 4, 5, 6, 7, 0] rfl) h
  have k_90 : ∀ (n_90 : Nat), ∀ (v : MS) (H : Heap) (locs : List Loc) (x0 : Int32) (x1 : Int32) (x2 : Int32) (x3 : Int32) (x4 : Int32) (x5 : Int32), va_P D vwCl (mW c4 z v) H → va_D A (mW c4 z v) → va_S A s.heap H locs → ∀ (ls : Array Slot), lv_has ls 10 [(0, .ref (z 0)), (2, .int x0), (3, .int x1), (4, .int x2), (5, .int x3), (6, .int x4), (7, .int x5)] → pX6_writeStruct_90 n_90 v x0 x1 x2 x3 x4 x5 = some res → W p l e ({ frames := 1, cells := 0, slots := 0, locals := 25 } : Room) s m ([.ref (z 0), .int a1, .int a2] : List Value).toArray below meth c H locs 0 0 (MQ below (va_Qv (fun w => res = (w, ())) (fun w t => wPre D c4 A (mW c4 z w) t) A) ([.ref (z 0), .int a1, .int a2] : List Value).toArray s 0 0 A) (F0 m 90 ls []) := by
    intro n_90
    induction n_90 with
    | zero =>
      intro v H locs x0 x1 x2 x3 x4 x5 hP hD hS ls hl h
      exact nomatch h
    | succ n_90 ih_90 =>
      intro v H locs x0 x1 x2 x3 x4 x5 hP hD hS ls hl h
      rw [pX6_writeStruct_90_s] at h
      refine lv_iload hx hb dX6_writeStruct_90 (lv_at hl 6 rfl) ?_
      refine lv_iload hx hb dX6_writeStruct_92 (lv_at hl 3 rfl) ?_
      refine lv_icmp_ge (tgt := 116) hx hb dX6_writeStruct_94 (by decide) (fun c_6 => ?_) (fun c_6 => ?_)
      · skip
        rw [if_pos c_6] at h
        refine lv_aload_n hx hb dX6_writeStruct_116 rfl (lv_at hl 0 rfl) ?_
        refine va_get (D := D) (ci := 5) (v := .int (Vi v 7)) (C := RX6) (T := TX6) (N := 33) hx hb hts (fun w h => wm (zin_X6 w h)) hown hK hP 0 rfl rfl 7 (by decide) (hts _ (wm zw_644)) (fun _ h9 => h9) rfl dX6_writeStruct_117 ?_
        refine lv_aload_n hx hb dX6_writeStruct_120 rfl (lv_at hl 0 rfl) ?_
        refine va_get (D := D) (ci := 5) (v := .long (Vl v 8)) (C := RX6) (T := TX6) (N := 33) hx hb hts (fun w h => wm (zin_X6 w h)) hown hK hP 0 rfl rfl 8 (by decide) (hts _ (wm zw_645)) (fun _ h9 => h9) rfl dX6_writeStruct_121 ?_
        refine lv_l2i hx hb dX6_writeStruct_124 rfl ?_
        refine lv_iadd hx hb dX6_writeStruct_125 ?_
        obtain ⟨y_7, e_7, h⟩ := zb_bind h
        try dsimp only at h
        refine zt_i (Option.some.inj e_7) ?_
        refine lv_istore (lv' := [(7, .int y_7), (0, .ref (z 0)), (2, .int x0), (3, .int x1), (4, .int x2), (5, .int x3), (6, .int x4)]) hx hb dX6_writeStruct_126 hl (by decide) rfl (fun ls hl => ?_)
        refine lv_aload_n hx hb dX6_writeStruct_128 rfl (lv_at hl 1 rfl) ?_
        refine va_get (D := D) (ci := 5) (v := .int (Vi v 6)) (C := RX6) (T := TX6) (N := 33) hx hb hts (fun w h => wm (zin_X6 w h)) hown hK hP 0 rfl rfl 6 (by decide) (hts _ (wm zw_643)) (fun _ h9 => h9) rfl dX6_writeStruct_129 ?_
        obtain ⟨y_8, e_8, h⟩ := zb_bind h
        try dsimp only at h
        refine zt_i (Option.some.inj e_8) ?_
        refine lv_istore (lv' := [(8, .int y_8), (7, .int y_7), (0, .ref (z 0)), (2, .int x0), (3, .int x1), (4, .int x2), (5, .int x3), (6, .int x4)]) hx hb dX6_writeStruct_132 hl (by decide) rfl (fun ls hl => ?_)
        refine lv_iconst (v := (0 : Int32)) hx hb dX6_writeStruct_134 (by decide) ?_
        refine lv_istore (lv' := [(9, .int (0 : Int32)), (8, .int y_8), (7, .int y_7), (0, .ref (z 0)), (2, .int x0), (3, .int x1), (4, .int x2), (5, .int x3), (6, .int x4)]) hx hb dX6_writeStruct_135 hl (by decide) rfl (fun ls hl => ?_)
        exact k_137 300 v _ _ x0 x2 x3 x4 y_7 y_8 (0 : Int32) hP hD hS ls (lv_sub hl [3, 4, 6, 7, 8, 2, 1, 0] rfl) h
      · skip
        rw [if_neg c_6] at h
        refine lv_aload_n hx hb dX6_writeStruct_97 rfl (lv_at hl 0 rfl) ?_
        refine lv_aload_n hx hb dX6_writeStruct_98 rfl (lv_at hl 0 rfl) ?_
        refine va_get (D := D) (ci := 5) (v := .ref (z 1)) (C := RX6) (T := TX6) (N := 33) hx hb hts (fun w h => wm (zin_X6 w h)) hown hK hP 0 rfl rfl 1 (by decide) (hts _ (wm zw_638)) (fun _ h9 => h9) rfl dX6_writeStruct_99 ?_
        refine lv_iload_n hx hb dX6_writeStruct_102 rfl (lv_at hl 2 rfl) ?_
        refine lv_iload hx hb dX6_writeStruct_103 (lv_at hl 6 rfl) ?_
        refine lv_iadd hx hb dX6_writeStruct_105 ?_
        obtain ⟨hi_9, h⟩ := zb_if h
        refine va_lald hx hb hK hP 1 0 rfl rfl (inb_in hi_9) dX6_writeStruct_106 ?_
        refine W.eq (g2 := F0 m 107 ls ([.long (Vr v 1 (x1 + x5).toNatClampNeg), .ref (z 0)])) rfl ?_
        obtain ⟨x_10, hc_10, h⟩ := zb_bind h
        try dsimp only at h
        refine va_callv (va_runV (As := [.long (Vr v 1 (x1 + x5).toNatClampNeg)]) (rest := []) ⟨hx, hb, hml, hown, hts⟩ (ct_X6_put l D c4 A z v (Vr v 1 (x1 + x5).toNatClampNeg) _ hc_10) (cwV 1 hts (wz_V zw_852 zw_854 zs_27 zw_6 zw_855) rfl rfl rfl (by decide +kernel) ⟨Nat.le_of_ble_eq_true rfl, Nat.le_of_ble_eq_true rfl⟩) ⟨fbM, va_recv hK hP (ci := 5) (q0 := 0) rfl rfl, fun U9 hU hW => ⟨rfl, wPre_go hP hD hK hA hS hU hW.alike⟩⟩ rfl rfl hl.1 rfl (lv_room (Nat.le_of_ble_eq_true rfl)) dX6_writeStruct_107 ⟨Nat.le_of_ble_eq_true rfl, Nat.le_of_ble_eq_true rfl⟩) hS (fun q _ h => h) (fun q h => h) (fun u_10 t H1 locs ht hvm e_10 hB hz1 hk1 hS => ?_)
        subst e_10
        try dsimp only at h
        obtain ⟨hP, hD, -, -⟩ := hB
        rw [ht] at hP
        generalize H1 = H at hP hS ⊢
        refine lv_iinc (v := (x5 + (1 : Int32))) (lv' := [(7, .int (x5 + (1 : Int32))), (0, .ref (z 0)), (2, .int x0), (3, .int x1), (4, .int x2), (5, .int x3), (6, .int x4)]) hx hb dX6_writeStruct_110 hl (k := 6) rfl rfl (by decide) rfl (fun ls hl => ?_)
        refine lv_goto (tgt := 90) hx hb dX6_writeStruct_113 (by decide) ?_
        exact ih_90 u_10 _ _ x0 x1 x2 x3 x4 (x5 + (1 : Int32)) hP hD hS ls (lv_sub hl [1, 2, 3, 4, 5, 6, 0] rfl) h
  unfold pX6_writeStruct at h
  refine lv_bipush (v := (64 : Int32)) hx hb dX6_writeStruct_0 (by decide) ?_
  refine lv_aload_n hx hb dX6_writeStruct_2 rfl (lv_at hl 0 rfl) ?_
  refine va_get (D := D) (ci := 5) (v := .int (Vi v 6)) (C := RX6) (T := TX6) (N := 33) hx hb hts (fun w h => wm (zin_X6 w h)) hown hK hP 0 rfl rfl 6 (by decide) (hts _ (wm zw_643)) (fun _ h9 => h9) rfl dX6_writeStruct_3 ?_
  refine lv_imul hx hb dX6_writeStruct_6 ?_
  refine lv_aload_n hx hb dX6_writeStruct_7 rfl (lv_at hl 0 rfl) ?_
  refine va_get (D := D) (ci := 5) (v := .int (Vi v 7)) (C := RX6) (T := TX6) (N := 33) hx hb hts (fun w h => wm (zin_X6 w h)) hown hK hP 0 rfl rfl 7 (by decide) (hts _ (wm zw_644)) (fun _ h9 => h9) rfl dX6_writeStruct_8 ?_
  refine lv_iadd hx hb dX6_writeStruct_11 ?_
  obtain ⟨y_11, e_11, h⟩ := zb_bind h
  try dsimp only at h
  refine zt_i (Option.some.inj e_11) ?_
  refine lv_istore_n (lv' := [(3, .int y_11), (0, .ref (z 0)), (1, .int a1), (2, .int a2)]) hx hb dX6_writeStruct_12 rfl hl (by decide) rfl (fun ls hl => ?_)
  refine lv_aload_n hx hb dX6_writeStruct_13 rfl (lv_at hl 1 rfl) ?_
  refine lv_iload_n hx hb dX6_writeStruct_14 rfl (lv_at hl 0 rfl) ?_
  refine lv_aload_n hx hb dX6_writeStruct_15 rfl (lv_at hl 1 rfl) ?_
  refine va_get (D := D) (ci := 5) (v := .long (Vl v 8)) (C := RX6) (T := TX6) (N := 33) hx hb hts (fun w h => wm (zin_X6 w h)) hown hK hP 0 rfl rfl 8 (by decide) (hts _ (wm zw_645)) (fun _ h9 => h9) rfl dX6_writeStruct_16 ?_
  refine lv_l2i hx hb dX6_writeStruct_19 rfl ?_
  obtain ⟨q_12, hc_12, h⟩ := zb_bind h
  try dsimp only at h
  refine vp_callSi (W.runV (As := [.int y_11, .int ((Vl v 8).toInt32)]) (rest := []) ⟨hx, hb, hml, hown, hts⟩ (ct_X6_without l D c4 A z v y_11 ((Vl v 8).toInt32) _ hc_12) (cwV 2 hts (wz_V zw_864 zw_866 zs_30 zw_6 zw_867) rfl rfl rfl (by decide +kernel) ⟨Nat.le_of_ble_eq_true rfl, Nat.le_of_ble_eq_true rfl⟩) ⟨fbM, va_recv hK hP (ci := 5) (q0 := 0) rfl rfl, fun U9 hU hW => ⟨rfl, wPre_go hP hD hK hA hS hU hW.alike⟩⟩ rfl rfl hl.1 rfl (lv_room (Nat.le_of_ble_eq_true rfl)) dX6_writeStruct_20 ⟨Nat.le_of_ble_eq_true rfl, Nat.le_of_ble_eq_true rfl⟩) (fun r_12 e_12 => ?_)
  subst e_12
  refine lv_istore (lv' := [(4, .int r_12), (3, .int y_11), (0, .ref (z 0)), (1, .int a1), (2, .int a2)]) hx hb dX6_writeStruct_23 hl (by decide) rfl (fun ls hl => ?_)
  refine lv_aload_n hx hb dX6_writeStruct_25 rfl (lv_at hl 2 rfl) ?_
  refine lv_iload_n hx hb dX6_writeStruct_26 rfl (lv_at hl 1 rfl) ?_
  refine lv_aload_n hx hb dX6_writeStruct_27 rfl (lv_at hl 2 rfl) ?_
  refine va_get (D := D) (ci := 5) (v := .long (Vl v 8)) (C := RX6) (T := TX6) (N := 33) hx hb hts (fun w h => wm (zin_X6 w h)) hown hK hP 0 rfl rfl 8 (by decide) (hts _ (wm zw_645)) (fun _ h9 => h9) rfl dX6_writeStruct_28 ?_
  refine lv_l2i hx hb dX6_writeStruct_31 rfl ?_
  refine lv_iadd hx hb dX6_writeStruct_32 ?_
  refine lv_aload_n hx hb dX6_writeStruct_33 rfl (lv_at hl 2 rfl) ?_
  refine va_get (D := D) (ci := 5) (v := .int (Vi v 10)) (C := RX6) (T := TX6) (N := 33) hx hb hts (fun w h => wm (zin_X6 w h)) hown hK hP 0 rfl rfl 10 (by decide) (hts _ (wm zw_647)) (fun _ h9 => h9) rfl dX6_writeStruct_34 ?_
  obtain ⟨q_13, hc_13, h⟩ := zb_bind h
  try dsimp only at h
  refine vp_callSi (W.runV (As := [.int (y_11 + ((Vl v 8).toInt32)), .int (Vi v 10)]) (rest := []) ⟨hx, hb, hml, hown, hts⟩ (ct_X6_without l D c4 A z v (y_11 + ((Vl v 8).toInt32)) (Vi v 10) _ hc_13) (cwV 2 hts (wz_V zw_864 zw_866 zs_30 zw_6 zw_867) rfl rfl rfl (by decide +kernel) ⟨Nat.le_of_ble_eq_true rfl, Nat.le_of_ble_eq_true rfl⟩) ⟨fbM, va_recv hK hP (ci := 5) (q0 := 0) rfl rfl, fun U9 hU hW => ⟨rfl, wPre_go hP hD hK hA hS hU hW.alike⟩⟩ rfl rfl hl.1 rfl (lv_room (Nat.le_of_ble_eq_true rfl)) dX6_writeStruct_37 ⟨Nat.le_of_ble_eq_true rfl, Nat.le_of_ble_eq_true rfl⟩) (fun r_13 e_13 => ?_)
  subst e_13
  refine lv_istore (lv' := [(5, .int r_13), (4, .int r_12), (3, .int y_11), (0, .ref (z 0)), (1, .int a1), (2, .int a2)]) hx hb dX6_writeStruct_40 hl (by decide) rfl (fun ls hl => ?_)
  refine lv_aload_n hx hb dX6_writeStruct_42 rfl (lv_at hl 3 rfl) ?_
  refine va_get (D := D) (ci := 5) (v := .int (Vi v 21)) (C := RX6) (T := TX6) (N := 33) hx hb hts (fun w h => wm (zin_X6 w h)) hown hK hP 0 rfl rfl 21 (by decide) (hts _ (wm zw_658)) (fun _ h9 => h9) rfl dX6_writeStruct_43 ?_
  obtain ⟨y_14, e_14, h⟩ := zb_bind h
  try dsimp only at h
  refine zt_i (Option.some.inj e_14) ?_
  refine lv_istore (lv' := [(6, .int y_14), (5, .int r_13), (4, .int r_12), (3, .int y_11), (0, .ref (z 0)), (1, .int a1), (2, .int a2)]) hx hb dX6_writeStruct_46 hl (by decide) rfl (fun ls hl => ?_)
  refine lv_aload_n hx hb dX6_writeStruct_48 rfl (lv_at hl 4 rfl) ?_
  refine va_get (D := D) (ci := 5) (v := .ref (z 22)) (C := RX6) (T := TX6) (N := 33) hx hb hts (fun w h => wm (zin_X6 w h)) hown hK hP 0 rfl rfl 22 (by decide) (hts _ (wm zw_659)) (fun _ h9 => h9) rfl dX6_writeStruct_49 ?_
  refine lv_iload_n hx hb dX6_writeStruct_52 rfl (lv_at hl 5 rfl) ?_
  refine lv_iload hx hb dX6_writeStruct_53 (lv_at hl 2 rfl) ?_
  refine lv_iload hx hb dX6_writeStruct_55 (lv_at hl 1 rfl) ?_
  refine lv_iadd hx hb dX6_writeStruct_57 ?_
  refine lv_if_ne (tgt := 67) hx hb dX6_writeStruct_58 (by decide) (fun c_15 => ?_) (fun c_15 => ?_)
  · skip
    rw [if_neg c_15] at h
    refine lv_iload_n hx hb dX6_writeStruct_67 rfl (lv_at hl 5 rfl) ?_
    refine lv_iload hx hb dX6_writeStruct_68 (lv_at hl 0 rfl) ?_
    refine lv_iload hx hb dX6_writeStruct_70 (lv_at hl 2 rfl) ?_
    refine lv_i2l hx hb dX6_writeStruct_72 rfl ?_
    refine lv_bipush (v := (32 : Int32)) hx hb dX6_writeStruct_73 (by decide) ?_
    refine lv_lshl hx hb dX6_writeStruct_75 rfl ?_
    refine lv_iload hx hb dX6_writeStruct_76 (lv_at hl 1 rfl) ?_
    refine lv_i2l hx hb dX6_writeStruct_78 rfl ?_
    refine lv_bipush (v := (48 : Int32)) hx hb dX6_writeStruct_79 (by decide) ?_
    refine lv_lshl hx hb dX6_writeStruct_81 rfl ?_
    refine lv_lor hx hb dX6_writeStruct_82 ?_
    refine vp_callSl (W.runS (As := [.int a1, .int y_14, .long (((r_12.toInt64) <<< ((32 : Int32).toInt64 &&& 63)) ||| ((r_13.toInt64) <<< ((48 : Int32).toInt64 &&& 63)))]) (rest := [.int a1, .ref (z 22)]) ⟨hx, hb, hml, hown, hts⟩ (ct_X6_pointer l a1 y_14 (((r_12.toInt64) <<< ((32 : Int32).toInt64 &&& 63)) ||| ((r_13.toInt64) <<< ((48 : Int32).toInt64 &&& 63))) _ rfl) (va_cwS 3 hts (wz_S zw_869 zw_870 zw_6 zw_871) rfl rfl rfl (by decide +kernel) ⟨Nat.le_of_ble_eq_true rfl, Nat.le_of_ble_eq_true rfl⟩) ⟨fbN, fun U9 hU hW => ⟨rfl, trivial⟩⟩ rfl rfl hl.1 rfl (lv_room (Nat.le_of_ble_eq_true rfl)) dX6_writeStruct_83 ⟨Nat.le_of_ble_eq_true rfl, Nat.le_of_ble_eq_true rfl⟩) (fun r_16 e_16 => ?_)
    subst e_16
    obtain ⟨y_17, e_17, h⟩ := zb_bind h
    try dsimp only at h
    refine zt_l (Option.some.inj e_17) ?_
    obtain ⟨hi_18, h⟩ := zb_if h
    refine va_last hx hb hK hP hD hS 10 0 rfl rfl (inb_in hi_18) dX6_writeStruct_86 (fun H locs hP hD hS => ?_)
    have hP : va_P D vwCl (mW c4 z (tR v 22 a1.toNatClampNeg y_17)) H := hP
    have hD : va_D A (mW c4 z (tR v 22 a1.toNatClampNeg y_17)) := hD
    refine lv_iconst (v := (0 : Int32)) hx hb dX6_writeStruct_87 (by decide) ?_
    refine lv_istore (lv' := [(7, .int (0 : Int32)), (6, .int y_14), (5, .int r_13), (4, .int r_12), (3, .int y_11), (0, .ref (z 0)), (1, .int a1), (2, .int a2)]) hx hb dX6_writeStruct_88 hl (by decide) rfl (fun ls hl => ?_)
    exact k_90 300 (tR v 22 a1.toNatClampNeg y_17) _ _ a2 y_11 r_12 r_13 y_14 (0 : Int32) hP hD hS ls (lv_sub hl [5, 7, 4, 3, 2, 1, 0] rfl) h
  · skip
    rw [if_pos c_15] at h
    refine lv_ldc2 (v := (4294967292 : Int64)) hx hb hown (hts _ (wm zw_868)) dX6_writeStruct_61 ?_
    refine lv_goto (tgt := 86) hx hb dX6_writeStruct_64 (by decide) ?_
    obtain ⟨hi_19, h⟩ := zb_if h
    refine va_last hx hb hK hP hD hS 10 0 rfl rfl (inb_in hi_19) dX6_writeStruct_86 (fun H locs hP hD hS => ?_)
    have hP : va_P D vwCl (mW c4 z (tR v 22 a1.toNatClampNeg (4294967292 : Int64))) H := hP
    have hD : va_D A (mW c4 z (tR v 22 a1.toNatClampNeg (4294967292 : Int64))) := hD
    refine lv_iconst (v := (0 : Int32)) hx hb dX6_writeStruct_87 (by decide) ?_
    refine lv_istore (lv' := [(7, .int (0 : Int32)), (6, .int y_14), (5, .int r_13), (4, .int r_12), (3, .int y_11), (0, .ref (z 0)), (1, .int a1), (2, .int a2)]) hx hb dX6_writeStruct_88 hl (by decide) rfl (fun ls hl => ?_)
    exact k_90 300 (tR v 22 a1.toNatClampNeg (4294967292 : Int64)) _ _ a2 y_11 r_12 r_13 y_14 (0 : Int32) hP hD hS ls (lv_sub hl [5, 7, 4, 3, 2, 1, 0] rfl) h
