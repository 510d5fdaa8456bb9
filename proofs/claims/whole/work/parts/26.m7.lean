def pX6_writeElements_278 (kf_267 : MS → Int32 → Int32 → Int32 → Int32 → Int32 → Int32 → Option (MS × Unit)) : Nat → MS → Int32 → Int32 → Int32 → Int32 → Int32 → Int32 → Int32 → Option (MS × Unit)
  | 0, _, _, _, _, _, _, _, _ => none
  | n + 1, v, x0, x1, x2, x3, x4, x5, x6 => (if x6 < 0 then kf_267 v x0 x1 x2 x3 x4 (x5 + (-1 : Int32)) else ((pX6_await v ((((x4 + (1 : Int32)) + (x5 * (x2 + x3))) + x2) + x6) (Vi v 6) ((((Vi v 7) + (x5 * x1)) + (Vi v 9)) + x6) (x0 + (1 : Int32))).bind fun x_2 => pX6_writeElements_278 kf_267 n (x_2.1) x0 x1 x2 x3 x4 x5 (x6 + (-1 : Int32))))
theorem pX6_writeElements_278_s (kf_267 : MS → Int32 → Int32 → Int32 → Int32 → Int32 → Int32 → Option (MS × Unit)) (n : Nat) (v : MS) (x0 : Int32) (x1 : Int32) (x2 : Int32) (x3 : Int32) (x4 : Int32) (x5 : Int32) (x6 : Int32) : pX6_writeElements_278 kf_267 (n + 1) v x0 x1 x2 x3 x4 x5 x6 = (if x6 < 0 then kf_267 v x0 x1 x2 x3 x4 (x5 + (-1 : Int32)) else ((pX6_await v ((((x4 + (1 : Int32)) + (x5 * (x2 + x3))) + x2) + x6) (Vi v 6) ((((Vi v 7) + (x5 * x1)) + (Vi v 9)) + x6) (x0 + (1 : Int32))).bind fun x_2 => pX6_writeElements_278 kf_267 n (x_2.1) x0 x1 x2 x3 x4 x5 (x6 + (-1 : Int32)))) := rfl
def pX6_writeElements_267 : Nat → MS → Int32 → Int32 → Int32 → Int32 → Int32 → Int32 → Option (MS × Unit)
  | 0, _, _, _, _, _, _, _ => none
  | n + 1, v, x0, x1, x2, x3, x4, x5 => (if x5 < 0 then some (v, ()) else ((some (x3 - (1 : Int32))).bind fun y_4 => pX6_writeElements_278 (fun u9 x0 x1 x2 x3 x4 x5 => pX6_writeElements_267 n u9 x0 x1 x2 x3 x4 x5) 300 v x0 x1 x2 x3 x4 x5 y_4))
theorem pX6_writeElements_267_s (n : Nat) (v : MS) (x0 : Int32) (x1 : Int32) (x2 : Int32) (x3 : Int32) (x4 : Int32) (x5 : Int32) : pX6_writeElements_267 (n + 1) v x0 x1 x2 x3 x4 x5 = (if x5 < 0 then some (v, ()) else ((some (x3 - (1 : Int32))).bind fun y_4 => pX6_writeElements_278 (fun u9 x0 x1 x2 x3 x4 x5 => pX6_writeElements_267 n u9 x0 x1 x2 x3 x4 x5) 300 v x0 x1 x2 x3 x4 x5 y_4)) := rfl
def pX6_writeElements_247 (kf_190 : MS → Int32 → Int32 → Int32 → Int32 → Int32 → Int32 → Int32 → Option (MS × Unit)) (kf_199 : MS → Int32 → Int32 → Int32 → Int32 → Int32 → Int32 → Int32 → Int32 → Option (MS × Unit)) (v : MS) (x0 : Int32) (x1 : Int32) (x2 : Int32) (x3 : Int32) (x4 : Int32) (x5 : Int32) (x6 : Int32) (x7 : Int32) (y0 : Int64) : Option (MS × Unit) := ((pX6_put v y0).bind fun x_5 => kf_199 (x_5.1) x0 x1 x2 x3 x4 x5 x6 (x7 + (1 : Int32)))
def pX6_writeElements_199 (kf_190 : MS → Int32 → Int32 → Int32 → Int32 → Int32 → Int32 → Int32 → Option (MS × Unit)) : Nat → MS → Int32 → Int32 → Int32 → Int32 → Int32 → Int32 → Int32 → Int32 → Option (MS × Unit)
  | 0, _, _, _, _, _, _, _, _, _ => none
  | n + 1, v, x0, x1, x2, x3, x4, x5, x6, x7 => (if (x3 + x4) ≤ x7 then kf_190 v x0 x1 x2 x3 x4 x5 (x6 + (1 : Int32)) else (if x3 ≤ x7 then pX6_writeElements_247 kf_190 (fun u9 x0 x1 x2 x3 x4 x5 x6 x7 => pX6_writeElements_199 kf_190 n u9 x0 x1 x2 x3 x4 x5 x6 x7) v x0 x1 x2 x3 x4 x5 x6 x7 (0 : Int64) else (if inb (((((64 : Int32) * (Vi v 6)) + (Vi v 7)) + (x6 * x2)) + x7) 256 = true then pX6_writeElements_247 kf_190 (fun u9 x0 x1 x2 x3 x4 x5 x6 x7 => pX6_writeElements_199 kf_190 n u9 x0 x1 x2 x3 x4 x5 x6 x7) v x0 x1 x2 x3 x4 x5 x6 x7 (Vr v 1 (((((64 : Int32) * (Vi v 6)) + (Vi v 7)) + (x6 * x2)) + x7).toNatClampNeg) else none)))
theorem pX6_writeElements_199_s (kf_190 : MS → Int32 → Int32 → Int32 → Int32 → Int32 → Int32 → Int32 → Option (MS × Unit)) (n : Nat) (v : MS) (x0 : Int32) (x1 : Int32) (x2 : Int32) (x3 : Int32) (x4 : Int32) (x5 : Int32) (x6 : Int32) (x7 : Int32) : pX6_writeElements_199 kf_190 (n + 1) v x0 x1 x2 x3 x4 x5 x6 x7 = (if (x3 + x4) ≤ x7 then kf_190 v x0 x1 x2 x3 x4 x5 (x6 + (1 : Int32)) else (if x3 ≤ x7 then pX6_writeElements_247 kf_190 (fun u9 x0 x1 x2 x3 x4 x5 x6 x7 => pX6_writeElements_199 kf_190 n u9 x0 x1 x2 x3 x4 x5 x6 x7) v x0 x1 x2 x3 x4 x5 x6 x7 (0 : Int64) else (if inb (((((64 : Int32) * (Vi v 6)) + (Vi v 7)) + (x6 * x2)) + x7) 256 = true then pX6_writeElements_247 kf_190 (fun u9 x0 x1 x2 x3 x4 x5 x6 x7 => pX6_writeElements_199 kf_190 n u9 x0 x1 x2 x3 x4 x5 x6 x7) v x0 x1 x2 x3 x4 x5 x6 x7 (Vr v 1 (((((64 : Int32) * (Vi v 6)) + (Vi v 7)) + (x6 * x2)) + x7).toNatClampNeg) else none))) := rfl
def pX6_writeElements_190 : Nat → MS → Int32 → Int32 → Int32 → Int32 → Int32 → Int32 → Int32 → Option (MS × Unit)
  | 0, _, _, _, _, _, _, _, _ => none
  | n + 1, v, x0, x1, x2, x3, x4, x5, x6 => (if x1 ≤ x6 then ((some (x1 - (1 : Int32))).bind fun y_10 => pX6_writeElements_267 300 v x0 x2 x3 x4 x5 y_10) else pX6_writeElements_199 (fun u9 x0 x1 x2 x3 x4 x5 x6 => pX6_writeElements_190 n u9 x0 x1 x2 x3 x4 x5 x6) 300 v x0 x1 x2 x3 x4 x5 x6 (0 : Int32))
theorem pX6_writeElements_190_s (n : Nat) (v : MS) (x0 : Int32) (x1 : Int32) (x2 : Int32) (x3 : Int32) (x4 : Int32) (x5 : Int32) (x6 : Int32) : pX6_writeElements_190 (n + 1) v x0 x1 x2 x3 x4 x5 x6 = (if x1 ≤ x6 then ((some (x1 - (1 : Int32))).bind fun y_10 => pX6_writeElements_267 300 v x0 x2 x3 x4 x5 y_10) else pX6_writeElements_199 (fun u9 x0 x1 x2 x3 x4 x5 x6 => pX6_writeElements_190 n u9 x0 x1 x2 x3 x4 x5 x6) 300 v x0 x1 x2 x3 x4 x5 x6 (0 : Int32)) := rfl
def pX6_writeElements_124 (kf_26 : MS → Int32 → Int32 → Int32 → Int32 → Int32 → Int32 → Int32 → Option (MS × Unit)) (v : MS) (x0 : Int32) (x1 : Int32) (x2 : Int32) (x3 : Int32) (x4 : Int32) (x5 : Int32) (y0 : Int32) : Option (MS × Unit) := kf_26 v x0 x1 x2 x3 x4 y0 (x5 + (1 : Int32))
def pX6_writeElements_82 (kf_26 : MS → Int32 → Int32 → Int32 → Int32 → Int32 → Int32 → Int32 → Option (MS × Unit)) (v : MS) (x0 : Int32) (x1 : Int32) (x2 : Int32) (x3 : Int32) (x4 : Int32) (x5 : Int32) (x6 : Int32) (y0 : Int32) : Option (MS × Unit) := ((pX6_without v (x6 + (Vi v 9)) (Vi v 10)).bind fun r_11 => (if r_11 ≤ x4 then pX6_writeElements_124 kf_26 v x0 x1 x2 x3 y0 x5 x4 else ((pX6_without v (x6 + (Vi v 9)) (Vi v 10)).bind fun r_13 => pX6_writeElements_124 kf_26 v x0 x1 x2 x3 y0 x5 r_13)))
def pX6_writeElements_26 : Nat → MS → Int32 → Int32 → Int32 → Int32 → Int32 → Int32 → Int32 → Option (MS × Unit)
  | 0, _, _, _, _, _, _, _, _ => none
  | n + 1, v, x0, x1, x2, x3, x4, x5, x6 => (if x2 ≤ x6 then ((some (Vi v 21)).bind fun y_15 => ((some (pX6_pointer x0 y_15 ((30064771073 : Int64) ||| (((x2 * (x4 + x5)).toInt64) <<< ((35 : Int32).toInt64 &&& 63))))).bind fun y_17 => (if inb x0 160 = true then ((pX6_put (tR v 22 x0.toNatClampNeg y_17) ((((x2.toInt64) <<< ((2 : Int32).toInt64 &&& 63)) ||| ((x4.toInt64) <<< ((32 : Int32).toInt64 &&& 63))) ||| ((x5.toInt64) <<< ((48 : Int32).toInt64 &&& 63)))).bind fun x_19 => pX6_writeElements_190 300 (x_19.1) x1 x2 x3 x4 x5 y_15 (0 : Int32)) else none))) else ((some ((((64 : Int32) * (Vi v 6)) + (Vi v 7)) + (x6 * x3))).bind fun y_20 => ((pX6_without v y_20 (Vi v 9)).bind fun r_21 => (if r_21 ≤ x4 then pX6_writeElements_82 (fun u9 x0 x1 x2 x3 x4 x5 x6 => pX6_writeElements_26 n u9 x0 x1 x2 x3 x4 x5 x6) v x0 x1 x2 x3 x5 x6 y_20 x4 else ((pX6_without v y_20 (Vi v 9)).bind fun r_23 => pX6_writeElements_82 (fun u9 x0 x1 x2 x3 x4 x5 x6 => pX6_writeElements_26 n u9 x0 x1 x2 x3 x4 x5 x6) v x0 x1 x2 x3 x5 x6 y_20 r_23)))))
theorem pX6_writeElements_26_s (n : Nat) (v : MS) (x0 : Int32) (x1 : Int32) (x2 : Int32) (x3 : Int32) (x4 : Int32) (x5 : Int32) (x6 : Int32) : pX6_writeElements_26 (n + 1) v x0 x1 x2 x3 x4 x5 x6 = (if x2 ≤ x6 then ((some (Vi v 21)).bind fun y_15 => ((some (pX6_pointer x0 y_15 ((30064771073 : Int64) ||| (((x2 * (x4 + x5)).toInt64) <<< ((35 : Int32).toInt64 &&& 63))))).bind fun y_17 => (if inb x0 160 = true then ((pX6_put (tR v 22 x0.toNatClampNeg y_17) ((((x2.toInt64) <<< ((2 : Int32).toInt64 &&& 63)) ||| ((x4.toInt64) <<< ((32 : Int32).toInt64 &&& 63))) ||| ((x5.toInt64) <<< ((48 : Int32).toInt64 &&& 63)))).bind fun x_19 => pX6_writeElements_190 300 (x_19.1) x1 x2 x3 x4 x5 y_15 (0 : Int32)) else none))) else ((some ((((64 : Int32) * (Vi v 6)) + (Vi v 7)) + (x6 * x3))).bind fun y_20 => ((pX6_without v y_20 (Vi v 9)).bind fun r_21 => (if r_21 ≤ x4 then pX6_writeElements_82 (fun u9 x0 x1 x2 x3 x4 x5 x6 => pX6_writeElements_26 n u9 x0 x1 x2 x3 x4 x5 x6) v x0 x1 x2 x3 x5 x6 y_20 x4 else ((pX6_without v y_20 (Vi v 9)).bind fun r_23 => pX6_writeElements_82 (fun u9 x0 x1 x2 x3 x4 x5 x6 => pX6_writeElements_26 n u9 x0 x1 x2 x3 x4 x5 x6) v x0 x1 x2 x3 x5 x6 y_20 r_23))))) := rfl
def pX6_writeElements (v : MS) (a1 : Int32) (a2 : Int32) : Option (MS × Unit) := ((some ((Vl v 8).toInt32)).bind fun y_24 => ((some ((Vi v 9) + (Vi v 10))).bind fun y_25 => pX6_writeElements_26 300 v a1 a2 y_24 y_25 (0 : Int32) (0 : Int32) (0 : Int32)))
set_option maxHeartbeats 4000000 in
set_option maxRecDepth 100000 in
theorem ct_X6_writeElements (l : Launch) (D : va_G) (c4 : Nat → ClassId) (A : Nat → Prop) (z : Nat → Nat) (v : MS) (a1 : Int32) (a2 : Int32) (res : MS × Unit) (h : pX6_writeElements v a1 a2 = some res) : Met l yX6_writeElements (wz yX6_writeElements cX6_writeElements 10 none) ({ frames := 1, cells := 0, slots := 0, locals := 25 } : Room) (va_Pc [.ref (z 0), .int a1, .int a2] (fun U => mPre D c4 A z v U)) (va_Qv (fun w => res = (w, ())) (fun w t => wPre D c4 A (mW c4 z w) t) A) 0 0 A := by
  refine Met.ofW (cc := cX6_writeElements) (maxL := 10) (ret := none) (by decide) rfl ?_
  intro p e s m args below meth c s₁ B hml hv
  obtain ⟨rfl, hP, hD, hK, hA⟩ := hv
  have hx := B.exec
  have hb := B.bytes
  have hr := B.returns
  have hts := atoms_spec (ws := (wz yX6_writeElements cX6_writeElements 10 none)) B.pre
  have hown : s.vm.findClass RX6 = some m.cls := findClass_of_methodNamed B.named
  have hlocks := B.notSynchronized
  have hS : va_S A s.heap s.heap [] := va_S.rf
  have hl := lv_entry ([.ref (z 0), .int a1, .int a2]) (n := 10) (Nat.le_of_ble_eq_true rfl)
  rw [lg_entry_eq]
  generalize (lg_sl ([.ref (z 0), .int a1, .int a2]) ++ List.replicate (10 - (lg_sl ([.ref (z 0), .int a1, .int a2])).length) Slot.unset).toArray = ls at hl ⊢
  have hl : lv_has ls 10 [(0, .ref (z 0)), (1, .int a1), (2, .int a2)] := hl
  have k_267 : ∀ (n_267 : Nat), ∀ (v : MS) (H : Heap) (locs : List Loc) (x0 : Int32) (x1 : Int32) (x2 : Int32) (x3 : Int32) (x4 : Int32) (x5 : Int32), va_P D vwCl (mW c4 z v) H → va_D A (mW c4 z v) → va_S A s.heap H locs → ∀ (ls : Array Slot), lv_has ls 10 [(0, .ref (z 0)), (2, .int x0), (4, .int x1), (5, .int x2), (6, .int x3), (7, .int x4), (8, .int x5)] → pX6_writeElements_267 n_267 v x0 x1 x2 x3 x4 x5 = some res → W p l e ({ frames := 1, cells := 0, slots := 0, locals := 25 } : Room) s m ([.ref (z 0), .int a1, .int a2] : List Value).toArray below meth c H locs 0 0 (MQ below (va_Qv (fun w => res = (w, ())) (fun w t => wPre D c4 A (mW c4 z w) t) A) ([.ref (z 0), .int a1, .int a2] : List Value).toArray s 0 0 A) (F0 m 267 ls []) := by
    intro n_267
    induction n_267 with
    | zero =>
      intro v H locs x0 x1 x2 x3 x4 x5 hP hD hS ls hl h
      exact nomatch h
    | succ n_267 ih_267 =>
      have k_278 : ∀ (n_278 : Nat), ∀ (v : MS) (H : Heap) (locs : List Loc) (x0 : Int32) (x1 : Int32) (x2 : Int32) (x3 : Int32) (x4 : Int32) (x5 : Int32) (x6 : Int32), va_P D vwCl (mW c4 z v) H → va_D A (mW c4 z v) → va_S A s.heap H locs → ∀ (ls : Array Slot), lv_has ls 10 [(0, .ref (z 0)), (2, .int x0), (4, .int x1), (5, .int x2), (6, .int x3), (7, .int x4), (8, .int x5), (9, .int x6)] → pX6_writeElements_278 (fun u9 x0 x1 x2 x3 x4 x5 => pX6_writeElements_267 n_267 u9 x0 x1 x2 x3 x4 x5) n_278 v x0 x1 x2 x3 x4 x5 x6 = some res → W p l e ({ frames := 1, cells := 0, slots := 0, locals := 25 } : Room) s m ([.ref (z 0), .int a1, .int a2] : List Value).toArray below meth c H locs 0 0 (MQ below (va_Qv (fun w => res = (w, ())) (fun w t => wPre D c4 A (mW c4 z w) t) A) ([.ref (z 0), .int a1, .int a2] : List Value).toArray s 0 0 A) (F0 m 278 ls []) := by
        intro n_278
        induction n_278 with
        | zero =>
          intro v H locs x0 x1 x2 x3 x4 x5 x6 hP hD hS ls hl h
          exact nomatch h
        | succ n_278 ih_278 =>
          intro v H locs x0 x1 x2 x3 x4 x5 x6 hP hD hS ls hl h
          rw [pX6_writeElements_278_s] at h
          refine lv_iload hx hb dX6_writeElements_278 (lv_at hl 7 rfl) ?_
          refine lv_if_lt (tgt := 337) hx hb dX6_writeElements_280 (by decide) (fun c_1 => ?_) (fun c_1 => ?_)
          · skip
            rw [if_pos c_1] at h
            refine lv_iinc (v := (x5 + (-1 : Int32))) (lv' := [(8, .int (x5 + (-1 : Int32))), (0, .ref (z 0)), (2, .int x0), (4, .int x1), (5, .int x2), (6, .int x3), (7, .int x4), (9, .int x6)]) hx hb dX6_writeElements_337 hl (k := 6) rfl rfl (by decide) rfl (fun ls hl => ?_)
            refine lv_goto (tgt := 267) hx hb dX6_writeElements_340 (by decide) ?_
            exact ih_267 v _ _ x0 x1 x2 x3 x4 (x5 + (-1 : Int32)) hP hD hS ls (lv_sub hl [1, 2, 3, 4, 5, 6, 0] rfl) h
          · skip
            rw [if_neg c_1] at h
            refine lv_aload_n hx hb dX6_writeElements_283 rfl (lv_at hl 0 rfl) ?_
            refine lv_iload hx hb dX6_writeElements_284 (lv_at hl 5 rfl) ?_
            refine lv_iconst (v := (1 : Int32)) hx hb dX6_writeElements_286 (by decide) ?_
            refine lv_iadd hx hb dX6_writeElements_287 ?_
            refine lv_iload hx hb dX6_writeElements_288 (lv_at hl 6 rfl) ?_
            refine lv_iload hx hb dX6_writeElements_290 (lv_at hl 3 rfl) ?_
            refine lv_iload hx hb dX6_writeElements_292 (lv_at hl 4 rfl) ?_
            refine lv_iadd hx hb dX6_writeElements_294 ?_
            refine lv_imul hx hb dX6_writeElements_295 ?_
            refine lv_iadd hx hb dX6_writeElements_296 ?_
            refine lv_iload hx hb dX6_writeElements_297 (lv_at hl 3 rfl) ?_
            refine lv_iadd hx hb dX6_writeElements_299 ?_
            refine lv_iload hx hb dX6_writeElements_300 (lv_at hl 7 rfl) ?_
            refine lv_iadd hx hb dX6_writeElements_302 ?_
            refine lv_aload_n hx hb dX6_writeElements_303 rfl (lv_at hl 0 rfl) ?_
            refine va_get (D := D) (ci := 5) (v := .int (Vi v 6)) (C := RX6) (T := TX6) (N := 33) hx hb hts (fun w h => wm (zin_X6 w h)) hown hK hP 0 rfl rfl 6 (by decide) (hts _ (wm zw_643)) (fun _ h9 => h9) rfl dX6_writeElements_304 ?_
            refine lv_aload_n hx hb dX6_writeElements_307 rfl (lv_at hl 0 rfl) ?_
            refine va_get (D := D) (ci := 5) (v := .int (Vi v 7)) (C := RX6) (T := TX6) (N := 33) hx hb hts (fun w h => wm (zin_X6 w h)) hown hK hP 0 rfl rfl 7 (by decide) (hts _ (wm zw_644)) (fun _ h9 => h9) rfl dX6_writeElements_308 ?_
            refine lv_iload hx hb dX6_writeElements_311 (lv_at hl 6 rfl) ?_
            refine lv_iload hx hb dX6_writeElements_313 (lv_at hl 2 rfl) ?_
            refine lv_imul hx hb dX6_writeElements_315 ?_
            refine lv_iadd hx hb dX6_writeElements_316 ?_
            refine lv_aload_n hx hb dX6_writeElements_317 rfl (lv_at hl 0 rfl) ?_
            refine va_get (D := D) (ci := 5) (v := .int (Vi v 9)) (C := RX6) (T := TX6) (N := 33) hx hb hts (fun w h => wm (zin_X6 w h)) hown hK hP 0 rfl rfl 9 (by decide) (hts _ (wm zw_646)) (fun _ h9 => h9) rfl dX6_writeElements_318 ?_
            refine lv_iadd hx hb dX6_writeElements_321 ?_
            refine lv_iload hx hb dX6_writeElements_322 (lv_at hl 7 rfl) ?_
            refine lv_iadd hx hb dX6_writeElements_324 ?_
            refine lv_iload_n hx hb dX6_writeElements_325 rfl (lv_at hl 1 rfl) ?_
            refine lv_iconst (v := (1 : Int32)) hx hb dX6_writeElements_326 (by decide) ?_
            refine lv_iadd hx hb dX6_writeElements_327 ?_
            obtain ⟨x_2, hc_2, h⟩ := zb_bind h
            try dsimp only at h
            refine va_callv (va_runV (As := [.int ((((x4 + (1 : Int32)) + (x5 * (x2 + x3))) + x2) + x6), .int (Vi v 6), .int ((((Vi v 7) + (x5 * x1)) + (Vi v 9)) + x6), .int (x0 + (1 : Int32))]) (rest := []) ⟨hx, hb, hml, hown, hts⟩ (ct_X6_await l D c4 A z v ((((x4 + (1 : Int32)) + (x5 * (x2 + x3))) + x2) + x6) (Vi v 6) ((((Vi v 7) + (x5 * x1)) + (Vi v 9)) + x6) (x0 + (1 : Int32)) _ hc_2) (cwV 4 hts (wz_V zw_873 zw_875 zs_31 zw_6 zw_876) rfl rfl rfl (by decide +kernel) ⟨Nat.le_of_ble_eq_true rfl, Nat.le_of_ble_eq_true rfl⟩) ⟨fbM, va_recv hK hP (ci := 5) (q0 := 0) rfl rfl, fun U9 hU hW => ⟨rfl, wPre_go hP hD hK hA hS hU hW.alike⟩⟩ rfl rfl hl.1 rfl (lv_room (Nat.le_of_ble_eq_true rfl)) dX6_writeElements_328 ⟨Nat.le_of_ble_eq_true rfl, Nat.le_of_ble_eq_true rfl⟩) hS (fun q _ h => h) (fun q h => h) (fun u_2 t H1 locs ht hvm e_2 hB hz1 hk1 hS => ?_)
            subst e_2
            try dsimp only at h
            obtain ⟨hP, hD, -, -⟩ := hB
            rw [ht] at hP
            generalize H1 = H at hP hS ⊢
            refine lv_iinc (v := (x6 + (-1 : Int32))) (lv' := [(9, .int (x6 + (-1 : Int32))), (0, .ref (z 0)), (2, .int x0), (4, .int x1), (5, .int x2), (6, .int x3), (7, .int x4), (8, .int x5)]) hx hb dX6_writeElements_331 hl (k := 7) rfl rfl (by decide) rfl (fun ls hl => ?_)
            refine lv_goto (tgt := 278) hx hb dX6_writeElements_334 (by decide) ?_
            exact ih_278 u_2 _ _ x0 x1 x2 x3 x4 x5 (x6 + (-1 : Int32)) hP hD hS ls (lv_sub hl [1, 2, 3, 4, 5, 6, 7, 0] rfl) h
      intro v H locs x0 x1 x2 x3 x4 x5 hP hD hS ls hl h
      rw [pX6_writeElements_267_s] at h
      refine lv_iload hx hb dX6_writeElements_267 (lv_at hl 6 rfl) ?_
      refine lv_if_lt (tgt := 343) hx hb dX6_writeElements_269 (by decide) (fun c_3 => ?_) (fun c_3 => ?_)
      · skip
        rw [if_pos c_3] at h
        exact W.vret hx hb hr (fun t ht hW => ⟨⟨v, rfl, (Option.some.inj h).symm, wPre_go hP hD hK hA hS ht hW.alike⟩, hS.F ht⟩) hS.2.2 dX6_writeElements_343
      · skip
        rw [if_neg c_3] at h
        refine lv_iload hx hb dX6_writeElements_272 (lv_at hl 4 rfl) ?_
        refine lv_iconst (v := (1 : Int32)) hx hb dX6_writeElements_274 (by decide) ?_
        refine lv_isub hx hb dX6_writeElements_275 ?_
        obtain ⟨y_4, e_4, h⟩ := zb_bind h
        try dsimp only at h
        refine zt_i (Option.some.inj e_4) ?_
        refine lv_istore (lv' := [(9, .int y_4), (0, .ref (z 0)), (2, .int x0), (4, .int x1), (5, .int x2), (6, .int x3), (7, .int x4), (8, .int x5)]) hx hb dX6_writeElements_276 hl (by decide) rfl (fun ls hl => ?_)
        exact k_278 300 v _ _ x0 x1 x2 x3 x4 x5 y_4 hP hD hS ls (lv_sub hl [1, 2, 3, 4, 5, 6, 7, 0] rfl) h
  have k_190 : ∀ (n_190 : Nat), ∀ (v : MS) (H : Heap) (locs : List Loc) (x0 : Int32) (x1 : Int32) (x2 : Int32) (x3 : Int32) (x4 : Int32) (x5 : Int32) (x6 : Int32), va_P D vwCl (mW c4 z v) H → va_D A (mW c4 z v) → va_S A s.heap H locs → ∀ (ls : Array Slot), lv_has ls 10 [(0, .ref (z 0)), (2, .int x0), (3, .int x1), (4, .int x2), (5, .int x3), (6, .int x4), (7, .int x5), (8, .int x6)] → pX6_writeElements_190 n_190 v x0 x1 x2 x3 x4 x5 x6 = some res → W p l e ({ frames := 1, cells := 0, slots := 0, locals := 25 } : Room) s m ([.ref (z 0), .int a1, .int a2] : List Value).toArray below meth c H locs 0 0 (MQ below (va_Qv (fun w => res = (w, ())) (fun w t => wPre D c4 A (mW c4 z w) t) A) ([.ref (z 0), .int a1, .int a2] : List Value).toArray s 0 0 A) (F0 m 190 ls []) := by
    intro n_190
    induction n_190 with
    | zero =>
      intro v H locs x0 x1 x2 x3 x4 x5 x6 hP hD hS ls hl h
      exact nomatch h
    | succ n_190 ih_190 =>
      have k_199 : ∀ (n_199 : Nat), ∀ (v : MS) (H : Heap) (locs : List Loc) (x0 : Int32) (x1 : Int32) (x2 : Int32) (x3 : Int32) (x4 : Int32) (x5 : Int32) (x6 : Int32) (x7 : Int32), va_P D vwCl (mW c4 z v) H → va_D A (mW c4 z v) → va_S A s.heap H locs → ∀ (ls : Array Slot), lv_has ls 10 [(0, .ref (z 0)), (2, .int x0), (3, .int x1), (4, .int x2), (5, .int x3), (6, .int x4), (7, .int x5), (8, .int x6), (9, .int x7)] → pX6_writeElements_199 (fun u9 x0 x1 x2 x3 x4 x5 x6 => pX6_writeElements_190 n_190 u9 x0 x1 x2 x3 x4 x5 x6) n_199 v x0 x1 x2 x3 x4 x5 x6 x7 = some res → W p l e ({ frames := 1, cells := 0, slots := 0, locals := 25 } : Room) s m ([.ref (z 0), .int a1, .int a2] : List Value).toArray below meth c H locs 0 0 (MQ below (va_Qv (fun w => res = (w, ())) (fun w t => wPre D c4 A (mW c4 z w) t) A) ([.ref (z 0), .int a1, .int a2] : List Value).toArray s 0 0 A) (F0 m 199 ls []) := by
        intro n_199
        induction n_199 with
        | zero =>
          intro v H locs x0 x1 x2 x3 x4 x5 x6 x7 hP hD hS ls hl h
          exact nomatch h
        | succ n_199 ih_199 =>
          have k_247 : ∀ (v : MS) (H : Heap) (locs : List Loc) (x0 : Int32) (x1 : Int32) (x2 : Int32) (x3 : Int32) (x4 : Int32) (x5 : Int32) (x6 : Int32) (x7 : Int32) (y0 : Int64), va_P D vwCl (mW c4 z v) H → va_D A (mW c4 z v) → va_S A s.heap H locs → ∀ (ls : Array Slot), lv_has ls 10 [(0, .ref (z 0)), (2, .int x0), (3, .int x1), (4, .int x2), (5, .int x3), (6, .int x4), (7, .int x5), (8, .int x6), (9, .int x7)] → pX6_writeElements_247 (fun u9 x0 x1 x2 x3 x4 x5 x6 => pX6_writeElements_190 n_190 u9 x0 x1 x2 x3 x4 x5 x6) (fun u9 x0 x1 x2 x3 x4 x5 x6 x7 => pX6_writeElements_199 (fun u9 x0 x1 x2 x3 x4 x5 x6 => pX6_writeElements_190 n_190 u9 x0 x1 x2 x3 x4 x5 x6) n_199 u9 x0 x1 x2 x3 x4 x5 x6 x7) v x0 x1 x2 x3 x4 x5 x6 x7 y0 = some res → W p l e ({ frames := 1, cells := 0, slots := 0, locals := 25 } : Room) s m ([.ref (z 0), .int a1, .int a2] : List Value).toArray below meth c H locs 0 0 (MQ below (va_Qv (fun w => res = (w, ())) (fun w t => wPre D c4 A (mW c4 z w) t) A) ([.ref (z 0), .int a1, .int a2] : List Value).toArray s 0 0 A) (F0 m 247 ls [.long y0, .ref (z 0)]) := by
            intro v H locs x0 x1 x2 x3 x4 x5 x6 x7 y0 hP hD hS ls hl h
            unfold pX6_writeElements_247 at h
            obtain ⟨x_5, hc_5, h⟩ := zb_bind h
            try dsimp only at h
            refine va_callv (va_runV (As := [.long y0]) (rest := []) ⟨hx, hb, hml, hown, hts⟩ (ct_X6_put l D c4 A z v y0 _ hc_5) (cwV 1 hts (wz_V zw_852 zw_854 zs_27 zw_6 zw_855) rfl rfl rfl (by decide +kernel) ⟨Nat.le_of_ble_eq_true rfl, Nat.le_of_ble_eq_true rfl⟩) ⟨fbM, va_recv hK hP (ci := 5) (q0 := 0) rfl rfl, fun U9 hU hW => ⟨rfl, wPre_go hP hD hK hA hS hU hW.alike⟩⟩ rfl rfl hl.1 rfl (lv_room (Nat.le_of_ble_eq_true rfl)) dX6_writeElements_247 ⟨Nat.le_of_ble_eq_true rfl, Nat.le_of_ble_eq_true rfl⟩) hS (fun q _ h => h) (fun q h => h) (fun u_5 t H1 locs ht hvm e_5 hB hz1 hk1 hS => ?_)
            subst e_5
            try dsimp only at h
            obtain ⟨hP, hD, -, -⟩ := hB
            rw [ht] at hP
            generalize H1 = H at hP hS ⊢
            refine lv_iinc (v := (x7 + (1 : Int32))) (lv' := [(9, .int (x7 + (1 : Int32))), (0, .ref (z 0)), (2, .int x0), (3, .int x1), (4, .int x2), (5, .int x3), (6, .int x4), (7, .int x5), (8, .int x6)]) hx hb dX6_writeElements_250 hl (k := 8) rfl rfl (by decide) rfl (fun ls hl => ?_)
            refine lv_goto (tgt := 199) hx hb dX6_writeElements_253 (by decide) ?_
            exact ih_199 u_5 _ _ x0 x1 x2 x3 x4 x5 x6 (x7 + (1 : Int32)) hP hD hS ls (lv_sub hl [1, 2, 3, 4, 5, 6, 7, 8, 0] rfl) h
          intro v H locs x0 x1 x2 x3 x4 x5 x6 x7 hP hD hS ls hl h
          rw [pX6_writeElements_199_s] at h
          refine lv_iload hx hb dX6_writeElements_199 (lv_at hl 8 rfl) ?_
          refine lv_iload hx hb dX6_writeElements_201 (lv_at hl 4 rfl) ?_
          refine lv_iload hx hb dX6_writeElements_203 (lv_at hl 5 rfl) ?_
          refine lv_iadd hx hb dX6_writeElements_205 ?_
          refine lv_icmp_ge (tgt := 256) hx hb dX6_writeElements_206 (by decide) (fun c_6 => ?_) (fun c_6 => ?_)
          · skip
            rw [if_pos c_6] at h
            refine lv_iinc (v := (x6 + (1 : Int32))) (lv' := [(8, .int (x6 + (1 : Int32))), (0, .ref (z 0)), (2, .int x0), (3, .int x1), (4, .int x2), (5, .int x3), (6, .int x4), (7, .int x5), (9, .int x7)]) hx hb dX6_writeElements_256 hl (k := 7) rfl rfl (by decide) rfl (fun ls hl => ?_)
            refine lv_goto (tgt := 190) hx hb dX6_writeElements_259 (by decide) ?_
            exact ih_190 v _ _ x0 x1 x2 x3 x4 x5 (x6 + (1 : Int32)) hP hD hS ls (lv_sub hl [1, 2, 3, 4, 5, 6, 7, 0] rfl) h
          · skip
            rw [if_neg c_6] at h
            refine lv_aload_n hx hb dX6_writeElements_209 rfl (lv_at hl 0 rfl) ?_
            refine lv_iload hx hb dX6_writeElements_210 (lv_at hl 8 rfl) ?_
            refine lv_iload hx hb dX6_writeElements_212 (lv_at hl 4 rfl) ?_
            refine lv_icmp_ge (tgt := 246) hx hb dX6_writeElements_214 (by decide) (fun c_7 => ?_) (fun c_7 => ?_)
            · skip
              rw [if_pos c_7] at h
              refine lv_lconst (v := (0 : Int64)) hx hb dX6_writeElements_246 (by decide) ?_
              exact k_247 v _ _ x0 x1 x2 x3 x4 x5 x6 x7 (0 : Int64) hP hD hS ls (lv_sub hl [0, 1, 2, 3, 4, 5, 6, 7, 8] rfl) h
            · skip
              rw [if_neg c_7] at h
              refine lv_aload_n hx hb dX6_writeElements_217 rfl (lv_at hl 0 rfl) ?_
              refine va_get (D := D) (ci := 5) (v := .ref (z 1)) (C := RX6) (T := TX6) (N := 33) hx hb hts (fun w h => wm (zin_X6 w h)) hown hK hP 0 rfl rfl 1 (by decide) (hts _ (wm zw_638)) (fun _ h9 => h9) rfl dX6_writeElements_218 ?_
              refine lv_bipush (v := (64 : Int32)) hx hb dX6_writeElements_221 (by decide) ?_
              refine lv_aload_n hx hb dX6_writeElements_223 rfl (lv_at hl 0 rfl) ?_
              refine va_get (D := D) (ci := 5) (v := .int (Vi v 6)) (C := RX6) (T := TX6) (N := 33) hx hb hts (fun w h => wm (zin_X6 w h)) hown hK hP 0 rfl rfl 6 (by decide) (hts _ (wm zw_643)) (fun _ h9 => h9) rfl dX6_writeElements_224 ?_
              refine lv_imul hx hb dX6_writeElements_227 ?_
              refine lv_aload_n hx hb dX6_writeElements_228 rfl (lv_at hl 0 rfl) ?_
              refine va_get (D := D) (ci := 5) (v := .int (Vi v 7)) (C := RX6) (T := TX6) (N := 33) hx hb hts (fun w h => wm (zin_X6 w h)) hown hK hP 0 rfl rfl 7 (by decide) (hts _ (wm zw_644)) (fun _ h9 => h9) rfl dX6_writeElements_229 ?_
              refine lv_iadd hx hb dX6_writeElements_232 ?_
              refine lv_iload hx hb dX6_writeElements_233 (lv_at hl 7 rfl) ?_
              refine lv_iload hx hb dX6_writeElements_235 (lv_at hl 3 rfl) ?_
              refine lv_imul hx hb dX6_writeElements_237 ?_
              refine lv_iadd hx hb dX6_writeElements_238 ?_
              refine lv_iload hx hb dX6_writeElements_239 (lv_at hl 8 rfl) ?_
              refine lv_iadd hx hb dX6_writeElements_241 ?_
              obtain ⟨hi_8, h⟩ := zb_if h
              refine va_lald hx hb hK hP 1 0 rfl rfl (inb_in hi_8) dX6_writeElements_242 ?_
              refine W.eq (g2 := F0 m 243 ls ([.long (Vr v 1 (((((64 : Int32) * (Vi v 6)) + (Vi v 7)) + (x6 * x2)) + x7).toNatClampNeg), .ref (z 0)])) rfl ?_
              refine lv_goto (tgt := 247) hx hb dX6_writeElements_243 (by decide) ?_
              exact k_247 v _ _ x0 x1 x2 x3 x4 x5 x6 x7 (Vr v 1 (((((64 : Int32) * (Vi v 6)) + (Vi v 7)) + (x6 * x2)) + x7).toNatClampNeg) hP hD hS ls (lv_sub hl [0, 1, 2, 3, 4, 5, 6, 7, 8] rfl) h
      intro v H locs x0 x1 x2 x3 x4 x5 x6 hP hD hS ls hl h
      rw [pX6_writeElements_190_s] at h
      refine lv_iload hx hb dX6_writeElements_190 (lv_at hl 7 rfl) ?_
      refine lv_iload_n hx hb dX6_writeElements_192 rfl (lv_at hl 2 rfl) ?_
      refine lv_icmp_ge (tgt := 262) hx hb dX6_writeElements_193 (by decide) (fun c_9 => ?_) (fun c_9 => ?_)
      · skip
        rw [if_pos c_9] at h
        refine lv_iload_n hx hb dX6_writeElements_262 rfl (lv_at hl 2 rfl) ?_
        refine lv_iconst (v := (1 : Int32)) hx hb dX6_writeElements_263 (by decide) ?_
        refine lv_isub hx hb dX6_writeElements_264 ?_
        obtain ⟨y_10, e_10, h⟩ := zb_bind h
        try dsimp only at h
        refine zt_i (Option.some.inj e_10) ?_
        refine lv_istore (lv' := [(8, .int y_10), (0, .ref (z 0)), (2, .int x0), (3, .int x1), (4, .int x2), (5, .int x3), (6, .int x4), (7, .int x5)]) hx hb dX6_writeElements_265 hl (by decide) rfl (fun ls hl => ?_)
        exact k_267 300 v _ _ x0 x2 x3 x4 x5 y_10 hP hD hS ls (lv_sub hl [1, 2, 4, 5, 6, 7, 0] rfl) h
      · skip
        rw [if_neg c_9] at h
        refine lv_iconst (v := (0 : Int32)) hx hb dX6_writeElements_196 (by decide) ?_
        refine lv_istore (lv' := [(9, .int (0 : Int32)), (0, .ref (z 0)), (2, .int x0), (3, .int x1), (4, .int x2), (5, .int x3), (6, .int x4), (7, .int x5), (8, .int x6)]) hx hb dX6_writeElements_197 hl (by decide) rfl (fun ls hl => ?_)
        exact k_199 300 v _ _ x0 x1 x2 x3 x4 x5 x6 (0 : Int32) hP hD hS ls (lv_sub hl [1, 2, 3, 4, 5, 6, 7, 8, 0] rfl) h
  have k_26 : ∀ (n_26 : Nat), ∀ (v : MS) (H : Heap) (locs : List Loc) (x0 : Int32) (x1 : Int32) (x2 : Int32) (x3 : Int32) (x4 : Int32) (x5 : Int32) (x6 : Int32), va_P D vwCl (mW c4 z v) H → va_D A (mW c4 z v) → va_S A s.heap H locs → ∀ (ls : Array Slot), lv_has ls 10 [(0, .ref (z 0)), (1, .int x0), (2, .int x1), (3, .int x2), (4, .int x3), (5, .int x4), (6, .int x5), (7, .int x6)] → pX6_writeElements_26 n_26 v x0 x1 x2 x3 x4 x5 x6 = some res → W p l e ({ frames := 1, cells := 0, slots := 0, locals := 25 } : Room) s m ([.ref (z 0), .int a1, .int a2] : List Value).toArray below meth c H locs 0 0 (MQ below (va_Qv (fun w => res = (w, ())) (fun w t => wPre D c4 A (mW c4 z w) t) A) ([.ref (z 0), .int a1, .int a2] : List Value).toArray s 0 0 A) (F0 m 26 ls []) := by
    intro n_26
    induction n_26 with
    | zero =>
      intro v H locs x0 x1 x2 x3 x4 x5 x6 hP hD hS ls hl h
      exact nomatch h
    | succ n_26 ih_26 =>
      have k_124 : ∀ (v : MS) (H : Heap) (locs : List Loc) (x0 : Int32) (x1 : Int32) (x2 : Int32) (x3 : Int32) (x4 : Int32) (x5 : Int32) (y0 : Int32), va_P D vwCl (mW c4 z v) H → va_D A (mW c4 z v) → va_S A s.heap H locs → ∀ (ls : Array Slot), lv_has ls 10 [(0, .ref (z 0)), (1, .int x0), (2, .int x1), (3, .int x2), (4, .int x3), (5, .int x4), (7, .int x5)] → pX6_writeElements_124 (fun u9 x0 x1 x2 x3 x4 x5 x6 => pX6_writeElements_26 n_26 u9 x0 x1 x2 x3 x4 x5 x6) v x0 x1 x2 x3 x4 x5 y0 = some res → W p l e ({ frames := 1, cells := 0, slots := 0, locals := 25 } : Room) s m ([.ref (z 0), .int a1, .int a2] : List Value).toArray below meth c H locs 0 0 (MQ below (va_Qv (fun w => res = (w, ())) (fun w t => wPre D c4 A (mW c4 z w) t) A) ([.ref (z 0), .int a1, .int a2] : List Value).toArray s 0 0 A) (F0 m 124 ls [.int y0]) := by
        intro v H locs x0 x1 x2 x3 x4 x5 y0 hP hD hS ls hl h
        unfold pX6_writeElements_124 at h
        refine lv_istore (lv' := [(6, .int y0), (0, .ref (z 0)), (1, .int x0), (2, .int x1), (3, .int x2), (4, .int x3), (5, .int x4), (7, .int x5)]) hx hb dX6_writeElements_124 hl (by decide) rfl (fun ls hl => ?_)
        refine lv_iinc (v := (x5 + (1 : Int32))) (lv' := [(7, .int (x5 + (1 : Int32))), (6, .int y0), (0, .ref (z 0)), (1, .int x0), (2, .int x1), (3, .int x2), (4, .int x3), (5, .int x4)]) hx hb dX6_writeElements_126 hl (k := 7) rfl rfl (by decide) rfl (fun ls hl => ?_)
        refine lv_goto (tgt := 26) hx hb dX6_writeElements_129 (by decide) ?_
        exact ih_26 v _ _ x0 x1 x2 x3 x4 y0 (x5 + (1 : Int32)) hP hD hS ls (lv_sub hl [2, 3, 4, 5, 6, 7, 1, 0] rfl) h
      have k_82 : ∀ (v : MS) (H : Heap) (locs : List Loc) (x0 : Int32) (x1 : Int32) (x2 : Int32) (x3 : Int32) (x4 : Int32) (x5 : Int32) (x6 : Int32) (y0 : Int32), va_P D vwCl (mW c4 z v) H → va_D A (mW c4 z v) → va_S A s.heap H locs → ∀ (ls : Array Slot), lv_has ls 10 [(0, .ref (z 0)), (1, .int x0), (2, .int x1), (3, .int x2), (4, .int x3), (6, .int x4), (7, .int x5), (8, .int x6)] → pX6_writeElements_82 (fun u9 x0 x1 x2 x3 x4 x5 x6 => pX6_writeElements_26 n_26 u9 x0 x1 x2 x3 x4 x5 x6) v x0 x1 x2 x3 x4 x5 x6 y0 = some res → W p l e ({ frames := 1, cells := 0, slots := 0, locals := 25 } : Room) s m ([.ref (z 0), .int a1, .int a2] : List Value).toArray below meth c H locs 0 0 (MQ below (va_Qv (fun w => res = (w, ())) (fun w t => wPre D c4 A (mW c4 z w) t) A) ([.ref (z 0), .int a1, .int a2] : List Value).toArray s 0 0 A) (F0 m 82 ls [.int y0]) := by
        intro v H locs x0 x1 x2 x3 x4 x5 x6 y0 hP hD hS ls hl h
        unfold pX6_writeElements_82 at h
        refine lv_istore (lv' := [(5, .int y0), (0, .ref (z 0)), (1, .int x0), (2, .int x1), (3, .int x2), (4, .int x3), (6, .int x4), (7, .int x5), (8, .int x6)]) hx hb dX6_writeElements_82 hl (by decide) rfl (fun ls hl => ?_)
        refine lv_aload_n hx hb dX6_writeElements_84 rfl (lv_at hl 1 rfl) ?_
        refine lv_iload hx hb dX6_writeElements_85 (lv_at hl 8 rfl) ?_
        refine lv_aload_n hx hb dX6_writeElements_87 rfl (lv_at hl 1 rfl) ?_
        refine va_get (D := D) (ci := 5) (v := .int (Vi v 9)) (C := RX6) (T := TX6) (N := 33) hx hb hts (fun w h => wm (zin_X6 w h)) hown hK hP 0 rfl rfl 9 (by decide) (hts _ (wm zw_646)) (fun _ h9 => h9) rfl dX6_writeElements_88 ?_
        refine lv_iadd hx hb dX6_writeElements_91 ?_
        refine lv_aload_n hx hb dX6_writeElements_92 rfl (lv_at hl 1 rfl) ?_
        refine va_get (D := D) (ci := 5) (v := .int (Vi v 10)) (C := RX6) (T := TX6) (N := 33) hx hb hts (fun w h => wm (zin_X6 w h)) hown hK hP 0 rfl rfl 10 (by decide) (hts _ (wm zw_647)) (fun _ h9 => h9) rfl dX6_writeElements_93 ?_
        obtain ⟨q_11, hc_11, h⟩ := zb_bind h
        try dsimp only at h
        refine vp_callSi (W.runV (As := [.int (x6 + (Vi v 9)), .int (Vi v 10)]) (rest := []) ⟨hx, hb, hml, hown, hts⟩ (ct_X6_without l D c4 A z v (x6 + (Vi v 9)) (Vi v 10) _ hc_11) (cwV 2 hts (wz_V zw_864 zw_866 zs_30 zw_6 zw_867) rfl rfl rfl (by decide +kernel) ⟨Nat.le_of_ble_eq_true rfl, Nat.le_of_ble_eq_true rfl⟩) ⟨fbM, va_recv hK hP (ci := 5) (q0 := 0) rfl rfl, fun U9 hU hW => ⟨rfl, wPre_go hP hD hK hA hS hU hW.alike⟩⟩ rfl rfl hl.1 rfl (lv_room (Nat.le_of_ble_eq_true rfl)) dX6_writeElements_96 ⟨Nat.le_of_ble_eq_true rfl, Nat.le_of_ble_eq_true rfl⟩) (fun r_11 e_11 => ?_)
        subst e_11
        refine lv_iload hx hb dX6_writeElements_99 (lv_at hl 6 rfl) ?_
        refine lv_icmp_le (tgt := 122) hx hb dX6_writeElements_101 (by decide) (fun c_12 => ?_) (fun c_12 => ?_)
        · skip
          rw [if_pos c_12] at h
          refine lv_iload hx hb dX6_writeElements_122 (lv_at hl 6 rfl) ?_
          exact k_124 v _ _ x0 x1 x2 x3 y0 x5 x4 hP hD hS ls (lv_sub hl [1, 2, 3, 4, 5, 0, 7] rfl) h
        · skip
          rw [if_neg c_12] at h
          refine lv_aload_n hx hb dX6_writeElements_104 rfl (lv_at hl 1 rfl) ?_
          refine lv_iload hx hb dX6_writeElements_105 (lv_at hl 8 rfl) ?_
          refine lv_aload_n hx hb dX6_writeElements_107 rfl (lv_at hl 1 rfl) ?_
          refine va_get (D := D) (ci := 5) (v := .int (Vi v 9)) (C := RX6) (T := TX6) (N := 33) hx hb hts (fun w h => wm (zin_X6 w h)) hown hK hP 0 rfl rfl 9 (by decide) (hts _ (wm zw_646)) (fun _ h9 => h9) rfl dX6_writeElements_108 ?_
          refine lv_iadd hx hb dX6_writeElements_111 ?_
          refine lv_aload_n hx hb dX6_writeElements_112 rfl (lv_at hl 1 rfl) ?_
          refine va_get (D := D) (ci := 5) (v := .int (Vi v 10)) (C := RX6) (T := TX6) (N := 33) hx hb hts (fun w h => wm (zin_X6 w h)) hown hK hP 0 rfl rfl 10 (by decide) (hts _ (wm zw_647)) (fun _ h9 => h9) rfl dX6_writeElements_113 ?_
          obtain ⟨q_13, hc_13, h⟩ := zb_bind h
          try dsimp only at h
          refine vp_callSi (W.runV (As := [.int (x6 + (Vi v 9)), .int (Vi v 10)]) (rest := []) ⟨hx, hb, hml, hown, hts⟩ (ct_X6_without l D c4 A z v (x6 + (Vi v 9)) (Vi v 10) _ hc_13) (cwV 2 hts (wz_V zw_864 zw_866 zs_30 zw_6 zw_867) rfl rfl rfl (by decide +kernel) ⟨Nat.le_of_ble_eq_true rfl, Nat.le_of_ble_eq_true rfl⟩) ⟨fbM, va_recv hK hP (ci := 5) (q0 := 0) rfl rfl, fun U9 hU hW => ⟨rfl, wPre_go hP hD hK hA hS hU hW.alike⟩⟩ rfl rfl hl.1 rfl (lv_room (Nat.le_of_ble_eq_true rfl)) dX6_writeElements_116 ⟨Nat.le_of_ble_eq_true rfl, Nat.le_of_ble_eq_true rfl⟩) (fun r_13 e_13 => ?_)
          subst e_13
          refine lv_goto (tgt := 124) hx hb dX6_writeElements_119 (by decide) ?_
          exact k_124 v _ _ x0 x1 x2 x3 y0 x5 r_13 hP hD hS ls (lv_sub hl [1, 2, 3, 4, 5, 0, 7] rfl) h
      intro v H locs x0 x1 x2 x3 x4 x5 x6 hP hD hS ls hl h
      rw [pX6_writeElements_26_s] at h
      refine lv_iload hx hb dX6_writeElements_26 (lv_at hl 7 rfl) ?_
      refine lv_iload_n hx hb dX6_writeElements_28 rfl (lv_at hl 3 rfl) ?_
      refine lv_icmp_ge (tgt := 132) hx hb dX6_writeElements_29 (by decide) (fun c_14 => ?_) (fun c_14 => ?_)
      · skip
        rw [if_pos c_14] at h
        refine lv_aload_n hx hb dX6_writeElements_132 rfl (lv_at hl 0 rfl) ?_
        refine va_get (D := D) (ci := 5) (v := .int (Vi v 21)) (C := RX6) (T := TX6) (N := 33) hx hb hts (fun w h => wm (zin_X6 w h)) hown hK hP 0 rfl rfl 21 (by decide) (hts _ (wm zw_658)) (fun _ h9 => h9) rfl dX6_writeElements_133 ?_
        obtain ⟨y_15, e_15, h⟩ := zb_bind h
        try dsimp only at h
        refine zt_i (Option.some.inj e_15) ?_
        refine lv_istore (lv' := [(7, .int y_15), (0, .ref (z 0)), (1, .int x0), (2, .int x1), (3, .int x2), (4, .int x3), (5, .int x4), (6, .int x5)]) hx hb dX6_writeElements_136 hl (by decide) rfl (fun ls hl => ?_)
        refine lv_aload_n hx hb dX6_writeElements_138 rfl (lv_at hl 1 rfl) ?_
        refine va_get (D := D) (ci := 5) (v := .ref (z 22)) (C := RX6) (T := TX6) (N := 33) hx hb hts (fun w h => wm (zin_X6 w h)) hown hK hP 0 rfl rfl 22 (by decide) (hts _ (wm zw_659)) (fun _ h9 => h9) rfl dX6_writeElements_139 ?_
        refine lv_iload_n hx hb dX6_writeElements_142 rfl (lv_at hl 2 rfl) ?_
        refine lv_iload_n hx hb dX6_writeElements_143 rfl (lv_at hl 2 rfl) ?_
        refine lv_iload hx hb dX6_writeElements_144 (lv_at hl 0 rfl) ?_
        refine lv_ldc2 (v := (30064771073 : Int64)) hx hb hown (hts _ (wm zw_885)) dX6_writeElements_146 ?_
        refine lv_iload_n hx hb dX6_writeElements_149 rfl (lv_at hl 4 rfl) ?_
        refine lv_iload hx hb dX6_writeElements_150 (lv_at hl 6 rfl) ?_
        refine lv_iload hx hb dX6_writeElements_152 (lv_at hl 7 rfl) ?_
        refine lv_iadd hx hb dX6_writeElements_154 ?_
        refine lv_imul hx hb dX6_writeElements_155 ?_
        refine lv_i2l hx hb dX6_writeElements_156 rfl ?_
        refine lv_bipush (v := (35 : Int32)) hx hb dX6_writeElements_157 (by decide) ?_
        refine lv_lshl hx hb dX6_writeElements_159 rfl ?_
        refine lv_lor hx hb dX6_writeElements_160 ?_
        refine vp_callSl (W.runS (As := [.int x0, .int y_15, .long ((30064771073 : Int64) ||| (((x2 * (x4 + x5)).toInt64) <<< ((35 : Int32).toInt64 &&& 63)))]) (rest := [.int x0, .ref (z 22)]) ⟨hx, hb, hml, hown, hts⟩ (ct_X6_pointer l x0 y_15 ((30064771073 : Int64) ||| (((x2 * (x4 + x5)).toInt64) <<< ((35 : Int32).toInt64 &&& 63))) _ rfl) (va_cwS 3 hts (wz_S zw_869 zw_870 zw_6 zw_871) rfl rfl rfl (by decide +kernel) ⟨Nat.le_of_ble_eq_true rfl, Nat.le_of_ble_eq_true rfl⟩) ⟨fbN, fun U9 hU hW => ⟨rfl, trivial⟩⟩ rfl rfl hl.1 rfl (lv_room (Nat.le_of_ble_eq_true rfl)) dX6_writeElements_161 ⟨Nat.le_of_ble_eq_true rfl, Nat.le_of_ble_eq_true rfl⟩) (fun r_16 e_16 => ?_)
        subst e_16
        obtain ⟨y_17, e_17, h⟩ := zb_bind h
        try dsimp only at h
        refine zt_l (Option.some.inj e_17) ?_
        obtain ⟨hi_18, h⟩ := zb_if h
        refine va_last hx hb hK hP hD hS 10 0 rfl rfl (inb_in hi_18) dX6_writeElements_164 (fun H locs hP hD hS => ?_)
        have hP : va_P D vwCl (mW c4 z (tR v 22 x0.toNatClampNeg y_17)) H := hP
        have hD : va_D A (mW c4 z (tR v 22 x0.toNatClampNeg y_17)) := hD
        refine lv_aload_n hx hb dX6_writeElements_165 rfl (lv_at hl 1 rfl) ?_
        refine lv_iload_n hx hb dX6_writeElements_166 rfl (lv_at hl 4 rfl) ?_
        refine lv_i2l hx hb dX6_writeElements_167 rfl ?_
        refine lv_iconst (v := (2 : Int32)) hx hb dX6_writeElements_168 (by decide) ?_
        refine lv_lshl hx hb dX6_writeElements_169 rfl ?_
        refine lv_iload hx hb dX6_writeElements_170 (lv_at hl 6 rfl) ?_
        refine lv_i2l hx hb dX6_writeElements_172 rfl ?_
        refine lv_bipush (v := (32 : Int32)) hx hb dX6_writeElements_173 (by decide) ?_
        refine lv_lshl hx hb dX6_writeElements_175 rfl ?_
        refine lv_lor hx hb dX6_writeElements_176 ?_
        refine lv_iload hx hb dX6_writeElements_177 (lv_at hl 7 rfl) ?_
        refine lv_i2l hx hb dX6_writeElements_179 rfl ?_
        refine lv_bipush (v := (48 : Int32)) hx hb dX6_writeElements_180 (by decide) ?_
        refine lv_lshl hx hb dX6_writeElements_182 rfl ?_
        refine lv_lor hx hb dX6_writeElements_183 ?_
        obtain ⟨x_19, hc_19, h⟩ := zb_bind h
        try dsimp only at h
        refine va_callv (va_runV (As := [.long ((((x2.toInt64) <<< ((2 : Int32).toInt64 &&& 63)) ||| ((x4.toInt64) <<< ((32 : Int32).toInt64 &&& 63))) ||| ((x5.toInt64) <<< ((48 : Int32).toInt64 &&& 63)))]) (rest := []) ⟨hx, hb, hml, hown, hts⟩ (ct_X6_put l D c4 A z (tR v 22 x0.toNatClampNeg y_17) ((((x2.toInt64) <<< ((2 : Int32).toInt64 &&& 63)) ||| ((x4.toInt64) <<< ((32 : Int32).toInt64 &&& 63))) ||| ((x5.toInt64) <<< ((48 : Int32).toInt64 &&& 63))) _ hc_19) (cwV 1 hts (wz_V zw_852 zw_854 zs_27 zw_6 zw_855) rfl rfl rfl (by decide +kernel) ⟨Nat.le_of_ble_eq_true rfl, Nat.le_of_ble_eq_true rfl⟩) ⟨fbM, va_recv hK hP (ci := 5) (q0 := 0) rfl rfl, fun U9 hU hW => ⟨rfl, wPre_go hP hD hK hA hS hU hW.alike⟩⟩ rfl rfl hl.1 rfl (lv_room (Nat.le_of_ble_eq_true rfl)) dX6_writeElements_184 ⟨Nat.le_of_ble_eq_true rfl, Nat.le_of_ble_eq_true rfl⟩) hS (fun q _ h => h) (fun q h => h) (fun u_19 t H1 locs ht hvm e_19 hB hz1 hk1 hS => ?_)
        subst e_19
        try dsimp only at h
        obtain ⟨hP, hD, -, -⟩ := hB
        rw [ht] at hP
        generalize H1 = H at hP hS ⊢
        refine lv_iconst (v := (0 : Int32)) hx hb dX6_writeElements_187 (by decide) ?_
        refine lv_istore (lv' := [(8, .int (0 : Int32)), (7, .int y_15), (0, .ref (z 0)), (1, .int x0), (2, .int x1), (3, .int x2), (4, .int x3), (5, .int x4), (6, .int x5)]) hx hb dX6_writeElements_188 hl (by decide) rfl (fun ls hl => ?_)
        exact k_190 300 u_19 _ _ x1 x2 x3 x4 x5 y_15 (0 : Int32) hP hD hS ls (lv_sub hl [2, 4, 5, 6, 7, 8, 1, 0] rfl) h
      · skip
        rw [if_neg c_14] at h
        refine lv_bipush (v := (64 : Int32)) hx hb dX6_writeElements_32 (by decide) ?_
        refine lv_aload_n hx hb dX6_writeElements_34 rfl (lv_at hl 0 rfl) ?_
        refine va_get (D := D) (ci := 5) (v := .int (Vi v 6)) (C := RX6) (T := TX6) (N := 33) hx hb hts (fun w h => wm (zin_X6 w h)) hown hK hP 0 rfl rfl 6 (by decide) (hts _ (wm zw_643)) (fun _ h9 => h9) rfl dX6_writeElements_35 ?_
        refine lv_imul hx hb dX6_writeElements_38 ?_
        refine lv_aload_n hx hb dX6_writeElements_39 rfl (lv_at hl 0 rfl) ?_
        refine va_get (D := D) (ci := 5) (v := .int (Vi v 7)) (C := RX6) (T := TX6) (N := 33) hx hb hts (fun w h => wm (zin_X6 w h)) hown hK hP 0 rfl rfl 7 (by decide) (hts _ (wm zw_644)) (fun _ h9 => h9) rfl dX6_writeElements_40 ?_
        refine lv_iadd hx hb dX6_writeElements_43 ?_
        refine lv_iload hx hb dX6_writeElements_44 (lv_at hl 7 rfl) ?_
        refine lv_iload hx hb dX6_writeElements_46 (lv_at hl 4 rfl) ?_
        refine lv_imul hx hb dX6_writeElements_48 ?_
        refine lv_iadd hx hb dX6_writeElements_49 ?_
        obtain ⟨y_20, e_20, h⟩ := zb_bind h
        try dsimp only at h
        refine zt_i (Option.some.inj e_20) ?_
        refine lv_istore (lv' := [(8, .int y_20), (0, .ref (z 0)), (1, .int x0), (2, .int x1), (3, .int x2), (4, .int x3), (5, .int x4), (6, .int x5), (7, .int x6)]) hx hb dX6_writeElements_50 hl (by decide) rfl (fun ls hl => ?_)
        refine lv_aload_n hx hb dX6_writeElements_52 rfl (lv_at hl 1 rfl) ?_
        refine lv_iload hx hb dX6_writeElements_53 (lv_at hl 0 rfl) ?_
        refine lv_aload_n hx hb dX6_writeElements_55 rfl (lv_at hl 1 rfl) ?_
        refine va_get (D := D) (ci := 5) (v := .int (Vi v 9)) (C := RX6) (T := TX6) (N := 33) hx hb hts (fun w h => wm (zin_X6 w h)) hown hK hP 0 rfl rfl 9 (by decide) (hts _ (wm zw_646)) (fun _ h9 => h9) rfl dX6_writeElements_56 ?_
        obtain ⟨q_21, hc_21, h⟩ := zb_bind h
        try dsimp only at h
        refine vp_callSi (W.runV (As := [.int y_20, .int (Vi v 9)]) (rest := []) ⟨hx, hb, hml, hown, hts⟩ (ct_X6_without l D c4 A z v y_20 (Vi v 9) _ hc_21) (cwV 2 hts (wz_V zw_864 zw_866 zs_30 zw_6 zw_867) rfl rfl rfl (by decide +kernel) ⟨Nat.le_of_ble_eq_true rfl, Nat.le_of_ble_eq_true rfl⟩) ⟨fbM, va_recv hK hP (ci := 5) (q0 := 0) rfl rfl, fun U9 hU hW => ⟨rfl, wPre_go hP hD hK hA hS hU hW.alike⟩⟩ rfl rfl hl.1 rfl (lv_room (Nat.le_of_ble_eq_true rfl)) dX6_writeElements_59 ⟨Nat.le_of_ble_eq_true rfl, Nat.le_of_ble_eq_true rfl⟩) (fun r_21 e_21 => ?_)
        subst e_21
        refine lv_iload hx hb dX6_writeElements_62 (lv_at hl 6 rfl) ?_
        refine lv_icmp_le (tgt := 80) hx hb dX6_writeElements_64 (by decide) (fun c_22 => ?_) (fun c_22 => ?_)
        · skip
          rw [if_pos c_22] at h
          refine lv_iload hx hb dX6_writeElements_80 (lv_at hl 6 rfl) ?_
          exact k_82 v _ _ x0 x1 x2 x3 x5 x6 y_20 x4 hP hD hS ls (lv_sub hl [1, 2, 3, 4, 5, 7, 8, 0] rfl) h
        · skip
          rw [if_neg c_22] at h
          refine lv_aload_n hx hb dX6_writeElements_67 rfl (lv_at hl 1 rfl) ?_
          refine lv_iload hx hb dX6_writeElements_68 (lv_at hl 0 rfl) ?_
          refine lv_aload_n hx hb dX6_writeElements_70 rfl (lv_at hl 1 rfl) ?_
          refine va_get (D := D) (ci := 5) (v := .int (Vi v 9)) (C := RX6) (T := TX6) (N := 33) hx hb hts (fun w h => wm (zin_X6 w h)) hown hK hP 0 rfl rfl 9 (by decide) (hts _ (wm zw_646)) (fun _ h9 => h9) rfl dX6_writeElements_71 ?_
          obtain ⟨q_23, hc_23, h⟩ := zb_bind h
          try dsimp only at h
          refine vp_callSi (W.runV (As := [.int y_20, .int (Vi v 9)]) (rest := []) ⟨hx, hb, hml, hown, hts⟩ (ct_X6_without l D c4 A z v y_20 (Vi v 9) _ hc_23) (cwV 2 hts (wz_V zw_864 zw_866 zs_30 zw_6 zw_867) rfl rfl rfl (by decide +kernel) ⟨Nat.le_of_ble_eq_true rfl, Nat.le_of_ble_eq_true rfl⟩) ⟨fbM, va_recv hK hP (ci := 5) (q0 := 0) rfl rfl, fun U9 hU hW => ⟨rfl, wPre_go hP hD hK hA hS hU hW.alike⟩⟩ rfl rfl hl.1 rfl (lv_room (Nat.le_of_ble_eq_true rfl)) dX6_writeElements_74 ⟨Nat.le_of_ble_eq_true rfl, Nat.le_of_ble_eq_true rfl⟩) (fun r_23 e_23 => ?_)
          subst e_23
          refine lv_goto (tgt := 82) hx hb dX6_writeElements_77 (by decide) ?_
          exact k_82 v _ _ x0 x1 x2 x3 x5 x6 y_20 r_23 hP hD hS ls (lv_sub hl [1, 2, 3, 4, 5, 7, 8, 0] rfl) h
  unfold pX6_writeElements at h
  refine lv_aload_n hx hb dX6_writeElements_0 rfl (lv_at hl 0 rfl) ?_
  refine va_get (D := D) (ci := 5) (v := .long (Vl v 8)) (C := RX6) (T := TX6) (N := 33) hx hb hts (fun w h => wm (zin_X6 w h)) hown hK hP 0 rfl rfl 8 (by decide) (hts _ (wm zw_645)) (fun _ h9 => h9) rfl dX6_writeElements_1 ?_
  refine lv_l2i hx hb dX6_writeElements_4 rfl ?_
  obtain ⟨y_24, e_24, h⟩ := zb_bind h
  try dsimp only at h
  refine zt_i (Option.some.inj e_24) ?_
  refine lv_istore_n (lv' := [(3, .int y_24), (0, .ref (z 0)), (1, .int a1), (2, .int a2)]) hx hb dX6_writeElements_5 rfl hl (by decide) rfl (fun ls hl => ?_)
  refine lv_aload_n hx hb dX6_writeElements_6 rfl (lv_at hl 1 rfl) ?_
  refine va_get (D := D) (ci := 5) (v := .int (Vi v 9)) (C := RX6) (T := TX6) (N := 33) hx hb hts (fun w h => wm (zin_X6 w h)) hown hK hP 0 rfl rfl 9 (by decide) (hts _ (wm zw_646)) (fun _ h9 => h9) rfl dX6_writeElements_7 ?_
  refine lv_aload_n hx hb dX6_writeElements_10 rfl (lv_at hl 1 rfl) ?_
  refine va_get (D := D) (ci := 5) (v := .int (Vi v 10)) (C := RX6) (T := TX6) (N := 33) hx hb hts (fun w h => wm (zin_X6 w h)) hown hK hP 0 rfl rfl 10 (by decide) (hts _ (wm zw_647)) (fun _ h9 => h9) rfl dX6_writeElements_11 ?_
  refine lv_iadd hx hb dX6_writeElements_14 ?_
  obtain ⟨y_25, e_25, h⟩ := zb_bind h
  try dsimp only at h
  refine zt_i (Option.some.inj e_25) ?_
  refine lv_istore (lv' := [(4, .int y_25), (3, .int y_24), (0, .ref (z 0)), (1, .int a1), (2, .int a2)]) hx hb dX6_writeElements_15 hl (by decide) rfl (fun ls hl => ?_)
  refine lv_iconst (v := (0 : Int32)) hx hb dX6_writeElements_17 (by decide) ?_
  refine lv_istore (lv' := [(5, .int (0 : Int32)), (4, .int y_25), (3, .int y_24), (0, .ref (z 0)), (1, .int a1), (2, .int a2)]) hx hb dX6_writeElements_18 hl (by decide) rfl (fun ls hl => ?_)
  refine lv_iconst (v := (0 : Int32)) hx hb dX6_writeElements_20 (by decide) ?_
  refine lv_istore (lv' := [(6, .int (0 : Int32)), (5, .int (0 : Int32)), (4, .int y_25), (3, .int y_24), (0, .ref (z 0)), (1, .int a1), (2, .int a2)]) hx hb dX6_writeElements_21 hl (by decide) rfl (fun ls hl => ?_)
  refine lv_iconst (v := (0 : Int32)) hx hb dX6_writeElements_23 (by decide) ?_
  refine lv_istore (lv' := [(7, .int (0 : Int32)), (6, .int (0 : Int32)), (5, .int (0 : Int32)), (4, .int y_25), (3, .int y_24), (0, .ref (z 0)), (1, .int a1), (2, .int a2)]) hx hb dX6_writeElements_24 hl (by decide) rfl (fun ls hl => ?_)
  exact k_26 300 v _ _ a1 a2 y_24 y_25 (0 : Int32) (0 : Int32) (0 : Int32) hP hD hS ls (lv_sub hl [5, 6, 7, 4, 3, 2, 1, 0] rfl) h
