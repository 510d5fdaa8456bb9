set_option maxHeartbeats 8000000 in
set_option maxRecDepth 100000 in
theorem whole_start {p : Program} {e : Env} {s : State} {m : MethodId} {below : List Frame} {meth : Method} {c : Code} (l : Launch) (hl0 : l.stackTraces = false) {b L : Nat} {xs : Nat → Int32} (hL : L ≤ 2560) (C0 : lw_At p s m meth c b L xs) : W p l e room_1 s m #[Value.ref b] below meth c s.heap [] 0 0 (lw_Z below #[Value.ref b] s) (entryFrame m ([Value.ref b] : List Value).toArray 8) := by
  obtain ⟨hx, hb, hr, hml, hown, hts, hX, hbl, hlocks, hgv⟩ := id C0
  have hA : ∀ q : Nat, s.heap.size ≤ q → LA s q := fun _ h => h
  obtain ⟨D, c4, hK⟩ := z_K hts
  have hE := z_E hts hgv
  have hN := z_Nc hgv
  have hNs := z_Ns hts
  have hCx : LCtx p l s m meth c b L xs D c4 := ⟨C0, hK, hE, hN, hl0⟩
  have hS : va_S (LA s) s.heap s.heap [] := va_S.rf
  have hP : va_P D vwCl [] s.heap := fun k q h => by simp at h
  have hD : va_D (LA s) [] := ⟨fun i j p q h => by simp at h, fun k q h => by simp at h⟩
  have hl := lv_entry ([.ref b]) (n := 8) (Nat.le_of_ble_eq_true rfl)
  rw [lg_entry_eq]
  generalize (lg_sl ([.ref b]) ++ List.replicate (8 - (lg_sl ([.ref b])).length) Slot.unset).toArray = ls at hl ⊢
  have hl : lv_has ls 8 [(0, .ref b)] := hl
  refine va_new (ci := 4) (fs := [.null, .null, .null, .null, .null, .null, .int 0, .int 0, .int 0]) (C := RX5) (T := TX5) (N := 9) hx hb hts (fun w h => wgl (zin_X5 w h)) tyX5 tyX5_ok hown (hts _ (wgl zw_18)) (hts _ (wgl zw_19)) (hts _ (wgl zw_1)) hK hP hD hS hA rfl (fun j hj => by rcases (show j = 0 ∨ j = 1 ∨ j = 2 ∨ j = 3 ∨ j = 4 ∨ j = 5 ∨ j = 6 ∨ j = 7 ∨ j = 8 by omega) with rfl | rfl | rfl | rfl | rfl | rfl | rfl | rfl | rfl <;> rfl) (Nat.le_of_ble_eq_true rfl) (Nat.le_of_ble_eq_true rfl) dL_law_0 (fun q1 H hP hD hS => ?_)
  refine lv_dup hx hb dL_law_3 rfl ?_
  have hP : va_P D vwCl (([] : va_W) ++ [(q1, .inr (4, [.null, .null, .null, .null, .null, .null, .int 0, .int 0, .int 0]))]) H := hP
  have hD : va_D (LA s) (([] : va_W) ++ [(q1, .inr (4, [.null, .null, .null, .null, .null, .null, .int 0, .int 0, .int 0]))]) := hD
  have hFc := zfreeR hD hS hA
  refine va_callv (va_runI (As := []) (rest := [.ref q1]) ⟨hx, hb, hml, hown, hts⟩ (ct_X5_init l D c4 (va_A [(q1, .inr (4, [.null, .null, .null, .null, .null, .null, .int 0, .int 0, .int 0]))] H.size) q1) (cwI 0 hts (wzl_app (l := []) zw_22 wl_0) rfl rfl rfl (hts _ (wgl zw_1)) (hts _ (wgl zw_20)) (hts _ (wgl zw_21)) rfl (by decide +kernel) ⟨Nat.le_of_ble_eq_true rfl, Nat.le_of_ble_eq_true rfl⟩) ⟨fbK, fun U9 hU hW => ⟨rfl, ⟨by rw [hU]; exact va_P_r hP, (va_D_r hD).self, va_K.moved hW.alike hK, fun q h => Or.inr (by rw [hU] at h; exact h)⟩, hNs.warm hW⟩⟩ rfl rfl hl.1 rfl (lv_room (Nat.le_of_ble_eq_true rfl)) dL_law_4 ⟨Nat.le_of_ble_eq_true rfl, Nat.le_of_ble_eq_true rfl⟩) hS (fun q _ h => hFc q h) hFc (fun f_q1 t H1 locs ht hvm hw hB hz1 hk1 hS => ?_)
  obtain ⟨hP1, hD1, -, -⟩ := hB
  rw [ht] at hP1
  obtain ⟨hP, hD⟩ := zjoinR hP hD hk1 hFc hP1 hD1
  generalize H1 = H at hP hS ⊢
  have hP : va_P D vwCl (zW1 c4 q1 f_q1) H := hP
  have hD : va_D (LA s) (zW1 c4 q1 f_q1) := hD
  have hg := zW1_inj hD
  have hPz := zconvP hg hP
  have hDz := zconvD hD
  have hZ := Zf_ok hg
  have hR := S_start hg
  have hz0 : Zz (Zf (gad q1 f_q1)) 0 = q1 := rfl
  generalize Zf (gad q1 f_q1) = Z at hPz hDz hZ hR hz0
  subst hz0
  have hP := hPz
  have hD := hDz
  refine lv_astore_n (lv' := [(1, .ref (Zz Z 0)), (0, .ref b)]) hx hb dL_law_7 rfl hl (by decide) rfl (fun ls hl => ?_)
  refine va_new (ci := 5) (fs := [.int 0, .null, .null, .int 0, .int 0, .int 0, .int 0, .int 0, .long 0, .int 0, .int 0, .long 0, .long 0, .int 0, .null, .null, .null, .null, .null, .null, .null, .int 0, .null, .int 0, .null, .int 0, .null, .int 0, .int 0, .null, .null, .null, .null]) (C := RX6) (T := TX6) (N := 33) hx hb hts (fun w h => wgl (zin_X6 w h)) tyX6 tyX6_ok hown (hts _ (wgl zw_631)) (hts _ (wgl zw_632)) (hts _ (wgl zw_6)) hK hP hD hS hA rfl (fun j hj => by rcases (show j = 0 ∨ j = 1 ∨ j = 2 ∨ j = 3 ∨ j = 4 ∨ j = 5 ∨ j = 6 ∨ j = 7 ∨ j = 8 ∨ j = 9 ∨ j = 10 ∨ j = 11 ∨ j = 12 ∨ j = 13 ∨ j = 14 ∨ j = 15 ∨ j = 16 ∨ j = 17 ∨ j = 18 ∨ j = 19 ∨ j = 20 ∨ j = 21 ∨ j = 22 ∨ j = 23 ∨ j = 24 ∨ j = 25 ∨ j = 26 ∨ j = 27 ∨ j = 28 ∨ j = 29 ∨ j = 30 ∨ j = 31 ∨ j = 32 by omega) with rfl | rfl | rfl | rfl | rfl | rfl | rfl | rfl | rfl | rfl | rfl | rfl | rfl | rfl | rfl | rfl | rfl | rfl | rfl | rfl | rfl | rfl | rfl | rfl | rfl | rfl | rfl | rfl | rfl | rfl | rfl | rfl | rfl <;> rfl) (Nat.le_of_ble_eq_true rfl) (Nat.le_of_ble_eq_true rfl) dL_law_8 (fun q2 H hP hD hS => ?_)
  refine lv_dup hx hb dL_law_11 rfl ?_
  have hP : va_P D vwCl ((cW c4 Z u00) ++ [(q2, .inr (5, [.int 0, .null, .null, .int 0, .int 0, .int 0, .int 0, .int 0, .long 0, .int 0, .int 0, .long 0, .long 0, .int 0, .null, .null, .null, .null, .null, .null, .null, .int 0, .null, .int 0, .null, .int 0, .null, .int 0, .int 0, .null, .null, .null, .null]))]) H := hP
  have hD : va_D (LA s) ((cW c4 Z u00) ++ [(q2, .inr (5, [.int 0, .null, .null, .int 0, .int 0, .int 0, .int 0, .int 0, .long 0, .int 0, .int 0, .long 0, .long 0, .int 0, .null, .null, .null, .null, .null, .null, .null, .int 0, .null, .int 0, .null, .int 0, .null, .int 0, .int 0, .null, .null, .null, .null]))]) := hD
  have hFc := zfreeR hD hS hA
  refine va_callv (va_runI (As := []) (rest := [.ref q2]) ⟨hx, hb, hml, hown, hts⟩ (ct_X6_init l D c4 (va_A [(q2, .inr (5, [.int 0, .null, .null, .int 0, .int 0, .int 0, .int 0, .int 0, .long 0, .int 0, .int 0, .long 0, .long 0, .int 0, .null, .null, .null, .null, .null, .null, .null, .int 0, .null, .int 0, .null, .int 0, .null, .int 0, .int 0, .null, .null, .null, .null]))] H.size) q2) (cwI 0 hts (wzl_app (l := []) zw_635 wl_0) rfl rfl rfl (hts _ (wgl zw_6)) (hts _ (wgl zw_633)) (hts _ (wgl zw_634)) rfl (by decide +kernel) ⟨Nat.le_of_ble_eq_true rfl, Nat.le_of_ble_eq_true rfl⟩) ⟨fbK, fun U9 hU hW => ⟨rfl, ⟨by rw [hU]; exact va_P_r hP, (va_D_r hD).self, va_K.moved hW.alike hK, fun q h => Or.inr (by rw [hU] at h; exact h)⟩, hNs.warm hW⟩⟩ rfl rfl hl.1 rfl (lv_room (Nat.le_of_ble_eq_true rfl)) dL_law_12 ⟨Nat.le_of_ble_eq_true rfl, Nat.le_of_ble_eq_true rfl⟩) hS (fun q _ h => hFc q h) hFc (fun f_q2 t H1 locs ht hvm hw hB hz1 hk1 hS => ?_)
  obtain ⟨hP1, hD1, -, -⟩ := hB
  rw [ht] at hP1
  obtain ⟨hP, hD⟩ := zjoinR hP hD hk1 hFc hP1 hD1
  generalize H1 = H at hP hS ⊢
  have hPm : va_P D vwCl (cW c4 Z u00 ++ mW c4 (zmz q2 f_q2) v00) H := by rw [← zmW_eq]; exact hP
  have hDm : va_D (LA s) (cW c4 Z u00 ++ mW c4 (zmz q2 f_q2) v00) := by rw [← zmW_eq]; exact hD
  have hz0 : zmz q2 f_q2 0 = q2 := rfl
  generalize zmz q2 f_q2 = z at hPm hDm hz0
  subst hz0
  have hP := hPm
  have hD := hDm
  refine lv_astore_n (lv' := [(2, .ref (z 0)), (1, .ref (Zz Z 0)), (0, .ref b)]) hx hb dL_law_15 rfl hl (by decide) rfl (fun ls hl => ?_)
  refine lv_iconst (v := (1 : Int32)) hx hb dL_law_16 (by decide) ?_
  refine zn_l hx hb (hts _ (wgl zwa_l)) hK hP hD hS hA (N' := 1) (by decide) (by decide) (by decide) (Nat.le_of_ble_eq_true rfl) (Nat.le_of_ble_eq_true rfl) dL_law_17 (fun o H hP hD hS => ?_)
  have hP : va_P D vwCl ((mW c4 z v00 ++ wO c4 o (fun _ => 0)) ++ cW c4 Z u00) H := ((va_P_r (va_P_l hP)).app (va_P_r hP)).app (va_P_l (va_P_l hP))
  have hD : va_D (LA s) ((mW c4 z v00 ++ wO c4 o (fun _ => 0)) ++ cW c4 Z u00) := z_D3 hD
  refine lv_astore_n (lv' := [(3, .ref o), (2, .ref (z 0)), (1, .ref (Zz Z 0)), (0, .ref b)]) hx hb dL_law_19 rfl hl (by decide) rfl (fun ls hl => ?_)
  refine lv_iconst (v := (0 : Int32)) hx hb dL_law_20 (by decide) ?_
  refine lv_istore (lv' := [(4, .int (0 : Int32)), (3, .ref o), (2, .ref (z 0)), (1, .ref (Zz Z 0)), (0, .ref b)]) hx hb dL_law_21 hl (by decide) rfl (fun ls hl => ?_)
  refine W.widen (k := 100 + 0) (n := 2400 + 6 * 0) (by decide) (by decide) ?_
  exact law_loop hL hCx hZ (L + 1) 0 0 (Nat.zero_le L) (by omega) nI_0.symm H _ u00 v00 (fun _ => 0) hP hD hS hR ls (lv_sub hl [4, 3, 2, 1, 0] rfl)
