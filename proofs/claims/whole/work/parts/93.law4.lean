set_option maxHeartbeats 4000000 in
set_option maxRecDepth 100000 in
theorem law_loop {p : Program} {l : Launch} {e : Env} {s : State} {m : MethodId} {below : List Frame} {meth : Method} {c : Code} {D : va_G} {c4 : Nat → ClassId} {b L : Nat} {xs : Nat → Int32} {Z : CZ} {z : Nat → Nat} {o : Nat} (hL : L ≤ 2560) (C0 : LCtx p l s m meth c b L xs D c4) (hZ : cok Z) : ∀ (n i : Nat) (x4 : Int32), i ≤ L → L + 1 ≤ i + n → x4 = nI i → lCase p l e s m below meth c D c4 b x4 Z z o i 23 := by
  intro n
  induction n with
  | zero => intro i x4 h1 h2; exact absurd h2 (by omega)
  | succ n ih =>
    intro i x4 hi hin ex4
    have C1 := C0
    obtain ⟨⟨hx, hb, hr, hml, hown, hts, hX, hbl, hlocks, hgv⟩, hK, hE, hN, hl0⟩ := C0
    intro H locs u v g hP hD hS hR ls hl
    have hbA : ¬ LA s b := Nat.not_le.mpr hbl
    refine lv_iload hx hb dL_law_23 (lv_at hl 4 rfl) ?_
    refine lv_aload_n hx hb dL_law_25 rfl (lv_at hl 0 rfl) ?_
    refine va_slen hx hb hX hbl hbA hS dL_law_26 ?_
    refine lv_iconst (v := (5 : Int32)) hx hb dL_law_27 (by decide) ?_
    refine lv_isub hx hb dL_law_28 ?_
    refine lv_icmp_gt (tgt := 838) hx hb dL_law_29 (by decide) (fun c9 => ?_) (fun c9 => ?_)
    · refine lv_iconst (v := (1 : Int32)) hx hb dL_law_838 (by decide) ?_
      refine va_forget (fun q hq => hS.2.2 q hq) ?_
      refine W.widen (k := 601024) (n := 7293034) (by omega) (by omega) ?_
      exact lw_ret hx hb hr hlocks dL_law_839
    · have h5 : i + 5 ≤ L := z5_le hL (by rw [← ex4]; exact c9)
      have hv0 : vp_in x4 L := by rw [ex4]; exact vp_in_nI (by omega) (by omega)
      have hv1 : vp_in (x4 + (1 : Int32)) L := by rw [ex4]; exact (show vp_in (nI i + nI 1) L by rw [nI_add]; exact vp_in_nI (by omega) (by omega))
      have hv2 : vp_in (x4 + (2 : Int32)) L := by rw [ex4]; exact (show vp_in (nI i + nI 2) L by rw [nI_add]; exact vp_in_nI (by omega) (by omega))
      have hv3 : vp_in (x4 + (3 : Int32)) L := by rw [ex4]; exact (show vp_in (nI i + nI 3) L by rw [nI_add]; exact vp_in_nI (by omega) (by omega))
      have hv4 : vp_in (x4 + (4 : Int32)) L := by rw [ex4]; exact (show vp_in (nI i + nI 4) L by rw [nI_add]; exact vp_in_nI (by omega) (by omega))
      have K : lKont p l e s m below meth c D c4 b x4 Z z o i := by
        intro H locs u v g hP hD hS hR ls hl
        refine lv_iinc (v := x4 + (5 : Int32)) (lv' := [(4, .int (x4 + (5 : Int32))), (0, .ref b), (1, .ref (Zz Z 0)), (2, .ref (z 0)), (3, .ref o)]) hx hb dL_law_832 hl (k := 4) rfl rfl (by decide) rfl (fun ls hl => ?_)
        refine lv_goto (tgt := 23) hx hb dL_law_835 (by decide) ?_
        refine W.widen (k := 100 + (i + 5)) (n := 2400 + 6 * (i + 5)) (by omega) (by omega) ?_
        exact ih (i + 5) (x4 + (5 : Int32)) (by omega) (by omega) (by rw [ex4]; exact nI_add i 5) H locs u v g hP hD hS hR ls (lv_sub hl [1, 2, 3, 4, 0] rfl)
      refine lv_aload_n hx hb dL_law_32 rfl (lv_at hl 0 rfl) ?_
      refine lv_iload hx hb dL_law_33 (lv_at hl 4 rfl) ?_
      refine va_sld hx hb hX hbl hbA hS hv0 dL_law_35 ?_
      refine lv_bipush (v := (31 : Int32)) hx hb dL_law_36 (by decide) ?_
      refine lv_iand hx hb dL_law_38 ?_
      refine lv_topi (fun t9 et9 => ?_)
      by_cases c_0 : t9 = 0
      · refine lv_tableIn (tgt := 120) hx hb dL_law_39 (by rw [c_0]; decide) (by rw [c_0]; decide) (by rw [c_0]; rfl) (by decide) ?_
        exact lc_add C1 hZ (by omega) hv0 hv1 hv2 hv3 hv4 K H locs u v g hP hD hS hR ls hl
      by_cases c_1 : t9 = 1
      · refine lv_tableIn (tgt := 189) hx hb dL_law_39 (by rw [c_1]; decide) (by rw [c_1]; decide) (by rw [c_1]; rfl) (by decide) ?_
        exact lc_change C1 hZ (by omega) hv0 hv1 hv2 hv3 hv4 K H locs u v g hP hD hS hR ls hl
      by_cases c_2 : t9 = 2
      · refine lv_tableIn (tgt := 270) hx hb dL_law_39 (by rw [c_2]; decide) (by rw [c_2]; decide) (by rw [c_2]; rfl) (by decide) ?_
        exact lc_cut C1 hZ (by omega) hv0 hv1 hv2 hv3 hv4 K H locs u v g hP hD hS hR ls hl
      by_cases c_3 : t9 = 3
      · refine lv_tableIn (tgt := 307) hx hb dL_law_39 (by rw [c_3]; decide) (by rw [c_3]; decide) (by rw [c_3]; rfl) (by decide) ?_
        exact lc_words C1 hZ (by omega) hv0 hv1 hv2 hv3 hv4 K H locs u v g hP hD hS hR ls hl
      by_cases c_4 : t9 = 4
      · refine lv_tableIn (tgt := 332) hx hb dL_law_39 (by rw [c_4]; decide) (by rw [c_4]; decide) (by rw [c_4]; rfl) (by decide) ?_
        exact lc_word C1 hZ (by omega) hv0 hv1 hv2 hv3 hv4 K H locs u v g hP hD hS hR ls hl
      by_cases c_5 : t9 = 5
      · refine lv_tableIn (tgt := 370) hx hb dL_law_39 (by rw [c_5]; decide) (by rw [c_5]; decide) (by rw [c_5]; rfl) (by decide) ?_
        exact lc_budget C1 hZ (by omega) hv0 hv1 hv2 hv3 hv4 K H locs u v g hP hD hS hR ls hl
      by_cases c_6 : t9 = 6
      · refine lv_tableIn (tgt := 395) hx hb dL_law_39 (by rw [c_6]; decide) (by rw [c_6]; decide) (by rw [c_6]; rfl) (by decide) ?_
        exact lc_open C1 hZ (by omega) hv0 hv1 hv2 hv3 hv4 K H locs u v g hP hD hS hR ls hl
      by_cases c_7 : t9 = 7
      · refine lv_tableIn (tgt := 439) hx hb dL_law_39 (by rw [c_7]; decide) (by rw [c_7]; decide) (by rw [c_7]; rfl) (by decide) ?_
        exact lc_left C1 hZ (by omega) hv0 hv1 hv2 hv3 hv4 K H locs u v g hP hD hS hR ls hl
      by_cases c_8 : t9 = 8
      · refine lv_tableIn (tgt := 452) hx hb dL_law_39 (by rw [c_8]; decide) (by rw [c_8]; decide) (by rw [c_8]; rfl) (by decide) ?_
        exact lc_go C1 hZ (by omega) hv0 hv1 hv2 hv3 hv4 K H locs u v g hP hD hS hR ls hl
      by_cases c_9 : t9 = 9
      · refine lv_tableIn (tgt := 520) hx hb dL_law_39 (by rw [c_9]; decide) (by rw [c_9]; decide) (by rw [c_9]; rfl) (by decide) ?_
        exact lc_element C1 hZ (by omega) hv0 hv1 hv2 hv3 hv4 K H locs u v g hP hD hS hR ls hl
      by_cases c_10 : t9 = 10
      · refine lv_tableIn (tgt := 588) hx hb dL_law_39 (by rw [c_10]; decide) (by rw [c_10]; decide) (by rw [c_10]; rfl) (by decide) ?_
        exact lc_about C1 hZ (by omega) hv0 hv1 hv2 hv3 hv4 K H locs u v g hP hD hS hR ls hl
      by_cases c_11 : t9 = 11
      · refine lv_tableIn (tgt := 656) hx hb dL_law_39 (by rw [c_11]; decide) (by rw [c_11]; decide) (by rw [c_11]; rfl) (by decide) ?_
        exact lc_data C1 hZ (by omega) hv0 hv1 hv2 hv3 hv4 K H locs u v g hP hD hS hR ls hl
      by_cases c_12 : t9 = 12
      · refine lv_tableIn (tgt := 723) hx hb dL_law_39 (by rw [c_12]; decide) (by rw [c_12]; decide) (by rw [c_12]; rfl) (by decide) ?_
        exact lc_form C1 hZ (by omega) hv0 hv1 hv2 hv3 hv4 K H locs u v g hP hD hS hR ls hl
      by_cases c_13 : t9 = 13
      · refine lv_tableIn (tgt := 767) hx hb dL_law_39 (by rw [c_13]; decide) (by rw [c_13]; decide) (by rw [c_13]; rfl) (by decide) ?_
        exact lc_formed C1 hZ (by omega) hv0 hv1 hv2 hv3 hv4 K H locs u v g hP hD hS hR ls hl
      by_cases c_14 : t9 = 14
      · refine lv_tableIn (tgt := 793) hx hb dL_law_39 (by rw [c_14]; decide) (by rw [c_14]; decide) (by rw [c_14]; rfl) (by decide) ?_
        exact lc_adopt C1 hZ (by omega) hv0 hv1 hv2 hv3 hv4 K H locs u v g hP hD hS hR ls hl
      by_cases c_15 : t9 = 15
      · refine lv_tableIn (tgt := 806) hx hb dL_law_39 (by rw [c_15]; decide) (by rw [c_15]; decide) (by rw [c_15]; rfl) (by decide) ?_
        exact lc_keep C1 hZ (by omega) hv0 hv1 hv2 hv3 hv4 K H locs u v g hP hD hS hR ls hl
      by_cases c_16 : t9 = 16
      · refine lv_tableIn (tgt := 819) hx hb dL_law_39 (by rw [c_16]; decide) (by rw [c_16]; decide) (by rw [c_16]; rfl) (by decide) ?_
        exact lc_same C1 hZ (by omega) hv0 hv1 hv2 hv3 hv4 K H locs u v g hP hD hS hR ls hl
      refine lv_tableOut (tgt := 832) hx hb dL_law_39 (zt_out (lo := 0) (hi := 16) (fun j h1 h2 => by rcases (show j = 0 ∨ j = 1 ∨ j = 2 ∨ j = 3 ∨ j = 4 ∨ j = 5 ∨ j = 6 ∨ j = 7 ∨ j = 8 ∨ j = 9 ∨ j = 10 ∨ j = 11 ∨ j = 12 ∨ j = 13 ∨ j = 14 ∨ j = 15 ∨ j = 16 by omega) with rfl | rfl | rfl | rfl | rfl | rfl | rfl | rfl | rfl | rfl | rfl | rfl | rfl | rfl | rfl | rfl | rfl <;> first | exact lv_neT c_0 (by decide) | exact lv_neT c_1 (by decide) | exact lv_neT c_2 (by decide) | exact lv_neT c_3 (by decide) | exact lv_neT c_4 (by decide) | exact lv_neT c_5 (by decide) | exact lv_neT c_6 (by decide) | exact lv_neT c_7 (by decide) | exact lv_neT c_8 (by decide) | exact lv_neT c_9 (by decide) | exact lv_neT c_10 (by decide) | exact lv_neT c_11 (by decide) | exact lv_neT c_12 (by decide) | exact lv_neT c_13 (by decide) | exact lv_neT c_14 (by decide) | exact lv_neT c_15 (by decide) | exact lv_neT c_16 (by decide))) (by decide) ?_
      refine W.widen (k := 100 + i + 1) (n := 2400 + 6 * i + 6) (by omega) (by omega) ?_
      exact K H locs u v g hP hD hS hR ls hl
