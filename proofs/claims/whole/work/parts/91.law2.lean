set_option maxHeartbeats 4000000 in
set_option maxRecDepth 100000 in
theorem lc_add {p : Program} {l : Launch} {e : Env} {s : State} {m : MethodId} {below : List Frame} {meth : Method} {c : Code} {D : va_G} {c4 : Nat → ClassId} {b L i : Nat} {xs : Nat → Int32} {x4 : Int32} {Z : CZ} {z : Nat → Nat} {o : Nat} (C0 : LCtx p l s m meth c b L xs D c4) (hZ : cok Z) (hi : i ≤ 2560) (hv0 : vp_in x4 L) (hv1 : vp_in (x4 + (1 : Int32)) L) (hv2 : vp_in (x4 + (2 : Int32)) L) (hv3 : vp_in (x4 + (3 : Int32)) L) (hv4 : vp_in (x4 + (4 : Int32)) L) (K : lKont p l e s m below meth c D c4 b x4 Z z o i) : lCase p l e s m below meth c D c4 b x4 Z z o i 120 := by
  obtain ⟨⟨hx, hb, hr, hml, hown, hts, hX, hbl, hlocks, hgv⟩, hK, hE, hN, hl0⟩ := C0
  intro H locs u v g hP hD hS hR ls hl
  have hA : ∀ q : Nat, s.heap.size ≤ q → LA s q := fun _ h => h
  have hbA : ¬ LA s b := Nat.not_le.mpr hbl
  refine lv_aload_n hx hb dL_law_120 rfl (lv_at hl 1 rfl) ?_
  refine lv_aload_n hx hb dL_law_121 rfl (lv_at hl 0 rfl) ?_
  refine lv_iload hx hb dL_law_122 (lv_at hl 4 rfl) ?_
  refine lv_iconst (v := (1 : Int32)) hx hb dL_law_124 (by decide) ?_
  refine lv_iadd hx hb dL_law_125 ?_
  refine va_sld hx hb hX hbl hbA hS hv1 dL_law_126 ?_
  refine lv_aload_n hx hb dL_law_127 rfl (lv_at hl 0 rfl) ?_
  refine lv_iload hx hb dL_law_128 (lv_at hl 4 rfl) ?_
  refine lv_iconst (v := (2 : Int32)) hx hb dL_law_130 (by decide) ?_
  refine lv_iadd hx hb dL_law_131 ?_
  refine va_sld hx hb hX hbl hbA hS hv2 dL_law_132 ?_
  refine lv_i2l hx hb dL_law_133 rfl ?_
  refine lv_bipush (v := (32 : Int32)) hx hb dL_law_134 (by decide) ?_
  refine lv_lshl hx hb dL_law_136 rfl ?_
  refine lv_aload_n hx hb dL_law_137 rfl (lv_at hl 0 rfl) ?_
  refine lv_iload hx hb dL_law_138 (lv_at hl 4 rfl) ?_
  refine lv_iconst (v := (3 : Int32)) hx hb dL_law_140 (by decide) ?_
  refine lv_iadd hx hb dL_law_141 ?_
  refine va_sld hx hb hX hbl hbA hS hv3 dL_law_142 ?_
  refine lv_i2l hx hb dL_law_143 rfl ?_
  refine lv_ldc2 (v := (4294967295 : Int64)) hx hb hown (hts _ (wgl zw_902)) dL_law_144 ?_
  refine lv_land hx hb dL_law_147 ?_
  refine lv_lor hx hb dL_law_148 ?_
  obtain ⟨u2, v2, r2, hc1, hc2, hR2⟩ := S_add hZ hR (xs (x4 + (1 : Int32)).toNatClampNeg) ((((xs (x4 + (2 : Int32)).toNatClampNeg).toInt64) <<< ((32 : Int32).toInt64 &&& 63)) ||| (((xs (x4 + (3 : Int32)).toNatClampNeg).toInt64) &&& (4294967295 : Int64)))
  have hFc := zfreeR hD hS hA
  refine va_calli (va_runV (As := [.int (xs (x4 + (1 : Int32)).toNatClampNeg), .long ((((xs (x4 + (2 : Int32)).toNatClampNeg).toInt64) <<< ((32 : Int32).toInt64 &&& 63)) ||| (((xs (x4 + (3 : Int32)).toNatClampNeg).toInt64) &&& (4294967295 : Int64)))]) (rest := []) ⟨hx, hb, hml, hown, hts⟩ (ct_X5_add l D c4 (va_A (cW c4 Z u) H.size) Z hZ u (xs (x4 + (1 : Int32)).toNatClampNeg) ((((xs (x4 + (2 : Int32)).toNatClampNeg).toInt64) <<< ((32 : Int32).toInt64 &&& 63)) ||| (((xs (x4 + (3 : Int32)).toNatClampNeg).toInt64) &&& (4294967295 : Int64))) _ hc1) (cwV 2 hts (wzl_V zw_156 zw_157 zw_158 zw_1 zw_159) rfl rfl rfl (by decide +kernel) ⟨Nat.le_of_ble_eq_true rfl, Nat.le_of_ble_eq_true rfl⟩) ⟨fbC, va_recv hK (va_P_r hP) (ci := 4) (q0 := 0) rfl rfl, fun U9 hU hW => ⟨rfl, goC2 hP hD hK hA hE hS hU hW⟩⟩ rfl rfl hl.1 rfl (lv_room (Nat.le_of_ble_eq_true rfl)) dL_law_149 ⟨(show 100 + i + 0 ≤ 601024 by omega), (show 2400 + 6 * i + 0 ≤ 7293034 by omega)⟩) hS (fun q _ h => hFc q h) hFc (fun r9 u9 t H1 locs ht hvm e9 hB hz1 hk1 hS => ?_)
  cases e9
  obtain ⟨hP1, hD1, -, -⟩ := hB
  rw [ht] at hP1
  obtain ⟨hP, hD⟩ := zjoinR hP hD hk1 hFc hP1 hD1
  generalize H1 = H at hP hS ⊢
  have hP : va_P D vwCl ((mW c4 z v ++ wO c4 o g) ++ cW c4 Z u2) H := hP
  have hD : va_D (LA s) ((mW c4 z v ++ wO c4 o g) ++ cW c4 Z u2) := hD
  refine lv_aload_n hx hb dL_law_152 rfl (lv_at hl 2 rfl) ?_
  refine lv_aload_n hx hb dL_law_153 rfl (lv_at hl 0 rfl) ?_
  refine lv_iload hx hb dL_law_154 (lv_at hl 4 rfl) ?_
  refine lv_iconst (v := (1 : Int32)) hx hb dL_law_156 (by decide) ?_
  refine lv_iadd hx hb dL_law_157 ?_
  refine va_sld hx hb hX hbl hbA hS hv1 dL_law_158 ?_
  refine lv_aload_n hx hb dL_law_159 rfl (lv_at hl 0 rfl) ?_
  refine lv_iload hx hb dL_law_160 (lv_at hl 4 rfl) ?_
  refine lv_iconst (v := (2 : Int32)) hx hb dL_law_162 (by decide) ?_
  refine lv_iadd hx hb dL_law_163 ?_
  refine va_sld hx hb hX hbl hbA hS hv2 dL_law_164 ?_
  refine lv_i2l hx hb dL_law_165 rfl ?_
  refine lv_bipush (v := (32 : Int32)) hx hb dL_law_166 (by decide) ?_
  refine lv_lshl hx hb dL_law_168 rfl ?_
  refine lv_aload_n hx hb dL_law_169 rfl (lv_at hl 0 rfl) ?_
  refine lv_iload hx hb dL_law_170 (lv_at hl 4 rfl) ?_
  refine lv_iconst (v := (3 : Int32)) hx hb dL_law_172 (by decide) ?_
  refine lv_iadd hx hb dL_law_173 ?_
  refine va_sld hx hb hX hbl hbA hS hv3 dL_law_174 ?_
  refine lv_i2l hx hb dL_law_175 rfl ?_
  refine lv_ldc2 (v := (4294967295 : Int64)) hx hb hown (hts _ (wgl zw_902)) dL_law_176 ?_
  refine lv_land hx hb dL_law_179 ?_
  refine lv_lor hx hb dL_law_180 ?_
  have hP2 : va_P D vwCl (mW c4 z v ++ (wO c4 o g ++ cW c4 Z u2)) H := hP
  have hD2 : va_D (LA s) (mW c4 z v ++ (wO c4 o g ++ cW c4 Z u2)) := hD
  have hFc := zfreeL hD2 hS hA
  refine va_calli (va_runV (As := [.int (xs (x4 + (1 : Int32)).toNatClampNeg), .long ((((xs (x4 + (2 : Int32)).toNatClampNeg).toInt64) <<< ((32 : Int32).toInt64 &&& 63)) ||| (((xs (x4 + (3 : Int32)).toNatClampNeg).toInt64) &&& (4294967295 : Int64)))]) (rest := [.int r2]) ⟨hx, hb, hml, hown, hts⟩ (ct_X6_add l D c4 (va_A (mW c4 z v) H.size) z v (xs (x4 + (1 : Int32)).toNatClampNeg) ((((xs (x4 + (2 : Int32)).toNatClampNeg).toInt64) <<< ((32 : Int32).toInt64 &&& 63)) ||| (((xs (x4 + (3 : Int32)).toNatClampNeg).toInt64) &&& (4294967295 : Int64))) _ hc2) (cwV 2 hts (wzl_V zw_742 zw_743 zw_744 zw_6 zw_745) rfl rfl rfl (by decide +kernel) ⟨Nat.le_of_ble_eq_true rfl, Nat.le_of_ble_eq_true rfl⟩) ⟨fbM, va_recv hK (va_P_l hP2) (ci := 5) (q0 := 0) rfl rfl, fun U9 hU hW => ⟨rfl, goM2 hP2 hD2 hK hU hW⟩⟩ rfl rfl hl.1 rfl (lv_room (Nat.le_of_ble_eq_true rfl)) dL_law_181 ⟨(show 100 + i + 0 ≤ 601024 by omega), (show 2400 + 6 * i + 0 ≤ 7293034 by omega)⟩) hS (fun q _ h => hFc q h) hFc (fun b9 v9 t H1 locs ht hvm e9 hB hz1 hk1 hS => ?_)
  cases e9
  obtain ⟨hP1, hD1, -, -⟩ := hB
  rw [ht] at hP1
  obtain ⟨hP, hD⟩ := zjoinL hP2 hD2 hk1 hFc hP1 hD1
  generalize H1 = H at hP hS ⊢
  have hP : va_P D vwCl ((mW c4 z v2 ++ wO c4 o g) ++ cW c4 Z u2) H := hP
  have hD : va_D (LA s) ((mW c4 z v2 ++ wO c4 o g) ++ cW c4 Z u2) := hD
  refine lv_icmp_eq (tgt := 832) hx hb dL_law_184 (by decide) (fun c9 => ?_) (fun c9 => absurd rfl c9)
  refine W.widen (k := 100 + i + 1) (n := 2400 + 6 * i + 6) (by omega) (by omega) ?_
  exact K _ _ u2 v2 g hP hD hS hR2 ls (lv_sub hl [0, 1, 2, 3, 4] rfl)
set_option maxHeartbeats 4000000 in
set_option maxRecDepth 100000 in
theorem lc_change {p : Program} {l : Launch} {e : Env} {s : State} {m : MethodId} {below : List Frame} {meth : Method} {c : Code} {D : va_G} {c4 : Nat → ClassId} {b L i : Nat} {xs : Nat → Int32} {x4 : Int32} {Z : CZ} {z : Nat → Nat} {o : Nat} (C0 : LCtx p l s m meth c b L xs D c4) (hZ : cok Z) (hi : i ≤ 2560) (hv0 : vp_in x4 L) (hv1 : vp_in (x4 + (1 : Int32)) L) (hv2 : vp_in (x4 + (2 : Int32)) L) (hv3 : vp_in (x4 + (3 : Int32)) L) (hv4 : vp_in (x4 + (4 : Int32)) L) (K : lKont p l e s m below meth c D c4 b x4 Z z o i) : lCase p l e s m below meth c D c4 b x4 Z z o i 189 := by
  obtain ⟨⟨hx, hb, hr, hml, hown, hts, hX, hbl, hlocks, hgv⟩, hK, hE, hN, hl0⟩ := C0
  intro H locs u v g hP hD hS hR ls hl
  have hA : ∀ q : Nat, s.heap.size ≤ q → LA s q := fun _ h => h
  have hbA : ¬ LA s b := Nat.not_le.mpr hbl
  refine lv_aload_n hx hb dL_law_189 rfl (lv_at hl 1 rfl) ?_
  refine lv_aload_n hx hb dL_law_190 rfl (lv_at hl 0 rfl) ?_
  refine lv_iload hx hb dL_law_191 (lv_at hl 4 rfl) ?_
  refine lv_iconst (v := (1 : Int32)) hx hb dL_law_193 (by decide) ?_
  refine lv_iadd hx hb dL_law_194 ?_
  refine va_sld hx hb hX hbl hbA hS hv1 dL_law_195 ?_
  refine lv_aload_n hx hb dL_law_196 rfl (lv_at hl 0 rfl) ?_
  refine lv_iload hx hb dL_law_197 (lv_at hl 4 rfl) ?_
  refine lv_iconst (v := (2 : Int32)) hx hb dL_law_199 (by decide) ?_
  refine lv_iadd hx hb dL_law_200 ?_
  refine va_sld hx hb hX hbl hbA hS hv2 dL_law_201 ?_
  refine lv_aload_n hx hb dL_law_202 rfl (lv_at hl 0 rfl) ?_
  refine lv_iload hx hb dL_law_203 (lv_at hl 4 rfl) ?_
  refine lv_iconst (v := (3 : Int32)) hx hb dL_law_205 (by decide) ?_
  refine lv_iadd hx hb dL_law_206 ?_
  refine va_sld hx hb hX hbl hbA hS hv3 dL_law_207 ?_
  refine lv_i2l hx hb dL_law_208 rfl ?_
  refine lv_bipush (v := (32 : Int32)) hx hb dL_law_209 (by decide) ?_
  refine lv_lshl hx hb dL_law_211 rfl ?_
  refine lv_aload_n hx hb dL_law_212 rfl (lv_at hl 0 rfl) ?_
  refine lv_iload hx hb dL_law_213 (lv_at hl 4 rfl) ?_
  refine lv_iconst (v := (4 : Int32)) hx hb dL_law_215 (by decide) ?_
  refine lv_iadd hx hb dL_law_216 ?_
  refine va_sld hx hb hX hbl hbA hS hv4 dL_law_217 ?_
  refine lv_i2l hx hb dL_law_218 rfl ?_
  refine lv_ldc2 (v := (4294967295 : Int64)) hx hb hown (hts _ (wgl zw_902)) dL_law_219 ?_
  refine lv_land hx hb dL_law_222 ?_
  refine lv_lor hx hb dL_law_223 ?_
  obtain ⟨u2, v2, r2, hc1, hc2, hR2⟩ := S_change hZ hR (xs (x4 + (1 : Int32)).toNatClampNeg) (xs (x4 + (2 : Int32)).toNatClampNeg) ((((xs (x4 + (3 : Int32)).toNatClampNeg).toInt64) <<< ((32 : Int32).toInt64 &&& 63)) ||| (((xs (x4 + (4 : Int32)).toNatClampNeg).toInt64) &&& (4294967295 : Int64)))
  have hFc := zfreeR hD hS hA
  refine va_calli (va_runV (As := [.int (xs (x4 + (1 : Int32)).toNatClampNeg), .int (xs (x4 + (2 : Int32)).toNatClampNeg), .long ((((xs (x4 + (3 : Int32)).toNatClampNeg).toInt64) <<< ((32 : Int32).toInt64 &&& 63)) ||| (((xs (x4 + (4 : Int32)).toNatClampNeg).toInt64) &&& (4294967295 : Int64)))]) (rest := []) ⟨hx, hb, hml, hown, hts⟩ (ct_X5_change l D c4 (va_A (cW c4 Z u) H.size) Z hZ u (xs (x4 + (1 : Int32)).toNatClampNeg) (xs (x4 + (2 : Int32)).toNatClampNeg) ((((xs (x4 + (3 : Int32)).toNatClampNeg).toInt64) <<< ((32 : Int32).toInt64 &&& 63)) ||| (((xs (x4 + (4 : Int32)).toNatClampNeg).toInt64) &&& (4294967295 : Int64))) _ hc1) (cwV 3 hts (wzl_V zw_176 zw_177 zw_178 zw_1 zw_179) rfl rfl rfl (by decide +kernel) ⟨Nat.le_of_ble_eq_true rfl, Nat.le_of_ble_eq_true rfl⟩) ⟨fbC, va_recv hK (va_P_r hP) (ci := 4) (q0 := 0) rfl rfl, fun U9 hU hW => ⟨rfl, goC2 hP hD hK hA hE hS hU hW⟩⟩ rfl rfl hl.1 rfl (lv_room (Nat.le_of_ble_eq_true rfl)) dL_law_224 ⟨(show 100 + i + 0 ≤ 601024 by omega), (show 2400 + 6 * i + 0 ≤ 7293034 by omega)⟩) hS (fun q _ h => hFc q h) hFc (fun r9 u9 t H1 locs ht hvm e9 hB hz1 hk1 hS => ?_)
  cases e9
  obtain ⟨hP1, hD1, -, -⟩ := hB
  rw [ht] at hP1
  obtain ⟨hP, hD⟩ := zjoinR hP hD hk1 hFc hP1 hD1
  generalize H1 = H at hP hS ⊢
  have hP : va_P D vwCl ((mW c4 z v ++ wO c4 o g) ++ cW c4 Z u2) H := hP
  have hD : va_D (LA s) ((mW c4 z v ++ wO c4 o g) ++ cW c4 Z u2) := hD
  refine lv_aload_n hx hb dL_law_227 rfl (lv_at hl 2 rfl) ?_
  refine lv_aload_n hx hb dL_law_228 rfl (lv_at hl 0 rfl) ?_
  refine lv_iload hx hb dL_law_229 (lv_at hl 4 rfl) ?_
  refine lv_iconst (v := (1 : Int32)) hx hb dL_law_231 (by decide) ?_
  refine lv_iadd hx hb dL_law_232 ?_
  refine va_sld hx hb hX hbl hbA hS hv1 dL_law_233 ?_
  refine lv_aload_n hx hb dL_law_234 rfl (lv_at hl 0 rfl) ?_
  refine lv_iload hx hb dL_law_235 (lv_at hl 4 rfl) ?_
  refine lv_iconst (v := (2 : Int32)) hx hb dL_law_237 (by decide) ?_
  refine lv_iadd hx hb dL_law_238 ?_
  refine va_sld hx hb hX hbl hbA hS hv2 dL_law_239 ?_
  refine lv_aload_n hx hb dL_law_240 rfl (lv_at hl 0 rfl) ?_
  refine lv_iload hx hb dL_law_241 (lv_at hl 4 rfl) ?_
  refine lv_iconst (v := (3 : Int32)) hx hb dL_law_243 (by decide) ?_
  refine lv_iadd hx hb dL_law_244 ?_
  refine va_sld hx hb hX hbl hbA hS hv3 dL_law_245 ?_
  refine lv_i2l hx hb dL_law_246 rfl ?_
  refine lv_bipush (v := (32 : Int32)) hx hb dL_law_247 (by decide) ?_
  refine lv_lshl hx hb dL_law_249 rfl ?_
  refine lv_aload_n hx hb dL_law_250 rfl (lv_at hl 0 rfl) ?_
  refine lv_iload hx hb dL_law_251 (lv_at hl 4 rfl) ?_
  refine lv_iconst (v := (4 : Int32)) hx hb dL_law_253 (by decide) ?_
  refine lv_iadd hx hb dL_law_254 ?_
  refine va_sld hx hb hX hbl hbA hS hv4 dL_law_255 ?_
  refine lv_i2l hx hb dL_law_256 rfl ?_
  refine lv_ldc2 (v := (4294967295 : Int64)) hx hb hown (hts _ (wgl zw_902)) dL_law_257 ?_
  refine lv_land hx hb dL_law_260 ?_
  refine lv_lor hx hb dL_law_261 ?_
  have hP2 : va_P D vwCl (mW c4 z v ++ (wO c4 o g ++ cW c4 Z u2)) H := hP
  have hD2 : va_D (LA s) (mW c4 z v ++ (wO c4 o g ++ cW c4 Z u2)) := hD
  have hFc := zfreeL hD2 hS hA
  refine va_calli (va_runV (As := [.int (xs (x4 + (1 : Int32)).toNatClampNeg), .int (xs (x4 + (2 : Int32)).toNatClampNeg), .long ((((xs (x4 + (3 : Int32)).toNatClampNeg).toInt64) <<< ((32 : Int32).toInt64 &&& 63)) ||| (((xs (x4 + (4 : Int32)).toNatClampNeg).toInt64) &&& (4294967295 : Int64)))]) (rest := [.int r2]) ⟨hx, hb, hml, hown, hts⟩ (ct_X6_change l D c4 (va_A (mW c4 z v) H.size) z v (xs (x4 + (1 : Int32)).toNatClampNeg) (xs (x4 + (2 : Int32)).toNatClampNeg) ((((xs (x4 + (3 : Int32)).toNatClampNeg).toInt64) <<< ((32 : Int32).toInt64 &&& 63)) ||| (((xs (x4 + (4 : Int32)).toNatClampNeg).toInt64) &&& (4294967295 : Int64))) _ hc2) (cwV 3 hts (wzl_V zw_746 zw_747 zw_748 zw_6 zw_749) rfl rfl rfl (by decide +kernel) ⟨Nat.le_of_ble_eq_true rfl, Nat.le_of_ble_eq_true rfl⟩) ⟨fbM, va_recv hK (va_P_l hP2) (ci := 5) (q0 := 0) rfl rfl, fun U9 hU hW => ⟨rfl, goM2 hP2 hD2 hK hU hW⟩⟩ rfl rfl hl.1 rfl (lv_room (Nat.le_of_ble_eq_true rfl)) dL_law_262 ⟨(show 100 + i + 0 ≤ 601024 by omega), (show 2400 + 6 * i + 0 ≤ 7293034 by omega)⟩) hS (fun q _ h => hFc q h) hFc (fun b9 v9 t H1 locs ht hvm e9 hB hz1 hk1 hS => ?_)
  cases e9
  obtain ⟨hP1, hD1, -, -⟩ := hB
  rw [ht] at hP1
  obtain ⟨hP, hD⟩ := zjoinL hP2 hD2 hk1 hFc hP1 hD1
  generalize H1 = H at hP hS ⊢
  have hP : va_P D vwCl ((mW c4 z v2 ++ wO c4 o g) ++ cW c4 Z u2) H := hP
  have hD : va_D (LA s) ((mW c4 z v2 ++ wO c4 o g) ++ cW c4 Z u2) := hD
  refine lv_icmp_eq (tgt := 832) hx hb dL_law_265 (by decide) (fun c9 => ?_) (fun c9 => absurd rfl c9)
  refine W.widen (k := 100 + i + 1) (n := 2400 + 6 * i + 6) (by omega) (by omega) ?_
  exact K _ _ u2 v2 g hP hD hS hR2 ls (lv_sub hl [0, 1, 2, 3, 4] rfl)
set_option maxHeartbeats 4000000 in
set_option maxRecDepth 100000 in
theorem lc_cut {p : Program} {l : Launch} {e : Env} {s : State} {m : MethodId} {below : List Frame} {meth : Method} {c : Code} {D : va_G} {c4 : Nat → ClassId} {b L i : Nat} {xs : Nat → Int32} {x4 : Int32} {Z : CZ} {z : Nat → Nat} {o : Nat} (C0 : LCtx p l s m meth c b L xs D c4) (hZ : cok Z) (hi : i ≤ 2560) (hv0 : vp_in x4 L) (hv1 : vp_in (x4 + (1 : Int32)) L) (hv2 : vp_in (x4 + (2 : Int32)) L) (hv3 : vp_in (x4 + (3 : Int32)) L) (hv4 : vp_in (x4 + (4 : Int32)) L) (K : lKont p l e s m below meth c D c4 b x4 Z z o i) : lCase p l e s m below meth c D c4 b x4 Z z o i 270 := by
  obtain ⟨⟨hx, hb, hr, hml, hown, hts, hX, hbl, hlocks, hgv⟩, hK, hE, hN, hl0⟩ := C0
  intro H locs u v g hP hD hS hR ls hl
  have hA : ∀ q : Nat, s.heap.size ≤ q → LA s q := fun _ h => h
  have hbA : ¬ LA s b := Nat.not_le.mpr hbl
  refine lv_aload_n hx hb dL_law_270 rfl (lv_at hl 1 rfl) ?_
  refine lv_aload_n hx hb dL_law_271 rfl (lv_at hl 0 rfl) ?_
  refine lv_iload hx hb dL_law_272 (lv_at hl 4 rfl) ?_
  refine lv_iconst (v := (1 : Int32)) hx hb dL_law_274 (by decide) ?_
  refine lv_iadd hx hb dL_law_275 ?_
  refine va_sld hx hb hX hbl hbA hS hv1 dL_law_276 ?_
  refine lv_aload_n hx hb dL_law_277 rfl (lv_at hl 0 rfl) ?_
  refine lv_iload hx hb dL_law_278 (lv_at hl 4 rfl) ?_
  refine lv_iconst (v := (2 : Int32)) hx hb dL_law_280 (by decide) ?_
  refine lv_iadd hx hb dL_law_281 ?_
  refine va_sld hx hb hX hbl hbA hS hv2 dL_law_282 ?_
  obtain ⟨u2, v2, r2, hc1, hc2, hR2⟩ := S_cut hZ hR (xs (x4 + (1 : Int32)).toNatClampNeg) (xs (x4 + (2 : Int32)).toNatClampNeg)
  have hFc := zfreeR hD hS hA
  refine va_calli (va_runV (As := [.int (xs (x4 + (1 : Int32)).toNatClampNeg), .int (xs (x4 + (2 : Int32)).toNatClampNeg)]) (rest := []) ⟨hx, hb, hml, hown, hts⟩ (ct_X5_cut l D c4 (va_A (cW c4 Z u) H.size) Z hZ u (xs (x4 + (1 : Int32)).toNatClampNeg) (xs (x4 + (2 : Int32)).toNatClampNeg) _ hc1) (cwV 2 hts (wzl_V zw_188 zw_189 zw_190 zw_1 zw_191) rfl rfl rfl (by decide +kernel) ⟨Nat.le_of_ble_eq_true rfl, Nat.le_of_ble_eq_true rfl⟩) ⟨fbC, va_recv hK (va_P_r hP) (ci := 4) (q0 := 0) rfl rfl, fun U9 hU hW => ⟨rfl, goC2 hP hD hK hA hE hS hU hW⟩⟩ rfl rfl hl.1 rfl (lv_room (Nat.le_of_ble_eq_true rfl)) dL_law_283 ⟨(show 100 + i + 0 ≤ 601024 by omega), (show 2400 + 6 * i + 0 ≤ 7293034 by omega)⟩) hS (fun q _ h => hFc q h) hFc (fun r9 u9 t H1 locs ht hvm e9 hB hz1 hk1 hS => ?_)
  cases e9
  obtain ⟨hP1, hD1, -, -⟩ := hB
  rw [ht] at hP1
  obtain ⟨hP, hD⟩ := zjoinR hP hD hk1 hFc hP1 hD1
  generalize H1 = H at hP hS ⊢
  have hP : va_P D vwCl ((mW c4 z v ++ wO c4 o g) ++ cW c4 Z u2) H := hP
  have hD : va_D (LA s) ((mW c4 z v ++ wO c4 o g) ++ cW c4 Z u2) := hD
  refine lv_aload_n hx hb dL_law_286 rfl (lv_at hl 2 rfl) ?_
  refine lv_aload_n hx hb dL_law_287 rfl (lv_at hl 0 rfl) ?_
  refine lv_iload hx hb dL_law_288 (lv_at hl 4 rfl) ?_
  refine lv_iconst (v := (1 : Int32)) hx hb dL_law_290 (by decide) ?_
  refine lv_iadd hx hb dL_law_291 ?_
  refine va_sld hx hb hX hbl hbA hS hv1 dL_law_292 ?_
  refine lv_aload_n hx hb dL_law_293 rfl (lv_at hl 0 rfl) ?_
  refine lv_iload hx hb dL_law_294 (lv_at hl 4 rfl) ?_
  refine lv_iconst (v := (2 : Int32)) hx hb dL_law_296 (by decide) ?_
  refine lv_iadd hx hb dL_law_297 ?_
  refine va_sld hx hb hX hbl hbA hS hv2 dL_law_298 ?_
  have hP2 : va_P D vwCl (mW c4 z v ++ (wO c4 o g ++ cW c4 Z u2)) H := hP
  have hD2 : va_D (LA s) (mW c4 z v ++ (wO c4 o g ++ cW c4 Z u2)) := hD
  have hFc := zfreeL hD2 hS hA
  refine va_calli (va_runV (As := [.int (xs (x4 + (1 : Int32)).toNatClampNeg), .int (xs (x4 + (2 : Int32)).toNatClampNeg)]) (rest := [.int r2]) ⟨hx, hb, hml, hown, hts⟩ (ct_X6_cut l D c4 (va_A (mW c4 z v) H.size) z v (xs (x4 + (1 : Int32)).toNatClampNeg) (xs (x4 + (2 : Int32)).toNatClampNeg) _ hc2) (cwV 2 hts (wzl_V zw_754 zw_755 zw_756 zw_6 zw_757) rfl rfl rfl (by decide +kernel) ⟨Nat.le_of_ble_eq_true rfl, Nat.le_of_ble_eq_true rfl⟩) ⟨fbM, va_recv hK (va_P_l hP2) (ci := 5) (q0 := 0) rfl rfl, fun U9 hU hW => ⟨rfl, goM2 hP2 hD2 hK hU hW⟩⟩ rfl rfl hl.1 rfl (lv_room (Nat.le_of_ble_eq_true rfl)) dL_law_299 ⟨(show 100 + i + 0 ≤ 601024 by omega), (show 2400 + 6 * i + 0 ≤ 7293034 by omega)⟩) hS (fun q _ h => hFc q h) hFc (fun b9 v9 t H1 locs ht hvm e9 hB hz1 hk1 hS => ?_)
  cases e9
  obtain ⟨hP1, hD1, -, -⟩ := hB
  rw [ht] at hP1
  obtain ⟨hP, hD⟩ := zjoinL hP2 hD2 hk1 hFc hP1 hD1
  generalize H1 = H at hP hS ⊢
  have hP : va_P D vwCl ((mW c4 z v2 ++ wO c4 o g) ++ cW c4 Z u2) H := hP
  have hD : va_D (LA s) ((mW c4 z v2 ++ wO c4 o g) ++ cW c4 Z u2) := hD
  refine lv_icmp_eq (tgt := 832) hx hb dL_law_302 (by decide) (fun c9 => ?_) (fun c9 => absurd rfl c9)
  refine W.widen (k := 100 + i + 1) (n := 2400 + 6 * i + 6) (by omega) (by omega) ?_
  exact K _ _ u2 v2 g hP hD hS hR2 ls (lv_sub hl [0, 1, 2, 3, 4] rfl)
set_option maxHeartbeats 4000000 in
set_option maxRecDepth 100000 in
theorem lc_words {p : Program} {l : Launch} {e : Env} {s : State} {m : MethodId} {below : List Frame} {meth : Method} {c : Code} {D : va_G} {c4 : Nat → ClassId} {b L i : Nat} {xs : Nat → Int32} {x4 : Int32} {Z : CZ} {z : Nat → Nat} {o : Nat} (C0 : LCtx p l s m meth c b L xs D c4) (hZ : cok Z) (hi : i ≤ 2560) (hv0 : vp_in x4 L) (hv1 : vp_in (x4 + (1 : Int32)) L) (hv2 : vp_in (x4 + (2 : Int32)) L) (hv3 : vp_in (x4 + (3 : Int32)) L) (hv4 : vp_in (x4 + (4 : Int32)) L) (K : lKont p l e s m below meth c D c4 b x4 Z z o i) : lCase p l e s m below meth c D c4 b x4 Z z o i 307 := by
  obtain ⟨⟨hx, hb, hr, hml, hown, hts, hX, hbl, hlocks, hgv⟩, hK, hE, hN, hl0⟩ := C0
  intro H locs u v g hP hD hS hR ls hl
  have hA : ∀ q : Nat, s.heap.size ≤ q → LA s q := fun _ h => h
  have hbA : ¬ LA s b := Nat.not_le.mpr hbl
  refine lv_aload_n hx hb dL_law_307 rfl (lv_at hl 1 rfl) ?_
  refine lv_aload_n hx hb dL_law_308 rfl (lv_at hl 0 rfl) ?_
  refine lv_iload hx hb dL_law_309 (lv_at hl 4 rfl) ?_
  refine lv_iconst (v := (1 : Int32)) hx hb dL_law_311 (by decide) ?_
  refine lv_iadd hx hb dL_law_312 ?_
  refine va_sld hx hb hX hbl hbA hS hv1 dL_law_313 ?_
  obtain ⟨v2, r2, hc1, hc2, hR2⟩ := S_words hZ hR (xs (x4 + (1 : Int32)).toNatClampNeg)
  refine vp_callSi (W.runV (As := [.int (xs (x4 + (1 : Int32)).toNatClampNeg)]) (rest := []) ⟨hx, hb, hml, hown, hts⟩ (ct_X5_words l D c4 (va_A (cW c4 Z u) H.size) Z hZ u (xs (x4 + (1 : Int32)).toNatClampNeg) _ hc1) (cwV 1 hts (wzl_V zw_192 zw_193 zw_194 zw_1 zw_195) rfl rfl rfl (by decide +kernel) ⟨Nat.le_of_ble_eq_true rfl, Nat.le_of_ble_eq_true rfl⟩) ⟨fbC, va_recv hK (va_P_r hP) (ci := 4) (q0 := 0) rfl rfl, fun U9 hU hW => ⟨rfl, goC2 hP hD hK hA hE hS hU hW⟩⟩ rfl rfl hl.1 rfl (lv_room (Nat.le_of_ble_eq_true rfl)) dL_law_314 ⟨(show 100 + i + 0 ≤ 601024 by omega), (show 2400 + 6 * i + 0 ≤ 7293034 by omega)⟩) (fun r9 e9 => ?_)
  subst e9
  refine lv_aload_n hx hb dL_law_317 rfl (lv_at hl 2 rfl) ?_
  refine lv_aload_n hx hb dL_law_318 rfl (lv_at hl 0 rfl) ?_
  refine lv_iload hx hb dL_law_319 (lv_at hl 4 rfl) ?_
  refine lv_iconst (v := (1 : Int32)) hx hb dL_law_321 (by decide) ?_
  refine lv_iadd hx hb dL_law_322 ?_
  refine va_sld hx hb hX hbl hbA hS hv1 dL_law_323 ?_
  have hP2 : va_P D vwCl (mW c4 z v ++ (wO c4 o g ++ cW c4 Z u)) H := hP
  have hD2 : va_D (LA s) (mW c4 z v ++ (wO c4 o g ++ cW c4 Z u)) := hD
  have hFc := zfreeL hD2 hS hA
  refine va_calli (va_runV (As := [.int (xs (x4 + (1 : Int32)).toNatClampNeg)]) (rest := [.int r9]) ⟨hx, hb, hml, hown, hts⟩ (ct_X6_words l D c4 (va_A (mW c4 z v) H.size) z v (xs (x4 + (1 : Int32)).toNatClampNeg) _ hc2) (cwV 1 hts (wzl_V zw_758 zw_759 zw_760 zw_6 zw_761) rfl rfl rfl (by decide +kernel) ⟨Nat.le_of_ble_eq_true rfl, Nat.le_of_ble_eq_true rfl⟩) ⟨fbM, va_recv hK (va_P_l hP2) (ci := 5) (q0 := 0) rfl rfl, fun U9 hU hW => ⟨rfl, goM2 hP2 hD2 hK hU hW⟩⟩ rfl rfl hl.1 rfl (lv_room (Nat.le_of_ble_eq_true rfl)) dL_law_324 ⟨(show 100 + i + 0 ≤ 601024 by omega), (show 2400 + 6 * i + 0 ≤ 7293034 by omega)⟩) hS (fun q _ h => hFc q h) hFc (fun b9 v9 t H1 locs ht hvm e9 hB hz1 hk1 hS => ?_)
  cases e9
  obtain ⟨hP1, hD1, -, -⟩ := hB
  rw [ht] at hP1
  obtain ⟨hP, hD⟩ := zjoinL hP2 hD2 hk1 hFc hP1 hD1
  generalize H1 = H at hP hS ⊢
  have hP : va_P D vwCl ((mW c4 z v2 ++ wO c4 o g) ++ cW c4 Z u) H := hP
  have hD : va_D (LA s) ((mW c4 z v2 ++ wO c4 o g) ++ cW c4 Z u) := hD
  refine lv_icmp_eq (tgt := 832) hx hb dL_law_327 (by decide) (fun c9 => ?_) (fun c9 => absurd rfl c9)
  refine W.widen (k := 100 + i + 1) (n := 2400 + 6 * i + 6) (by omega) (by omega) ?_
  exact K _ _ u v2 g hP hD hS hR2 ls (lv_sub hl [0, 1, 2, 3, 4] rfl)
set_option maxHeartbeats 4000000 in
set_option maxRecDepth 100000 in
theorem lc_word {p : Program} {l : Launch} {e : Env} {s : State} {m : MethodId} {below : List Frame} {meth : Method} {c : Code} {D : va_G} {c4 : Nat → ClassId} {b L i : Nat} {xs : Nat → Int32} {x4 : Int32} {Z : CZ} {z : Nat → Nat} {o : Nat} (C0 : LCtx p l s m meth c b L xs D c4) (hZ : cok Z) (hi : i ≤ 2560) (hv0 : vp_in x4 L) (hv1 : vp_in (x4 + (1 : Int32)) L) (hv2 : vp_in (x4 + (2 : Int32)) L) (hv3 : vp_in (x4 + (3 : Int32)) L) (hv4 : vp_in (x4 + (4 : Int32)) L) (K : lKont p l e s m below meth c D c4 b x4 Z z o i) : lCase p l e s m below meth c D c4 b x4 Z z o i 332 := by
  obtain ⟨⟨hx, hb, hr, hml, hown, hts, hX, hbl, hlocks, hgv⟩, hK, hE, hN, hl0⟩ := C0
  intro H locs u v g hP hD hS hR ls hl
  have hA : ∀ q : Nat, s.heap.size ≤ q → LA s q := fun _ h => h
  have hbA : ¬ LA s b := Nat.not_le.mpr hbl
  refine lv_aload_n hx hb dL_law_332 rfl (lv_at hl 1 rfl) ?_
  refine lv_aload_n hx hb dL_law_333 rfl (lv_at hl 0 rfl) ?_
  refine lv_iload hx hb dL_law_334 (lv_at hl 4 rfl) ?_
  refine lv_iconst (v := (1 : Int32)) hx hb dL_law_336 (by decide) ?_
  refine lv_iadd hx hb dL_law_337 ?_
  refine va_sld hx hb hX hbl hbA hS hv1 dL_law_338 ?_
  refine lv_aload_n hx hb dL_law_339 rfl (lv_at hl 0 rfl) ?_
  refine lv_iload hx hb dL_law_340 (lv_at hl 4 rfl) ?_
  refine lv_iconst (v := (2 : Int32)) hx hb dL_law_342 (by decide) ?_
  refine lv_iadd hx hb dL_law_343 ?_
  refine va_sld hx hb hX hbl hbA hS hv2 dL_law_344 ?_
  obtain ⟨v2, r2, hc1, hc2, hR2⟩ := S_word hZ hR (xs (x4 + (1 : Int32)).toNatClampNeg) (xs (x4 + (2 : Int32)).toNatClampNeg)
  refine vp_callSl (W.runV (As := [.int (xs (x4 + (1 : Int32)).toNatClampNeg), .int (xs (x4 + (2 : Int32)).toNatClampNeg)]) (rest := []) ⟨hx, hb, hml, hown, hts⟩ (ct_X5_word l D c4 (va_A (cW c4 Z u) H.size) Z hZ u (xs (x4 + (1 : Int32)).toNatClampNeg) (xs (x4 + (2 : Int32)).toNatClampNeg) _ hc1) (cwV 2 hts (wzl_V zw_196 zw_197 zw_198 zw_1 zw_199) rfl rfl rfl (by decide +kernel) ⟨Nat.le_of_ble_eq_true rfl, Nat.le_of_ble_eq_true rfl⟩) ⟨fbC, va_recv hK (va_P_r hP) (ci := 4) (q0 := 0) rfl rfl, fun U9 hU hW => ⟨rfl, goC2 hP hD hK hA hE hS hU hW⟩⟩ rfl rfl hl.1 rfl (lv_room (Nat.le_of_ble_eq_true rfl)) dL_law_345 ⟨(show 100 + i + 0 ≤ 601024 by omega), (show 2400 + 6 * i + 0 ≤ 7293034 by omega)⟩) (fun r9 e9 => ?_)
  subst e9
  refine lv_aload_n hx hb dL_law_348 rfl (lv_at hl 2 rfl) ?_
  refine lv_aload_n hx hb dL_law_349 rfl (lv_at hl 0 rfl) ?_
  refine lv_iload hx hb dL_law_350 (lv_at hl 4 rfl) ?_
  refine lv_iconst (v := (1 : Int32)) hx hb dL_law_352 (by decide) ?_
  refine lv_iadd hx hb dL_law_353 ?_
  refine va_sld hx hb hX hbl hbA hS hv1 dL_law_354 ?_
  refine lv_aload_n hx hb dL_law_355 rfl (lv_at hl 0 rfl) ?_
  refine lv_iload hx hb dL_law_356 (lv_at hl 4 rfl) ?_
  refine lv_iconst (v := (2 : Int32)) hx hb dL_law_358 (by decide) ?_
  refine lv_iadd hx hb dL_law_359 ?_
  refine va_sld hx hb hX hbl hbA hS hv2 dL_law_360 ?_
  have hP2 : va_P D vwCl (mW c4 z v ++ (wO c4 o g ++ cW c4 Z u)) H := hP
  have hD2 : va_D (LA s) (mW c4 z v ++ (wO c4 o g ++ cW c4 Z u)) := hD
  have hFc := zfreeL hD2 hS hA
  refine va_calll (va_runV (As := [.int (xs (x4 + (1 : Int32)).toNatClampNeg), .int (xs (x4 + (2 : Int32)).toNatClampNeg)]) (rest := [.long r9]) ⟨hx, hb, hml, hown, hts⟩ (ct_X6_word l D c4 (va_A (mW c4 z v) H.size) z v (xs (x4 + (1 : Int32)).toNatClampNeg) (xs (x4 + (2 : Int32)).toNatClampNeg) _ hc2) (cwV 2 hts (wzl_V zw_762 zw_763 zw_764 zw_6 zw_765) rfl rfl rfl (by decide +kernel) ⟨Nat.le_of_ble_eq_true rfl, Nat.le_of_ble_eq_true rfl⟩) ⟨fbM, va_recv hK (va_P_l hP2) (ci := 5) (q0 := 0) rfl rfl, fun U9 hU hW => ⟨rfl, goM2 hP2 hD2 hK hU hW⟩⟩ rfl rfl hl.1 rfl (lv_room (Nat.le_of_ble_eq_true rfl)) dL_law_361 ⟨(show 100 + i + 0 ≤ 601024 by omega), (show 2400 + 6 * i + 0 ≤ 7293034 by omega)⟩) hS (fun q _ h => hFc q h) hFc (fun b9 v9 t H1 locs ht hvm e9 hB hz1 hk1 hS => ?_)
  cases e9
  obtain ⟨hP1, hD1, -, -⟩ := hB
  rw [ht] at hP1
  obtain ⟨hP, hD⟩ := zjoinL hP2 hD2 hk1 hFc hP1 hD1
  generalize H1 = H at hP hS ⊢
  have hP : va_P D vwCl ((mW c4 z v2 ++ wO c4 o g) ++ cW c4 Z u) H := hP
  have hD : va_D (LA s) ((mW c4 z v2 ++ wO c4 o g) ++ cW c4 Z u) := hD
  refine W.lcmp hx hb dL_law_364 ?_
  refine lv_if_eq (tgt := 832) hx hb dL_law_365 (by decide) (fun c8 => ?_) (fun c8 => absurd ((lg_cmp_eq _ _).mpr rfl) c8)
  refine W.widen (k := 100 + i + 1) (n := 2400 + 6 * i + 6) (by omega) (by omega) ?_
  exact K _ _ u v2 g hP hD hS hR2 ls (lv_sub hl [0, 1, 2, 3, 4] rfl)
set_option maxHeartbeats 4000000 in
set_option maxRecDepth 100000 in
theorem lc_budget {p : Program} {l : Launch} {e : Env} {s : State} {m : MethodId} {below : List Frame} {meth : Method} {c : Code} {D : va_G} {c4 : Nat → ClassId} {b L i : Nat} {xs : Nat → Int32} {x4 : Int32} {Z : CZ} {z : Nat → Nat} {o : Nat} (C0 : LCtx p l s m meth c b L xs D c4) (hZ : cok Z) (hi : i ≤ 2560) (hv0 : vp_in x4 L) (hv1 : vp_in (x4 + (1 : Int32)) L) (hv2 : vp_in (x4 + (2 : Int32)) L) (hv3 : vp_in (x4 + (3 : Int32)) L) (hv4 : vp_in (x4 + (4 : Int32)) L) (K : lKont p l e s m below meth c D c4 b x4 Z z o i) : lCase p l e s m below meth c D c4 b x4 Z z o i 370 := by
  obtain ⟨⟨hx, hb, hr, hml, hown, hts, hX, hbl, hlocks, hgv⟩, hK, hE, hN, hl0⟩ := C0
  intro H locs u v g hP hD hS hR ls hl
  have hA : ∀ q : Nat, s.heap.size ≤ q → LA s q := fun _ h => h
  have hbA : ¬ LA s b := Nat.not_le.mpr hbl
  refine lv_aload_n hx hb dL_law_370 rfl (lv_at hl 1 rfl) ?_
  refine lv_aload_n hx hb dL_law_371 rfl (lv_at hl 0 rfl) ?_
  refine lv_iload hx hb dL_law_372 (lv_at hl 4 rfl) ?_
  refine lv_iconst (v := (1 : Int32)) hx hb dL_law_374 (by decide) ?_
  refine lv_iadd hx hb dL_law_375 ?_
  refine va_sld hx hb hX hbl hbA hS hv1 dL_law_376 ?_
  obtain ⟨u2, v2, r2, hc1, hc2, hR2⟩ := S_budget hZ hR (xs (x4 + (1 : Int32)).toNatClampNeg)
  have hFc := zfreeR hD hS hA
  refine va_calli (va_runV (As := [.int (xs (x4 + (1 : Int32)).toNatClampNeg)]) (rest := []) ⟨hx, hb, hml, hown, hts⟩ (ct_X5_budget l D c4 (va_A (cW c4 Z u) H.size) Z hZ u (xs (x4 + (1 : Int32)).toNatClampNeg) _ hc1) (cwV 1 hts (wzl_V zw_204 zw_205 zw_206 zw_1 zw_207) rfl rfl rfl (by decide +kernel) ⟨Nat.le_of_ble_eq_true rfl, Nat.le_of_ble_eq_true rfl⟩) ⟨fbC, va_recv hK (va_P_r hP) (ci := 4) (q0 := 0) rfl rfl, fun U9 hU hW => ⟨rfl, goC2 hP hD hK hA hE hS hU hW⟩⟩ rfl rfl hl.1 rfl (lv_room (Nat.le_of_ble_eq_true rfl)) dL_law_377 ⟨(show 100 + i + 0 ≤ 601024 by omega), (show 2400 + 6 * i + 0 ≤ 7293034 by omega)⟩) hS (fun q _ h => hFc q h) hFc (fun r9 u9 t H1 locs ht hvm e9 hB hz1 hk1 hS => ?_)
  cases e9
  obtain ⟨hP1, hD1, -, -⟩ := hB
  rw [ht] at hP1
  obtain ⟨hP, hD⟩ := zjoinR hP hD hk1 hFc hP1 hD1
  generalize H1 = H at hP hS ⊢
  have hP : va_P D vwCl ((mW c4 z v ++ wO c4 o g) ++ cW c4 Z u2) H := hP
  have hD : va_D (LA s) ((mW c4 z v ++ wO c4 o g) ++ cW c4 Z u2) := hD
  refine lv_aload_n hx hb dL_law_380 rfl (lv_at hl 2 rfl) ?_
  refine lv_aload_n hx hb dL_law_381 rfl (lv_at hl 0 rfl) ?_
  refine lv_iload hx hb dL_law_382 (lv_at hl 4 rfl) ?_
  refine lv_iconst (v := (1 : Int32)) hx hb dL_law_384 (by decide) ?_
  refine lv_iadd hx hb dL_law_385 ?_
  refine va_sld hx hb hX hbl hbA hS hv1 dL_law_386 ?_
  have hP2 : va_P D vwCl (mW c4 z v ++ (wO c4 o g ++ cW c4 Z u2)) H := hP
  have hD2 : va_D (LA s) (mW c4 z v ++ (wO c4 o g ++ cW c4 Z u2)) := hD
  have hFc := zfreeL hD2 hS hA
  refine va_calli (va_runV (As := [.int (xs (x4 + (1 : Int32)).toNatClampNeg)]) (rest := [.int r2]) ⟨hx, hb, hml, hown, hts⟩ (ct_X6_budget l D c4 (va_A (mW c4 z v) H.size) z v (xs (x4 + (1 : Int32)).toNatClampNeg) _ hc2) (cwV 1 hts (wzl_V zw_766 zw_767 zw_768 zw_6 zw_769) rfl rfl rfl (by decide +kernel) ⟨Nat.le_of_ble_eq_true rfl, Nat.le_of_ble_eq_true rfl⟩) ⟨fbM, va_recv hK (va_P_l hP2) (ci := 5) (q0 := 0) rfl rfl, fun U9 hU hW => ⟨rfl, goM2 hP2 hD2 hK hU hW⟩⟩ rfl rfl hl.1 rfl (lv_room (Nat.le_of_ble_eq_true rfl)) dL_law_387 ⟨(show 100 + i + 0 ≤ 601024 by omega), (show 2400 + 6 * i + 0 ≤ 7293034 by omega)⟩) hS (fun q _ h => hFc q h) hFc (fun b9 v9 t H1 locs ht hvm e9 hB hz1 hk1 hS => ?_)
  cases e9
  obtain ⟨hP1, hD1, -, -⟩ := hB
  rw [ht] at hP1
  obtain ⟨hP, hD⟩ := zjoinL hP2 hD2 hk1 hFc hP1 hD1
  generalize H1 = H at hP hS ⊢
  have hP : va_P D vwCl ((mW c4 z v2 ++ wO c4 o g) ++ cW c4 Z u2) H := hP
  have hD : va_D (LA s) ((mW c4 z v2 ++ wO c4 o g) ++ cW c4 Z u2) := hD
  refine lv_icmp_eq (tgt := 832) hx hb dL_law_390 (by decide) (fun c9 => ?_) (fun c9 => absurd rfl c9)
  refine W.widen (k := 100 + i + 1) (n := 2400 + 6 * i + 6) (by omega) (by omega) ?_
  exact K _ _ u2 v2 g hP hD hS hR2 ls (lv_sub hl [0, 1, 2, 3, 4] rfl)
set_option maxHeartbeats 4000000 in
set_option maxRecDepth 100000 in
theorem lc_open {p : Program} {l : Launch} {e : Env} {s : State} {m : MethodId} {below : List Frame} {meth : Method} {c : Code} {D : va_G} {c4 : Nat → ClassId} {b L i : Nat} {xs : Nat → Int32} {x4 : Int32} {Z : CZ} {z : Nat → Nat} {o : Nat} (C0 : LCtx p l s m meth c b L xs D c4) (hZ : cok Z) (hi : i ≤ 2560) (hv0 : vp_in x4 L) (hv1 : vp_in (x4 + (1 : Int32)) L) (hv2 : vp_in (x4 + (2 : Int32)) L) (hv3 : vp_in (x4 + (3 : Int32)) L) (hv4 : vp_in (x4 + (4 : Int32)) L) (K : lKont p l e s m below meth c D c4 b x4 Z z o i) : lCase p l e s m below meth c D c4 b x4 Z z o i 395 := by
  obtain ⟨⟨hx, hb, hr, hml, hown, hts, hX, hbl, hlocks, hgv⟩, hK, hE, hN, hl0⟩ := C0
  intro H locs u v g hP hD hS hR ls hl
  have hA : ∀ q : Nat, s.heap.size ≤ q → LA s q := fun _ h => h
  have hbA : ¬ LA s b := Nat.not_le.mpr hbl
  refine lv_aload_n hx hb dL_law_395 rfl (lv_at hl 1 rfl) ?_
  refine lv_aload_n hx hb dL_law_396 rfl (lv_at hl 3 rfl) ?_
  obtain ⟨res, v2, b2, hc1, hc2, hZB⟩ := S_open hZ hR
  have hP2 : va_P D vwCl (mW c4 z v ++ (wO c4 o g ++ cW c4 Z u)) H := hP
  have hD2 : va_D (LA s) (mW c4 z v ++ (wO c4 o g ++ cW c4 Z u)) := hD
  have hFc := zfreeR hD2 hS hA
  refine va_calli (vx_runSW (As := [.ref (Zz Z 0), .ref o]) (rest := []) ⟨hx, hb, hml, hown, hts⟩ (lt_open l hl0 D c4 (va_A (wO c4 o g ++ cW c4 Z u) H.size) Z hZ u o g res hc1 (zBoth_k hZB (by decide))) (vx_cwSW (hh := [((0 : Nat), (8 : Nat), (11 : Nat), (13 : Nat)), ((0 : Nat), (8 : Nat), (14 : Nat), (15 : Nat)), ((0 : Nat), (8 : Nat), (17 : Nat), (17 : Nat)), ((0 : Nat), (8 : Nat), (20 : Nat), (19 : Nat))]) 2 hts (wzl_S zw_243 zw_244 zw_0 zw_245) rfl rfl rfl (by decide +kernel) ⟨Nat.le_of_ble_eq_true rfl, Nat.le_of_ble_eq_true rfl⟩) ⟨fbL, fun U9 hU hW => ⟨rfl, goL2 hP2 hD2 hK hA hE hN hS hU hW⟩⟩ rfl rfl hl.1 rfl (lv_room (Nat.le_of_ble_eq_true rfl)) dL_law_397 ⟨(show 100 + i + 1 ≤ 601024 by omega), (show 2400 + 6 * i + 6 ≤ 7293034 by omega)⟩) hS (fun q _ h => hFc q h) hFc (fun k9 w9 t H1 locs ht hvm e9L hB hz1 hk1 hS => ?_)
  obtain ⟨u9, g9⟩ := w9
  obtain ⟨hP1, hD1, -, -⟩ := hB
  rw [ht] at hP1
  obtain ⟨hP, hD⟩ := zjoinR hP2 hD2 hk1 hFc hP1 hD1
  generalize H1 = H at hP hS ⊢
  have hP : va_P D vwCl ((mW c4 z v ++ wO c4 o g9) ++ cW c4 Z u9) H := hP
  have hD : va_D (LA s) ((mW c4 z v ++ wO c4 o g9) ++ cW c4 Z u9) := hD
  refine lv_istore (lv' := [(5, .int k9), (0, .ref b), (1, .ref (Zz Z 0)), (2, .ref (z 0)), (3, .ref o), (4, .int x4)]) hx hb dL_law_400 hl (by decide) rfl (fun ls hl => ?_)
  refine lv_aload_n hx hb dL_law_402 rfl (lv_at hl 3 rfl) ?_
  have hP2 : va_P D vwCl (mW c4 z v ++ (wO c4 o g9 ++ cW c4 Z u9)) H := hP
  have hD2 : va_D (LA s) (mW c4 z v ++ (wO c4 o g9 ++ cW c4 Z u9)) := hD
  have hFc := zfreeL hD2 hS hA
  refine va_calli (va_runV (As := []) (rest := []) ⟨hx, hb, hml, hown, hts⟩ (ct_X6_open l D c4 (va_A (mW c4 z v) H.size) z v _ hc2) (cwV 0 hts (wzl_V zw_770 zw_771 zw_772 zw_6 zw_773) rfl rfl rfl (by decide +kernel) ⟨Nat.le_of_ble_eq_true rfl, Nat.le_of_ble_eq_true rfl⟩) ⟨fbM, va_recv hK (va_P_l hP2) (ci := 5) (q0 := 0) rfl rfl, fun U9 hU hW => ⟨rfl, goM2 hP2 hD2 hK hU hW⟩⟩ rfl rfl hl.1 rfl (lv_room (Nat.le_of_ble_eq_true rfl)) dL_law_403 ⟨(show 100 + i + 1 ≤ 601024 by omega), (show 2400 + 6 * i + 6 ≤ 7293034 by omega)⟩) hS (fun q _ h => hFc q h) hFc (fun b9 v9 t H1 locs ht hvm e9 hB hz1 hk1 hS => ?_)
  cases e9
  obtain ⟨hP1, hD1, -, -⟩ := hB
  rw [ht] at hP1
  obtain ⟨hP, hD⟩ := zjoinL hP2 hD2 hk1 hFc hP1 hD1
  generalize H1 = H at hP hS ⊢
  have hP : va_P D vwCl ((mW c4 z v2 ++ wO c4 o g9) ++ cW c4 Z u9) H := hP
  have hD : va_D (LA s) ((mW c4 z v2 ++ wO c4 o g9) ++ cW c4 Z u9) := hD
  refine lv_istore (lv' := [(6, .int b2), (5, .int k9), (0, .ref b), (1, .ref (Zz Z 0)), (2, .ref (z 0)), (3, .ref o), (4, .int x4)]) hx hb dL_law_406 hl (by decide) rfl (fun ls hl => ?_)
  refine lv_aload_n hx hb dL_law_408 rfl (lv_at hl 4 rfl) ?_
  have hP2 : va_P D vwCl (mW c4 z v2 ++ (wO c4 o g9 ++ cW c4 Z u9)) H := hP
  have hD2 : va_D (LA s) (mW c4 z v2 ++ (wO c4 o g9 ++ cW c4 Z u9)) := hD
  refine vp_callSi (W.runV (As := []) (rest := []) ⟨hx, hb, hml, hown, hts⟩ (ct_X6_thrown l D c4 (va_A (mW c4 z v2) H.size) z v2 _ rfl) (cwV 0 hts (wzl_V zw_738 zw_739 zw_740 zw_6 zw_741) rfl rfl rfl (by decide +kernel) ⟨Nat.le_of_ble_eq_true rfl, Nat.le_of_ble_eq_true rfl⟩) ⟨fbM, va_recv hK (va_P_l hP2) (ci := 5) (q0 := 0) rfl rfl, fun U9 hU hW => ⟨rfl, goM2 hP2 hD2 hK hU hW⟩⟩ rfl rfl hl.1 rfl (lv_room (Nat.le_of_ble_eq_true rfl)) dL_law_409 ⟨(show 100 + i + 1 ≤ 601024 by omega), (show 2400 + 6 * i + 6 ≤ 7293034 by omega)⟩) (fun r8 e8 => ?_)
  subst e8
  refine lv_iload hx hb dL_law_412 (lv_at hl 1 rfl) ?_
  have hth : pX6_thrown v2 = k9 := zAns_k hZB e9L
  refine lv_icmp_eq (tgt := 419) hx hb dL_law_414 (by decide) (fun c9 => ?_) (fun c9 => absurd hth c9)
  refine lv_iload hx hb dL_law_419 (lv_at hl 1 rfl) ?_
  refine lv_if_ne (tgt := 436) hx hb dL_law_421 (by decide) (fun c9 => ?_) (fun c9 => ?_)
  · skip
    refine lv_goto (tgt := 832) hx hb dL_law_436 (by decide) ?_
    exact K _ _ u9 v2 g9 hP hD hS (zAns_R hZB e9L) ls (lv_sub hl [2, 3, 4, 5, 6] rfl)
  · skip
    refine lv_aload_n hx hb dL_law_424 rfl (lv_at hl 5 rfl) ?_
    refine lv_iconst (v := (0 : Int32)) hx hb dL_law_425 (by decide) ?_
    refine va_lald hx hb hK hP 17 0 rfl rfl (inb_in (n := 1) (by decide)) dL_law_426 ?_
    refine lv_iload hx hb dL_law_427 (lv_at hl 0 rfl) ?_
    refine lv_i2l hx hb dL_law_429 rfl ?_
    refine W.lcmp hx hb dL_law_430 ?_
    refine lv_if_eq (tgt := 436) hx hb dL_law_431 (by decide) (fun c8 => ?_) (fun c8 => absurd ((lg_cmp_eq _ _).mpr (zAns_v (by decide) hZB e9L c9)) c8)
    refine lv_goto (tgt := 832) hx hb dL_law_436 (by decide) ?_
    exact K _ _ u9 v2 g9 hP hD hS (zAns_R hZB e9L) ls (lv_sub hl [2, 3, 4, 5, 6] rfl)
set_option maxHeartbeats 4000000 in
set_option maxRecDepth 100000 in
theorem lc_left {p : Program} {l : Launch} {e : Env} {s : State} {m : MethodId} {below : List Frame} {meth : Method} {c : Code} {D : va_G} {c4 : Nat → ClassId} {b L i : Nat} {xs : Nat → Int32} {x4 : Int32} {Z : CZ} {z : Nat → Nat} {o : Nat} (C0 : LCtx p l s m meth c b L xs D c4) (hZ : cok Z) (hi : i ≤ 2560) (hv0 : vp_in x4 L) (hv1 : vp_in (x4 + (1 : Int32)) L) (hv2 : vp_in (x4 + (2 : Int32)) L) (hv3 : vp_in (x4 + (3 : Int32)) L) (hv4 : vp_in (x4 + (4 : Int32)) L) (K : lKont p l e s m below meth c D c4 b x4 Z z o i) : lCase p l e s m below meth c D c4 b x4 Z z o i 439 := by
  obtain ⟨⟨hx, hb, hr, hml, hown, hts, hX, hbl, hlocks, hgv⟩, hK, hE, hN, hl0⟩ := C0
  intro H locs u v g hP hD hS hR ls hl
  have hA : ∀ q : Nat, s.heap.size ≤ q → LA s q := fun _ h => h
  have hbA : ¬ LA s b := Nat.not_le.mpr hbl
  refine lv_aload_n hx hb dL_law_439 rfl (lv_at hl 1 rfl) ?_
  obtain ⟨v2, r2, hc1, hc2, hR2⟩ := S_left hZ hR
  refine vp_callSi (W.runV (As := []) (rest := []) ⟨hx, hb, hml, hown, hts⟩ (ct_X5_left l D c4 (va_A (cW c4 Z u) H.size) Z hZ u _ hc1) (cwV 0 hts (wzl_V zw_208 zw_209 zw_210 zw_1 zw_211) rfl rfl rfl (by decide +kernel) ⟨Nat.le_of_ble_eq_true rfl, Nat.le_of_ble_eq_true rfl⟩) ⟨fbC, va_recv hK (va_P_r hP) (ci := 4) (q0 := 0) rfl rfl, fun U9 hU hW => ⟨rfl, goC2 hP hD hK hA hE hS hU hW⟩⟩ rfl rfl hl.1 rfl (lv_room (Nat.le_of_ble_eq_true rfl)) dL_law_440 ⟨(show 100 + i + 0 ≤ 601024 by omega), (show 2400 + 6 * i + 0 ≤ 7293034 by omega)⟩) (fun r9 e9 => ?_)
  subst e9
  refine lv_aload_n hx hb dL_law_443 rfl (lv_at hl 2 rfl) ?_
  have hP2 : va_P D vwCl (mW c4 z v ++ (wO c4 o g ++ cW c4 Z u)) H := hP
  have hD2 : va_D (LA s) (mW c4 z v ++ (wO c4 o g ++ cW c4 Z u)) := hD
  have hFc := zfreeL hD2 hS hA
  refine va_calli (va_runV (As := []) (rest := [.int r9]) ⟨hx, hb, hml, hown, hts⟩ (ct_X6_left l D c4 (va_A (mW c4 z v) H.size) z v _ hc2) (cwV 0 hts (wzl_V zw_816 zw_817 zw_818 zw_6 zw_819) rfl rfl rfl (by decide +kernel) ⟨Nat.le_of_ble_eq_true rfl, Nat.le_of_ble_eq_true rfl⟩) ⟨fbM, va_recv hK (va_P_l hP2) (ci := 5) (q0 := 0) rfl rfl, fun U9 hU hW => ⟨rfl, goM2 hP2 hD2 hK hU hW⟩⟩ rfl rfl hl.1 rfl (lv_room (Nat.le_of_ble_eq_true rfl)) dL_law_444 ⟨(show 100 + i + 0 ≤ 601024 by omega), (show 2400 + 6 * i + 0 ≤ 7293034 by omega)⟩) hS (fun q _ h => hFc q h) hFc (fun b9 v9 t H1 locs ht hvm e9 hB hz1 hk1 hS => ?_)
  cases e9
  obtain ⟨hP1, hD1, -, -⟩ := hB
  rw [ht] at hP1
  obtain ⟨hP, hD⟩ := zjoinL hP2 hD2 hk1 hFc hP1 hD1
  generalize H1 = H at hP hS ⊢
  have hP : va_P D vwCl ((mW c4 z v2 ++ wO c4 o g) ++ cW c4 Z u) H := hP
  have hD : va_D (LA s) ((mW c4 z v2 ++ wO c4 o g) ++ cW c4 Z u) := hD
  refine lv_icmp_eq (tgt := 832) hx hb dL_law_447 (by decide) (fun c9 => ?_) (fun c9 => absurd rfl c9)
  refine W.widen (k := 100 + i + 1) (n := 2400 + 6 * i + 6) (by omega) (by omega) ?_
  exact K _ _ u v2 g hP hD hS hR2 ls (lv_sub hl [0, 1, 2, 3, 4] rfl)
set_option maxHeartbeats 4000000 in
set_option maxRecDepth 100000 in
theorem lc_go {p : Program} {l : Launch} {e : Env} {s : State} {m : MethodId} {below : List Frame} {meth : Method} {c : Code} {D : va_G} {c4 : Nat → ClassId} {b L i : Nat} {xs : Nat → Int32} {x4 : Int32} {Z : CZ} {z : Nat → Nat} {o : Nat} (C0 : LCtx p l s m meth c b L xs D c4) (hZ : cok Z) (hi : i ≤ 2560) (hv0 : vp_in x4 L) (hv1 : vp_in (x4 + (1 : Int32)) L) (hv2 : vp_in (x4 + (2 : Int32)) L) (hv3 : vp_in (x4 + (3 : Int32)) L) (hv4 : vp_in (x4 + (4 : Int32)) L) (K : lKont p l e s m below meth c D c4 b x4 Z z o i) : lCase p l e s m below meth c D c4 b x4 Z z o i 452 := by
  obtain ⟨⟨hx, hb, hr, hml, hown, hts, hX, hbl, hlocks, hgv⟩, hK, hE, hN, hl0⟩ := C0
  intro H locs u v g hP hD hS hR ls hl
  have hA : ∀ q : Nat, s.heap.size ≤ q → LA s q := fun _ h => h
  have hbA : ¬ LA s b := Nat.not_le.mpr hbl
  refine lv_aload_n hx hb dL_law_452 rfl (lv_at hl 1 rfl) ?_
  refine lv_aload_n hx hb dL_law_453 rfl (lv_at hl 0 rfl) ?_
  refine lv_iload hx hb dL_law_454 (lv_at hl 4 rfl) ?_
  refine lv_iconst (v := (1 : Int32)) hx hb dL_law_456 (by decide) ?_
  refine lv_iadd hx hb dL_law_457 ?_
  refine va_sld hx hb hX hbl hbA hS hv1 dL_law_458 ?_
  refine lv_aload_n hx hb dL_law_459 rfl (lv_at hl 0 rfl) ?_
  refine lv_iload hx hb dL_law_460 (lv_at hl 4 rfl) ?_
  refine lv_iconst (v := (2 : Int32)) hx hb dL_law_462 (by decide) ?_
  refine lv_iadd hx hb dL_law_463 ?_
  refine va_sld hx hb hX hbl hbA hS hv2 dL_law_464 ?_
  refine lv_aload_n hx hb dL_law_465 rfl (lv_at hl 3 rfl) ?_
  obtain ⟨res, v2, b2, hc1, hc2, hZB⟩ := S_go hZ hR (xs (x4 + (1 : Int32)).toNatClampNeg) (xs (x4 + (2 : Int32)).toNatClampNeg)
  have hP2 : va_P D vwCl (mW c4 z v ++ (wO c4 o g ++ cW c4 Z u)) H := hP
  have hD2 : va_D (LA s) (mW c4 z v ++ (wO c4 o g ++ cW c4 Z u)) := hD
  have hFc := zfreeR hD2 hS hA
  refine va_calli (vx_runSW (As := [.ref (Zz Z 0), .int (xs (x4 + (1 : Int32)).toNatClampNeg), .int (xs (x4 + (2 : Int32)).toNatClampNeg), .ref o]) (rest := []) ⟨hx, hb, hml, hown, hts⟩ (lt_go l hl0 D c4 (va_A (wO c4 o g ++ cW c4 Z u) H.size) Z hZ u o g (xs (x4 + (1 : Int32)).toNatClampNeg) (xs (x4 + (2 : Int32)).toNatClampNeg) res hc1 (zBoth_k hZB (by decide))) (vx_cwSW (hh := [((0 : Nat), (10 : Nat), (13 : Nat), (15 : Nat)), ((0 : Nat), (10 : Nat), (17 : Nat), (25 : Nat)), ((0 : Nat), (10 : Nat), (21 : Nat), (13 : Nat)), ((0 : Nat), (10 : Nat), (25 : Nat), (19 : Nat)), ((0 : Nat), (10 : Nat), (29 : Nat), (17 : Nat))]) 4 hts (wzl_S zw_468 zw_469 zw_0 zw_470) rfl rfl rfl (by decide +kernel) ⟨Nat.le_of_ble_eq_true rfl, Nat.le_of_ble_eq_true rfl⟩) ⟨fbL, fun U9 hU hW => ⟨rfl, goL2 hP2 hD2 hK hA hE hN hS hU hW⟩⟩ rfl rfl hl.1 rfl (lv_room (Nat.le_of_ble_eq_true rfl)) dL_law_466 ⟨(show 100 + i + 1 ≤ 601024 by omega), (show 2400 + 6 * i + 6 ≤ 7293034 by omega)⟩) hS (fun q _ h => hFc q h) hFc (fun k9 w9 t H1 locs ht hvm e9L hB hz1 hk1 hS => ?_)
  obtain ⟨u9, g9⟩ := w9
  obtain ⟨hP1, hD1, -, -⟩ := hB
  rw [ht] at hP1
  obtain ⟨hP, hD⟩ := zjoinR hP2 hD2 hk1 hFc hP1 hD1
  generalize H1 = H at hP hS ⊢
  have hP : va_P D vwCl ((mW c4 z v ++ wO c4 o g9) ++ cW c4 Z u9) H := hP
  have hD : va_D (LA s) ((mW c4 z v ++ wO c4 o g9) ++ cW c4 Z u9) := hD
  refine lv_istore (lv' := [(5, .int k9), (0, .ref b), (1, .ref (Zz Z 0)), (2, .ref (z 0)), (3, .ref o), (4, .int x4)]) hx hb dL_law_469 hl (by decide) rfl (fun ls hl => ?_)
  refine lv_aload_n hx hb dL_law_471 rfl (lv_at hl 3 rfl) ?_
  refine lv_aload_n hx hb dL_law_472 rfl (lv_at hl 1 rfl) ?_
  refine lv_iload hx hb dL_law_473 (lv_at hl 5 rfl) ?_
  refine lv_iconst (v := (1 : Int32)) hx hb dL_law_475 (by decide) ?_
  refine lv_iadd hx hb dL_law_476 ?_
  refine va_sld hx hb hX hbl hbA hS hv1 dL_law_477 ?_
  refine lv_aload_n hx hb dL_law_478 rfl (lv_at hl 1 rfl) ?_
  refine lv_iload hx hb dL_law_479 (lv_at hl 5 rfl) ?_
  refine lv_iconst (v := (2 : Int32)) hx hb dL_law_481 (by decide) ?_
  refine lv_iadd hx hb dL_law_482 ?_
  refine va_sld hx hb hX hbl hbA hS hv2 dL_law_483 ?_
  have hP2 : va_P D vwCl (mW c4 z v ++ (wO c4 o g9 ++ cW c4 Z u9)) H := hP
  have hD2 : va_D (LA s) (mW c4 z v ++ (wO c4 o g9 ++ cW c4 Z u9)) := hD
  have hFc := zfreeL hD2 hS hA
  refine va_calli (va_runV (As := [.int (xs (x4 + (1 : Int32)).toNatClampNeg), .int (xs (x4 + (2 : Int32)).toNatClampNeg)]) (rest := []) ⟨hx, hb, hml, hown, hts⟩ (ct_X6_go l D c4 (va_A (mW c4 z v) H.size) z v (xs (x4 + (1 : Int32)).toNatClampNeg) (xs (x4 + (2 : Int32)).toNatClampNeg) _ hc2) (cwV 2 hts (wzl_V zw_820 zw_821 zw_822 zw_6 zw_823) rfl rfl rfl (by decide +kernel) ⟨Nat.le_of_ble_eq_true rfl, Nat.le_of_ble_eq_true rfl⟩) ⟨fbM, va_recv hK (va_P_l hP2) (ci := 5) (q0 := 0) rfl rfl, fun U9 hU hW => ⟨rfl, goM2 hP2 hD2 hK hU hW⟩⟩ rfl rfl hl.1 rfl (lv_room (Nat.le_of_ble_eq_true rfl)) dL_law_484 ⟨(show 100 + i + 1 ≤ 601024 by omega), (show 2400 + 6 * i + 6 ≤ 7293034 by omega)⟩) hS (fun q _ h => hFc q h) hFc (fun b9 v9 t H1 locs ht hvm e9 hB hz1 hk1 hS => ?_)
  cases e9
  obtain ⟨hP1, hD1, -, -⟩ := hB
  rw [ht] at hP1
  obtain ⟨hP, hD⟩ := zjoinL hP2 hD2 hk1 hFc hP1 hD1
  generalize H1 = H at hP hS ⊢
  have hP : va_P D vwCl ((mW c4 z v2 ++ wO c4 o g9) ++ cW c4 Z u9) H := hP
  have hD : va_D (LA s) ((mW c4 z v2 ++ wO c4 o g9) ++ cW c4 Z u9) := hD
  refine lv_istore (lv' := [(6, .int b2), (5, .int k9), (0, .ref b), (1, .ref (Zz Z 0)), (2, .ref (z 0)), (3, .ref o), (4, .int x4)]) hx hb dL_law_487 hl (by decide) rfl (fun ls hl => ?_)
  refine lv_aload_n hx hb dL_law_489 rfl (lv_at hl 4 rfl) ?_
  have hP2 : va_P D vwCl (mW c4 z v2 ++ (wO c4 o g9 ++ cW c4 Z u9)) H := hP
  have hD2 : va_D (LA s) (mW c4 z v2 ++ (wO c4 o g9 ++ cW c4 Z u9)) := hD
  refine vp_callSi (W.runV (As := []) (rest := []) ⟨hx, hb, hml, hown, hts⟩ (ct_X6_thrown l D c4 (va_A (mW c4 z v2) H.size) z v2 _ rfl) (cwV 0 hts (wzl_V zw_738 zw_739 zw_740 zw_6 zw_741) rfl rfl rfl (by decide +kernel) ⟨Nat.le_of_ble_eq_true rfl, Nat.le_of_ble_eq_true rfl⟩) ⟨fbM, va_recv hK (va_P_l hP2) (ci := 5) (q0 := 0) rfl rfl, fun U9 hU hW => ⟨rfl, goM2 hP2 hD2 hK hU hW⟩⟩ rfl rfl hl.1 rfl (lv_room (Nat.le_of_ble_eq_true rfl)) dL_law_490 ⟨(show 100 + i + 1 ≤ 601024 by omega), (show 2400 + 6 * i + 6 ≤ 7293034 by omega)⟩) (fun r8 e8 => ?_)
  subst e8
  refine lv_iload hx hb dL_law_493 (lv_at hl 1 rfl) ?_
  have hth : pX6_thrown v2 = k9 := zAns_k hZB e9L
  refine lv_icmp_eq (tgt := 500) hx hb dL_law_495 (by decide) (fun c9 => ?_) (fun c9 => absurd hth c9)
  refine lv_iload hx hb dL_law_500 (lv_at hl 1 rfl) ?_
  refine lv_if_ne (tgt := 517) hx hb dL_law_502 (by decide) (fun c9 => ?_) (fun c9 => ?_)
  · skip
    refine lv_goto (tgt := 832) hx hb dL_law_517 (by decide) ?_
    exact K _ _ u9 v2 g9 hP hD hS (zAns_R hZB e9L) ls (lv_sub hl [2, 3, 4, 5, 6] rfl)
  · skip
    refine lv_aload_n hx hb dL_law_505 rfl (lv_at hl 5 rfl) ?_
    refine lv_iconst (v := (0 : Int32)) hx hb dL_law_506 (by decide) ?_
    refine va_lald hx hb hK hP 17 0 rfl rfl (inb_in (n := 1) (by decide)) dL_law_507 ?_
    refine lv_iload hx hb dL_law_508 (lv_at hl 0 rfl) ?_
    refine lv_i2l hx hb dL_law_510 rfl ?_
    refine W.lcmp hx hb dL_law_511 ?_
    refine lv_if_eq (tgt := 517) hx hb dL_law_512 (by decide) (fun c8 => ?_) (fun c8 => absurd ((lg_cmp_eq _ _).mpr (zAns_v (by decide) hZB e9L c9)) c8)
    refine lv_goto (tgt := 832) hx hb dL_law_517 (by decide) ?_
    exact K _ _ u9 v2 g9 hP hD hS (zAns_R hZB e9L) ls (lv_sub hl [2, 3, 4, 5, 6] rfl)
set_option maxHeartbeats 4000000 in
set_option maxRecDepth 100000 in
theorem lc_element {p : Program} {l : Launch} {e : Env} {s : State} {m : MethodId} {below : List Frame} {meth : Method} {c : Code} {D : va_G} {c4 : Nat → ClassId} {b L i : Nat} {xs : Nat → Int32} {x4 : Int32} {Z : CZ} {z : Nat → Nat} {o : Nat} (C0 : LCtx p l s m meth c b L xs D c4) (hZ : cok Z) (hi : i ≤ 2560) (hv0 : vp_in x4 L) (hv1 : vp_in (x4 + (1 : Int32)) L) (hv2 : vp_in (x4 + (2 : Int32)) L) (hv3 : vp_in (x4 + (3 : Int32)) L) (hv4 : vp_in (x4 + (4 : Int32)) L) (K : lKont p l e s m below meth c D c4 b x4 Z z o i) : lCase p l e s m below meth c D c4 b x4 Z z o i 520 := by
  obtain ⟨⟨hx, hb, hr, hml, hown, hts, hX, hbl, hlocks, hgv⟩, hK, hE, hN, hl0⟩ := C0
  intro H locs u v g hP hD hS hR ls hl
  have hA : ∀ q : Nat, s.heap.size ≤ q → LA s q := fun _ h => h
  have hbA : ¬ LA s b := Nat.not_le.mpr hbl
  refine lv_aload_n hx hb dL_law_520 rfl (lv_at hl 1 rfl) ?_
  refine lv_aload_n hx hb dL_law_521 rfl (lv_at hl 0 rfl) ?_
  refine lv_iload hx hb dL_law_522 (lv_at hl 4 rfl) ?_
  refine lv_iconst (v := (1 : Int32)) hx hb dL_law_524 (by decide) ?_
  refine lv_iadd hx hb dL_law_525 ?_
  refine va_sld hx hb hX hbl hbA hS hv1 dL_law_526 ?_
  refine lv_aload_n hx hb dL_law_527 rfl (lv_at hl 0 rfl) ?_
  refine lv_iload hx hb dL_law_528 (lv_at hl 4 rfl) ?_
  refine lv_iconst (v := (2 : Int32)) hx hb dL_law_530 (by decide) ?_
  refine lv_iadd hx hb dL_law_531 ?_
  refine va_sld hx hb hX hbl hbA hS hv2 dL_law_532 ?_
  refine lv_aload_n hx hb dL_law_533 rfl (lv_at hl 3 rfl) ?_
  obtain ⟨res, v2, b2, hc1, hc2, hZB⟩ := S_element hZ hR (xs (x4 + (1 : Int32)).toNatClampNeg) (xs (x4 + (2 : Int32)).toNatClampNeg)
  have hP2 : va_P D vwCl (mW c4 z v ++ (wO c4 o g ++ cW c4 Z u)) H := hP
  have hD2 : va_D (LA s) (mW c4 z v ++ (wO c4 o g ++ cW c4 Z u)) := hD
  have hFc := zfreeR hD2 hS hA
  refine va_calli (vx_runSW (As := [.ref (Zz Z 0), .int (xs (x4 + (1 : Int32)).toNatClampNeg), .int (xs (x4 + (2 : Int32)).toNatClampNeg), .ref o]) (rest := []) ⟨hx, hb, hml, hown, hts⟩ (lt_element l hl0 D c4 (va_A (wO c4 o g ++ cW c4 Z u) H.size) Z hZ u o g (xs (x4 + (1 : Int32)).toNatClampNeg) (xs (x4 + (2 : Int32)).toNatClampNeg) res hc1 (zBoth_k hZB (by decide))) (vx_cwSW (hh := [((0 : Nat), (10 : Nat), (13 : Nat), (15 : Nat)), ((0 : Nat), (10 : Nat), (17 : Nat), (25 : Nat)), ((0 : Nat), (10 : Nat), (21 : Nat), (13 : Nat)), ((0 : Nat), (10 : Nat), (25 : Nat), (19 : Nat))]) 4 hts (wzl_S zw_524 zw_525 zw_0 zw_526) rfl rfl rfl (by decide +kernel) ⟨Nat.le_of_ble_eq_true rfl, Nat.le_of_ble_eq_true rfl⟩) ⟨fbL, fun U9 hU hW => ⟨rfl, goL2 hP2 hD2 hK hA hE hN hS hU hW⟩⟩ rfl rfl hl.1 rfl (lv_room (Nat.le_of_ble_eq_true rfl)) dL_law_534 ⟨(show 100 + i + 1 ≤ 601024 by omega), (show 2400 + 6 * i + 6 ≤ 7293034 by omega)⟩) hS (fun q _ h => hFc q h) hFc (fun k9 w9 t H1 locs ht hvm e9L hB hz1 hk1 hS => ?_)
  obtain ⟨u9, g9⟩ := w9
  obtain ⟨hP1, hD1, -, -⟩ := hB
  rw [ht] at hP1
  obtain ⟨hP, hD⟩ := zjoinR hP2 hD2 hk1 hFc hP1 hD1
  generalize H1 = H at hP hS ⊢
  have hP : va_P D vwCl ((mW c4 z v ++ wO c4 o g9) ++ cW c4 Z u9) H := hP
  have hD : va_D (LA s) ((mW c4 z v ++ wO c4 o g9) ++ cW c4 Z u9) := hD
  refine lv_istore (lv' := [(5, .int k9), (0, .ref b), (1, .ref (Zz Z 0)), (2, .ref (z 0)), (3, .ref o), (4, .int x4)]) hx hb dL_law_537 hl (by decide) rfl (fun ls hl => ?_)
  refine lv_aload_n hx hb dL_law_539 rfl (lv_at hl 3 rfl) ?_
  refine lv_aload_n hx hb dL_law_540 rfl (lv_at hl 1 rfl) ?_
  refine lv_iload hx hb dL_law_541 (lv_at hl 5 rfl) ?_
  refine lv_iconst (v := (1 : Int32)) hx hb dL_law_543 (by decide) ?_
  refine lv_iadd hx hb dL_law_544 ?_
  refine va_sld hx hb hX hbl hbA hS hv1 dL_law_545 ?_
  refine lv_aload_n hx hb dL_law_546 rfl (lv_at hl 1 rfl) ?_
  refine lv_iload hx hb dL_law_547 (lv_at hl 5 rfl) ?_
  refine lv_iconst (v := (2 : Int32)) hx hb dL_law_549 (by decide) ?_
  refine lv_iadd hx hb dL_law_550 ?_
  refine va_sld hx hb hX hbl hbA hS hv2 dL_law_551 ?_
  have hP2 : va_P D vwCl (mW c4 z v ++ (wO c4 o g9 ++ cW c4 Z u9)) H := hP
  have hD2 : va_D (LA s) (mW c4 z v ++ (wO c4 o g9 ++ cW c4 Z u9)) := hD
  have hFc := zfreeL hD2 hS hA
  refine va_calli (va_runV (As := [.int (xs (x4 + (1 : Int32)).toNatClampNeg), .int (xs (x4 + (2 : Int32)).toNatClampNeg)]) (rest := []) ⟨hx, hb, hml, hown, hts⟩ (ct_X6_element l D c4 (va_A (mW c4 z v) H.size) z v (xs (x4 + (1 : Int32)).toNatClampNeg) (xs (x4 + (2 : Int32)).toNatClampNeg) _ hc2) (cwV 2 hts (wzl_V zw_836 zw_837 zw_838 zw_6 zw_839) rfl rfl rfl (by decide +kernel) ⟨Nat.le_of_ble_eq_true rfl, Nat.le_of_ble_eq_true rfl⟩) ⟨fbM, va_recv hK (va_P_l hP2) (ci := 5) (q0 := 0) rfl rfl, fun U9 hU hW => ⟨rfl, goM2 hP2 hD2 hK hU hW⟩⟩ rfl rfl hl.1 rfl (lv_room (Nat.le_of_ble_eq_true rfl)) dL_law_552 ⟨(show 100 + i + 1 ≤ 601024 by omega), (show 2400 + 6 * i + 6 ≤ 7293034 by omega)⟩) hS (fun q _ h => hFc q h) hFc (fun b9 v9 t H1 locs ht hvm e9 hB hz1 hk1 hS => ?_)
  cases e9
  obtain ⟨hP1, hD1, -, -⟩ := hB
  rw [ht] at hP1
  obtain ⟨hP, hD⟩ := zjoinL hP2 hD2 hk1 hFc hP1 hD1
  generalize H1 = H at hP hS ⊢
  have hP : va_P D vwCl ((mW c4 z v2 ++ wO c4 o g9) ++ cW c4 Z u9) H := hP
  have hD : va_D (LA s) ((mW c4 z v2 ++ wO c4 o g9) ++ cW c4 Z u9) := hD
  refine lv_istore (lv' := [(6, .int b2), (5, .int k9), (0, .ref b), (1, .ref (Zz Z 0)), (2, .ref (z 0)), (3, .ref o), (4, .int x4)]) hx hb dL_law_555 hl (by decide) rfl (fun ls hl => ?_)
  refine lv_aload_n hx hb dL_law_557 rfl (lv_at hl 4 rfl) ?_
  have hP2 : va_P D vwCl (mW c4 z v2 ++ (wO c4 o g9 ++ cW c4 Z u9)) H := hP
  have hD2 : va_D (LA s) (mW c4 z v2 ++ (wO c4 o g9 ++ cW c4 Z u9)) := hD
  refine vp_callSi (W.runV (As := []) (rest := []) ⟨hx, hb, hml, hown, hts⟩ (ct_X6_thrown l D c4 (va_A (mW c4 z v2) H.size) z v2 _ rfl) (cwV 0 hts (wzl_V zw_738 zw_739 zw_740 zw_6 zw_741) rfl rfl rfl (by decide +kernel) ⟨Nat.le_of_ble_eq_true rfl, Nat.le_of_ble_eq_true rfl⟩) ⟨fbM, va_recv hK (va_P_l hP2) (ci := 5) (q0 := 0) rfl rfl, fun U9 hU hW => ⟨rfl, goM2 hP2 hD2 hK hU hW⟩⟩ rfl rfl hl.1 rfl (lv_room (Nat.le_of_ble_eq_true rfl)) dL_law_558 ⟨(show 100 + i + 1 ≤ 601024 by omega), (show 2400 + 6 * i + 6 ≤ 7293034 by omega)⟩) (fun r8 e8 => ?_)
  subst e8
  refine lv_iload hx hb dL_law_561 (lv_at hl 1 rfl) ?_
  have hth : pX6_thrown v2 = k9 := zAns_k hZB e9L
  refine lv_icmp_eq (tgt := 568) hx hb dL_law_563 (by decide) (fun c9 => ?_) (fun c9 => absurd hth c9)
  refine lv_iload hx hb dL_law_568 (lv_at hl 1 rfl) ?_
  refine lv_if_ne (tgt := 585) hx hb dL_law_570 (by decide) (fun c9 => ?_) (fun c9 => ?_)
  · skip
    refine lv_goto (tgt := 832) hx hb dL_law_585 (by decide) ?_
    exact K _ _ u9 v2 g9 hP hD hS (zAns_R hZB e9L) ls (lv_sub hl [2, 3, 4, 5, 6] rfl)
  · skip
    refine lv_aload_n hx hb dL_law_573 rfl (lv_at hl 5 rfl) ?_
    refine lv_iconst (v := (0 : Int32)) hx hb dL_law_574 (by decide) ?_
    refine va_lald hx hb hK hP 17 0 rfl rfl (inb_in (n := 1) (by decide)) dL_law_575 ?_
    refine lv_iload hx hb dL_law_576 (lv_at hl 0 rfl) ?_
    refine lv_i2l hx hb dL_law_578 rfl ?_
    refine W.lcmp hx hb dL_law_579 ?_
    refine lv_if_eq (tgt := 585) hx hb dL_law_580 (by decide) (fun c8 => ?_) (fun c8 => absurd ((lg_cmp_eq _ _).mpr (zAns_v (by decide) hZB e9L c9)) c8)
    refine lv_goto (tgt := 832) hx hb dL_law_585 (by decide) ?_
    exact K _ _ u9 v2 g9 hP hD hS (zAns_R hZB e9L) ls (lv_sub hl [2, 3, 4, 5, 6] rfl)
set_option maxHeartbeats 4000000 in
set_option maxRecDepth 100000 in
theorem lc_about {p : Program} {l : Launch} {e : Env} {s : State} {m : MethodId} {below : List Frame} {meth : Method} {c : Code} {D : va_G} {c4 : Nat → ClassId} {b L i : Nat} {xs : Nat → Int32} {x4 : Int32} {Z : CZ} {z : Nat → Nat} {o : Nat} (C0 : LCtx p l s m meth c b L xs D c4) (hZ : cok Z) (hi : i ≤ 2560) (hv0 : vp_in x4 L) (hv1 : vp_in (x4 + (1 : Int32)) L) (hv2 : vp_in (x4 + (2 : Int32)) L) (hv3 : vp_in (x4 + (3 : Int32)) L) (hv4 : vp_in (x4 + (4 : Int32)) L) (K : lKont p l e s m below meth c D c4 b x4 Z z o i) : lCase p l e s m below meth c D c4 b x4 Z z o i 588 := by
  obtain ⟨⟨hx, hb, hr, hml, hown, hts, hX, hbl, hlocks, hgv⟩, hK, hE, hN, hl0⟩ := C0
  intro H locs u v g hP hD hS hR ls hl
  have hA : ∀ q : Nat, s.heap.size ≤ q → LA s q := fun _ h => h
  have hbA : ¬ LA s b := Nat.not_le.mpr hbl
  refine lv_aload_n hx hb dL_law_588 rfl (lv_at hl 1 rfl) ?_
  refine lv_aload_n hx hb dL_law_589 rfl (lv_at hl 0 rfl) ?_
  refine lv_iload hx hb dL_law_590 (lv_at hl 4 rfl) ?_
  refine lv_iconst (v := (1 : Int32)) hx hb dL_law_592 (by decide) ?_
  refine lv_iadd hx hb dL_law_593 ?_
  refine va_sld hx hb hX hbl hbA hS hv1 dL_law_594 ?_
  refine lv_aload_n hx hb dL_law_595 rfl (lv_at hl 0 rfl) ?_
  refine lv_iload hx hb dL_law_596 (lv_at hl 4 rfl) ?_
  refine lv_iconst (v := (2 : Int32)) hx hb dL_law_598 (by decide) ?_
  refine lv_iadd hx hb dL_law_599 ?_
  refine va_sld hx hb hX hbl hbA hS hv2 dL_law_600 ?_
  refine lv_aload_n hx hb dL_law_601 rfl (lv_at hl 3 rfl) ?_
  obtain ⟨res, v2, b2, hc1, hc2, hZB⟩ := S_about hZ hR (xs (x4 + (1 : Int32)).toNatClampNeg) (xs (x4 + (2 : Int32)).toNatClampNeg)
  have hP2 : va_P D vwCl (mW c4 z v ++ (wO c4 o g ++ cW c4 Z u)) H := hP
  have hD2 : va_D (LA s) (mW c4 z v ++ (wO c4 o g ++ cW c4 Z u)) := hD
  have hFc := zfreeR hD2 hS hA
  refine va_calli (vx_runSW (As := [.ref (Zz Z 0), .int (xs (x4 + (1 : Int32)).toNatClampNeg), .int (xs (x4 + (2 : Int32)).toNatClampNeg), .ref o]) (rest := []) ⟨hx, hb, hml, hown, hts⟩ (lt_about l hl0 D c4 (va_A (wO c4 o g ++ cW c4 Z u) H.size) Z hZ u o g (xs (x4 + (1 : Int32)).toNatClampNeg) (xs (x4 + (2 : Int32)).toNatClampNeg) res hc1 (zBoth_k hZB (by decide))) (vx_cwSW (hh := [((0 : Nat), (10 : Nat), (13 : Nat), (15 : Nat)), ((0 : Nat), (10 : Nat), (17 : Nat), (13 : Nat))]) 4 hts (wzl_S zw_540 zw_541 zw_0 zw_542) rfl rfl rfl (by decide +kernel) ⟨Nat.le_of_ble_eq_true rfl, Nat.le_of_ble_eq_true rfl⟩) ⟨fbL, fun U9 hU hW => ⟨rfl, goL2 hP2 hD2 hK hA hE hN hS hU hW⟩⟩ rfl rfl hl.1 rfl (lv_room (Nat.le_of_ble_eq_true rfl)) dL_law_602 ⟨(show 100 + i + 1 ≤ 601024 by omega), (show 2400 + 6 * i + 6 ≤ 7293034 by omega)⟩) hS (fun q _ h => hFc q h) hFc (fun k9 w9 t H1 locs ht hvm e9L hB hz1 hk1 hS => ?_)
  obtain ⟨u9, g9⟩ := w9
  obtain ⟨hP1, hD1, -, -⟩ := hB
  rw [ht] at hP1
  obtain ⟨hP, hD⟩ := zjoinR hP2 hD2 hk1 hFc hP1 hD1
  generalize H1 = H at hP hS ⊢
  have hP : va_P D vwCl ((mW c4 z v ++ wO c4 o g9) ++ cW c4 Z u9) H := hP
  have hD : va_D (LA s) ((mW c4 z v ++ wO c4 o g9) ++ cW c4 Z u9) := hD
  refine lv_istore (lv' := [(5, .int k9), (0, .ref b), (1, .ref (Zz Z 0)), (2, .ref (z 0)), (3, .ref o), (4, .int x4)]) hx hb dL_law_605 hl (by decide) rfl (fun ls hl => ?_)
  refine lv_aload_n hx hb dL_law_607 rfl (lv_at hl 3 rfl) ?_
  refine lv_aload_n hx hb dL_law_608 rfl (lv_at hl 1 rfl) ?_
  refine lv_iload hx hb dL_law_609 (lv_at hl 5 rfl) ?_
  refine lv_iconst (v := (1 : Int32)) hx hb dL_law_611 (by decide) ?_
  refine lv_iadd hx hb dL_law_612 ?_
  refine va_sld hx hb hX hbl hbA hS hv1 dL_law_613 ?_
  refine lv_aload_n hx hb dL_law_614 rfl (lv_at hl 1 rfl) ?_
  refine lv_iload hx hb dL_law_615 (lv_at hl 5 rfl) ?_
  refine lv_iconst (v := (2 : Int32)) hx hb dL_law_617 (by decide) ?_
  refine lv_iadd hx hb dL_law_618 ?_
  refine va_sld hx hb hX hbl hbA hS hv2 dL_law_619 ?_
  have hP2 : va_P D vwCl (mW c4 z v ++ (wO c4 o g9 ++ cW c4 Z u9)) H := hP
  have hD2 : va_D (LA s) (mW c4 z v ++ (wO c4 o g9 ++ cW c4 Z u9)) := hD
  have hFc := zfreeL hD2 hS hA
  refine va_calli (va_runV (As := [.int (xs (x4 + (1 : Int32)).toNatClampNeg), .int (xs (x4 + (2 : Int32)).toNatClampNeg)]) (rest := []) ⟨hx, hb, hml, hown, hts⟩ (ct_X6_about l D c4 (va_A (mW c4 z v) H.size) z v (xs (x4 + (1 : Int32)).toNatClampNeg) (xs (x4 + (2 : Int32)).toNatClampNeg) _ hc2) (cwV 2 hts (wzl_V zw_840 zw_841 zw_842 zw_6 zw_843) rfl rfl rfl (by decide +kernel) ⟨Nat.le_of_ble_eq_true rfl, Nat.le_of_ble_eq_true rfl⟩) ⟨fbM, va_recv hK (va_P_l hP2) (ci := 5) (q0 := 0) rfl rfl, fun U9 hU hW => ⟨rfl, goM2 hP2 hD2 hK hU hW⟩⟩ rfl rfl hl.1 rfl (lv_room (Nat.le_of_ble_eq_true rfl)) dL_law_620 ⟨(show 100 + i + 1 ≤ 601024 by omega), (show 2400 + 6 * i + 6 ≤ 7293034 by omega)⟩) hS (fun q _ h => hFc q h) hFc (fun b9 v9 t H1 locs ht hvm e9 hB hz1 hk1 hS => ?_)
  cases e9
  obtain ⟨hP1, hD1, -, -⟩ := hB
  rw [ht] at hP1
  obtain ⟨hP, hD⟩ := zjoinL hP2 hD2 hk1 hFc hP1 hD1
  generalize H1 = H at hP hS ⊢
  have hP : va_P D vwCl ((mW c4 z v2 ++ wO c4 o g9) ++ cW c4 Z u9) H := hP
  have hD : va_D (LA s) ((mW c4 z v2 ++ wO c4 o g9) ++ cW c4 Z u9) := hD
  refine lv_istore (lv' := [(6, .int b2), (5, .int k9), (0, .ref b), (1, .ref (Zz Z 0)), (2, .ref (z 0)), (3, .ref o), (4, .int x4)]) hx hb dL_law_623 hl (by decide) rfl (fun ls hl => ?_)
  refine lv_aload_n hx hb dL_law_625 rfl (lv_at hl 4 rfl) ?_
  have hP2 : va_P D vwCl (mW c4 z v2 ++ (wO c4 o g9 ++ cW c4 Z u9)) H := hP
  have hD2 : va_D (LA s) (mW c4 z v2 ++ (wO c4 o g9 ++ cW c4 Z u9)) := hD
  refine vp_callSi (W.runV (As := []) (rest := []) ⟨hx, hb, hml, hown, hts⟩ (ct_X6_thrown l D c4 (va_A (mW c4 z v2) H.size) z v2 _ rfl) (cwV 0 hts (wzl_V zw_738 zw_739 zw_740 zw_6 zw_741) rfl rfl rfl (by decide +kernel) ⟨Nat.le_of_ble_eq_true rfl, Nat.le_of_ble_eq_true rfl⟩) ⟨fbM, va_recv hK (va_P_l hP2) (ci := 5) (q0 := 0) rfl rfl, fun U9 hU hW => ⟨rfl, goM2 hP2 hD2 hK hU hW⟩⟩ rfl rfl hl.1 rfl (lv_room (Nat.le_of_ble_eq_true rfl)) dL_law_626 ⟨(show 100 + i + 1 ≤ 601024 by omega), (show 2400 + 6 * i + 6 ≤ 7293034 by omega)⟩) (fun r8 e8 => ?_)
  subst e8
  refine lv_iload hx hb dL_law_629 (lv_at hl 1 rfl) ?_
  have hth : pX6_thrown v2 = k9 := zAns_k hZB e9L
  refine lv_icmp_eq (tgt := 636) hx hb dL_law_631 (by decide) (fun c9 => ?_) (fun c9 => absurd hth c9)
  refine lv_iload hx hb dL_law_636 (lv_at hl 1 rfl) ?_
  refine lv_if_ne (tgt := 653) hx hb dL_law_638 (by decide) (fun c9 => ?_) (fun c9 => ?_)
  · skip
    refine lv_goto (tgt := 832) hx hb dL_law_653 (by decide) ?_
    exact K _ _ u9 v2 g9 hP hD hS (zAns_R hZB e9L) ls (lv_sub hl [2, 3, 4, 5, 6] rfl)
  · skip
    refine lv_aload_n hx hb dL_law_641 rfl (lv_at hl 5 rfl) ?_
    refine lv_iconst (v := (0 : Int32)) hx hb dL_law_642 (by decide) ?_
    refine va_lald hx hb hK hP 17 0 rfl rfl (inb_in (n := 1) (by decide)) dL_law_643 ?_
    refine lv_iload hx hb dL_law_644 (lv_at hl 0 rfl) ?_
    refine lv_i2l hx hb dL_law_646 rfl ?_
    refine W.lcmp hx hb dL_law_647 ?_
    refine lv_if_eq (tgt := 653) hx hb dL_law_648 (by decide) (fun c8 => ?_) (fun c8 => absurd ((lg_cmp_eq _ _).mpr (zAns_v (by decide) hZB e9L c9)) c8)
    refine lv_goto (tgt := 832) hx hb dL_law_653 (by decide) ?_
    exact K _ _ u9 v2 g9 hP hD hS (zAns_R hZB e9L) ls (lv_sub hl [2, 3, 4, 5, 6] rfl)
set_option maxHeartbeats 4000000 in
set_option maxRecDepth 100000 in
theorem lc_data {p : Program} {l : Launch} {e : Env} {s : State} {m : MethodId} {below : List Frame} {meth : Method} {c : Code} {D : va_G} {c4 : Nat → ClassId} {b L i : Nat} {xs : Nat → Int32} {x4 : Int32} {Z : CZ} {z : Nat → Nat} {o : Nat} (C0 : LCtx p l s m meth c b L xs D c4) (hZ : cok Z) (hi : i ≤ 2560) (hv0 : vp_in x4 L) (hv1 : vp_in (x4 + (1 : Int32)) L) (hv2 : vp_in (x4 + (2 : Int32)) L) (hv3 : vp_in (x4 + (3 : Int32)) L) (hv4 : vp_in (x4 + (4 : Int32)) L) (K : lKont p l e s m below meth c D c4 b x4 Z z o i) : lCase p l e s m below meth c D c4 b x4 Z z o i 656 := by
  obtain ⟨⟨hx, hb, hr, hml, hown, hts, hX, hbl, hlocks, hgv⟩, hK, hE, hN, hl0⟩ := C0
  intro H locs u v g hP hD hS hR ls hl
  have hA : ∀ q : Nat, s.heap.size ≤ q → LA s q := fun _ h => h
  have hbA : ¬ LA s b := Nat.not_le.mpr hbl
  refine lv_aload_n hx hb dL_law_656 rfl (lv_at hl 1 rfl) ?_
  refine lv_aload_n hx hb dL_law_657 rfl (lv_at hl 0 rfl) ?_
  refine lv_iload hx hb dL_law_658 (lv_at hl 4 rfl) ?_
  refine lv_iconst (v := (1 : Int32)) hx hb dL_law_660 (by decide) ?_
  refine lv_iadd hx hb dL_law_661 ?_
  refine va_sld hx hb hX hbl hbA hS hv1 dL_law_662 ?_
  refine lv_aload_n hx hb dL_law_663 rfl (lv_at hl 0 rfl) ?_
  refine lv_iload hx hb dL_law_664 (lv_at hl 4 rfl) ?_
  refine lv_iconst (v := (2 : Int32)) hx hb dL_law_666 (by decide) ?_
  refine lv_iadd hx hb dL_law_667 ?_
  refine va_sld hx hb hX hbl hbA hS hv2 dL_law_668 ?_
  refine lv_aload_n hx hb dL_law_669 rfl (lv_at hl 3 rfl) ?_
  obtain ⟨res, v2, b2, hc1, hc2, hZB⟩ := S_data hZ hR (xs (x4 + (1 : Int32)).toNatClampNeg) (xs (x4 + (2 : Int32)).toNatClampNeg)
  have hP2 : va_P D vwCl (mW c4 z v ++ (wO c4 o g ++ cW c4 Z u)) H := hP
  have hD2 : va_D (LA s) (mW c4 z v ++ (wO c4 o g ++ cW c4 Z u)) := hD
  have hFc := zfreeR hD2 hS hA
  refine va_calli (vx_runSW (As := [.ref (Zz Z 0), .int (xs (x4 + (1 : Int32)).toNatClampNeg), .int (xs (x4 + (2 : Int32)).toNatClampNeg), .ref o]) (rest := []) ⟨hx, hb, hml, hown, hts⟩ (lt_data l hl0 D c4 (va_A (wO c4 o g ++ cW c4 Z u) H.size) Z hZ u o g (xs (x4 + (1 : Int32)).toNatClampNeg) (xs (x4 + (2 : Int32)).toNatClampNeg) res hc1 (zBoth_k hZB (by decide))) (vx_cwSW (hh := [((0 : Nat), (9 : Nat), (12 : Nat), (15 : Nat)), ((0 : Nat), (9 : Nat), (16 : Nat), (25 : Nat)), ((0 : Nat), (9 : Nat), (20 : Nat), (13 : Nat))]) 4 hts (wzl_S zw_548 zw_549 zw_0 zw_550) rfl rfl rfl (by decide +kernel) ⟨Nat.le_of_ble_eq_true rfl, Nat.le_of_ble_eq_true rfl⟩) ⟨fbL, fun U9 hU hW => ⟨rfl, goL2 hP2 hD2 hK hA hE hN hS hU hW⟩⟩ rfl rfl hl.1 rfl (lv_room (Nat.le_of_ble_eq_true rfl)) dL_law_670 ⟨(show 100 + i + 1 ≤ 601024 by omega), (show 2400 + 6 * i + 6 ≤ 7293034 by omega)⟩) hS (fun q _ h => hFc q h) hFc (fun k9 w9 t H1 locs ht hvm e9L hB hz1 hk1 hS => ?_)
  obtain ⟨u9, g9⟩ := w9
  obtain ⟨hP1, hD1, -, -⟩ := hB
  rw [ht] at hP1
  obtain ⟨hP, hD⟩ := zjoinR hP2 hD2 hk1 hFc hP1 hD1
  generalize H1 = H at hP hS ⊢
  have hP : va_P D vwCl ((mW c4 z v ++ wO c4 o g9) ++ cW c4 Z u9) H := hP
  have hD : va_D (LA s) ((mW c4 z v ++ wO c4 o g9) ++ cW c4 Z u9) := hD
  refine lv_istore (lv' := [(5, .int k9), (0, .ref b), (1, .ref (Zz Z 0)), (2, .ref (z 0)), (3, .ref o), (4, .int x4)]) hx hb dL_law_673 hl (by decide) rfl (fun ls hl => ?_)
  refine lv_aload_n hx hb dL_law_675 rfl (lv_at hl 3 rfl) ?_
  refine lv_aload_n hx hb dL_law_676 rfl (lv_at hl 1 rfl) ?_
  refine lv_iload hx hb dL_law_677 (lv_at hl 5 rfl) ?_
  refine lv_iconst (v := (1 : Int32)) hx hb dL_law_679 (by decide) ?_
  refine lv_iadd hx hb dL_law_680 ?_
  refine va_sld hx hb hX hbl hbA hS hv1 dL_law_681 ?_
  refine lv_aload_n hx hb dL_law_682 rfl (lv_at hl 1 rfl) ?_
  refine lv_iload hx hb dL_law_683 (lv_at hl 5 rfl) ?_
  refine lv_iconst (v := (2 : Int32)) hx hb dL_law_685 (by decide) ?_
  refine lv_iadd hx hb dL_law_686 ?_
  refine va_sld hx hb hX hbl hbA hS hv2 dL_law_687 ?_
  have hP2 : va_P D vwCl (mW c4 z v ++ (wO c4 o g9 ++ cW c4 Z u9)) H := hP
  have hD2 : va_D (LA s) (mW c4 z v ++ (wO c4 o g9 ++ cW c4 Z u9)) := hD
  have hFc := zfreeL hD2 hS hA
  refine va_calll (va_runV (As := [.int (xs (x4 + (1 : Int32)).toNatClampNeg), .int (xs (x4 + (2 : Int32)).toNatClampNeg)]) (rest := []) ⟨hx, hb, hml, hown, hts⟩ (ct_X6_data l D c4 (va_A (mW c4 z v) H.size) z v (xs (x4 + (1 : Int32)).toNatClampNeg) (xs (x4 + (2 : Int32)).toNatClampNeg) _ hc2) (cwV 2 hts (wzl_V zw_844 zw_845 zw_846 zw_6 zw_847) rfl rfl rfl (by decide +kernel) ⟨Nat.le_of_ble_eq_true rfl, Nat.le_of_ble_eq_true rfl⟩) ⟨fbM, va_recv hK (va_P_l hP2) (ci := 5) (q0 := 0) rfl rfl, fun U9 hU hW => ⟨rfl, goM2 hP2 hD2 hK hU hW⟩⟩ rfl rfl hl.1 rfl (lv_room (Nat.le_of_ble_eq_true rfl)) dL_law_688 ⟨(show 100 + i + 1 ≤ 601024 by omega), (show 2400 + 6 * i + 6 ≤ 7293034 by omega)⟩) hS (fun q _ h => hFc q h) hFc (fun b9 v9 t H1 locs ht hvm e9 hB hz1 hk1 hS => ?_)
  cases e9
  obtain ⟨hP1, hD1, -, -⟩ := hB
  rw [ht] at hP1
  obtain ⟨hP, hD⟩ := zjoinL hP2 hD2 hk1 hFc hP1 hD1
  generalize H1 = H at hP hS ⊢
  have hP : va_P D vwCl ((mW c4 z v2 ++ wO c4 o g9) ++ cW c4 Z u9) H := hP
  have hD : va_D (LA s) ((mW c4 z v2 ++ wO c4 o g9) ++ cW c4 Z u9) := hD
  refine lv_lstore (lv' := [(6, .long b2), (5, .int k9), (0, .ref b), (1, .ref (Zz Z 0)), (2, .ref (z 0)), (3, .ref o), (4, .int x4)]) hx hb dL_law_691 hl (by decide) rfl (fun ls hl => ?_)
  refine lv_aload_n hx hb dL_law_693 rfl (lv_at hl 4 rfl) ?_
  have hP2 : va_P D vwCl (mW c4 z v2 ++ (wO c4 o g9 ++ cW c4 Z u9)) H := hP
  have hD2 : va_D (LA s) (mW c4 z v2 ++ (wO c4 o g9 ++ cW c4 Z u9)) := hD
  refine vp_callSi (W.runV (As := []) (rest := []) ⟨hx, hb, hml, hown, hts⟩ (ct_X6_thrown l D c4 (va_A (mW c4 z v2) H.size) z v2 _ rfl) (cwV 0 hts (wzl_V zw_738 zw_739 zw_740 zw_6 zw_741) rfl rfl rfl (by decide +kernel) ⟨Nat.le_of_ble_eq_true rfl, Nat.le_of_ble_eq_true rfl⟩) ⟨fbM, va_recv hK (va_P_l hP2) (ci := 5) (q0 := 0) rfl rfl, fun U9 hU hW => ⟨rfl, goM2 hP2 hD2 hK hU hW⟩⟩ rfl rfl hl.1 rfl (lv_room (Nat.le_of_ble_eq_true rfl)) dL_law_694 ⟨(show 100 + i + 1 ≤ 601024 by omega), (show 2400 + 6 * i + 6 ≤ 7293034 by omega)⟩) (fun r8 e8 => ?_)
  subst e8
  refine lv_iload hx hb dL_law_697 (lv_at hl 1 rfl) ?_
  have hth : pX6_thrown v2 = k9 := zAns_k hZB e9L
  refine lv_icmp_eq (tgt := 704) hx hb dL_law_699 (by decide) (fun c9 => ?_) (fun c9 => absurd hth c9)
  refine lv_iload hx hb dL_law_704 (lv_at hl 1 rfl) ?_
  refine lv_if_ne (tgt := 720) hx hb dL_law_706 (by decide) (fun c9 => ?_) (fun c9 => ?_)
  · skip
    refine lv_goto (tgt := 832) hx hb dL_law_720 (by decide) ?_
    exact K _ _ u9 v2 g9 hP hD hS (zAns_R hZB e9L) ls (lv_sub hl [2, 3, 4, 5, 6] rfl)
  · skip
    refine lv_aload_n hx hb dL_law_709 rfl (lv_at hl 5 rfl) ?_
    refine lv_iconst (v := (0 : Int32)) hx hb dL_law_710 (by decide) ?_
    refine va_lald hx hb hK hP 17 0 rfl rfl (inb_in (n := 1) (by decide)) dL_law_711 ?_
    refine lv_lload hx hb dL_law_712 (lv_at hl 0 rfl) ?_
    refine W.lcmp hx hb dL_law_714 ?_
    refine lv_if_eq (tgt := 720) hx hb dL_law_715 (by decide) (fun c8 => ?_) (fun c8 => absurd ((lg_cmp_eq _ _).mpr (zAns_v (by decide) hZB e9L c9)) c8)
    refine lv_goto (tgt := 832) hx hb dL_law_720 (by decide) ?_
    exact K _ _ u9 v2 g9 hP hD hS (zAns_R hZB e9L) ls (lv_sub hl [2, 3, 4, 5, 6] rfl)
set_option maxHeartbeats 4000000 in
set_option maxRecDepth 100000 in
theorem lc_form {p : Program} {l : Launch} {e : Env} {s : State} {m : MethodId} {below : List Frame} {meth : Method} {c : Code} {D : va_G} {c4 : Nat → ClassId} {b L i : Nat} {xs : Nat → Int32} {x4 : Int32} {Z : CZ} {z : Nat → Nat} {o : Nat} (C0 : LCtx p l s m meth c b L xs D c4) (hZ : cok Z) (hi : i ≤ 2560) (hv0 : vp_in x4 L) (hv1 : vp_in (x4 + (1 : Int32)) L) (hv2 : vp_in (x4 + (2 : Int32)) L) (hv3 : vp_in (x4 + (3 : Int32)) L) (hv4 : vp_in (x4 + (4 : Int32)) L) (K : lKont p l e s m below meth c D c4 b x4 Z z o i) : lCase p l e s m below meth c D c4 b x4 Z z o i 723 := by
  obtain ⟨⟨hx, hb, hr, hml, hown, hts, hX, hbl, hlocks, hgv⟩, hK, hE, hN, hl0⟩ := C0
  intro H locs u v g hP hD hS hR ls hl
  have hA : ∀ q : Nat, s.heap.size ≤ q → LA s q := fun _ h => h
  have hbA : ¬ LA s b := Nat.not_le.mpr hbl
  refine lv_aload_n hx hb dL_law_723 rfl (lv_at hl 1 rfl) ?_
  refine lv_aload_n hx hb dL_law_724 rfl (lv_at hl 3 rfl) ?_
  obtain ⟨res, v2, b2, hc1, hc2, hZB⟩ := S_form hZ hR
  have hP2 : va_P D vwCl (mW c4 z v ++ (wO c4 o g ++ cW c4 Z u)) H := hP
  have hD2 : va_D (LA s) (mW c4 z v ++ (wO c4 o g ++ cW c4 Z u)) := hD
  have hFc := zfreeR hD2 hS hA
  refine va_calli (vx_runSW (As := [.ref (Zz Z 0), .ref o]) (rest := []) ⟨hx, hb, hml, hown, hts⟩ (lt_form l hl0 D c4 (va_A (wO c4 o g ++ cW c4 Z u) H.size) Z hZ u o g res hc1 (zBoth_k hZB (by decide))) (vx_cwSW (hh := [((0 : Nat), (8 : Nat), (11 : Nat), (13 : Nat)), ((0 : Nat), (8 : Nat), (14 : Nat), (15 : Nat)), ((0 : Nat), (8 : Nat), (17 : Nat), (17 : Nat)), ((0 : Nat), (8 : Nat), (20 : Nat), (19 : Nat))]) 2 hts (wzl_S zw_565 zw_566 zw_0 zw_567) rfl rfl rfl (by decide +kernel) ⟨Nat.le_of_ble_eq_true rfl, Nat.le_of_ble_eq_true rfl⟩) ⟨fbL, fun U9 hU hW => ⟨rfl, goL2 hP2 hD2 hK hA hE hN hS hU hW⟩⟩ rfl rfl hl.1 rfl (lv_room (Nat.le_of_ble_eq_true rfl)) dL_law_725 ⟨(show 100 + i + 1 ≤ 601024 by omega), (show 2400 + 6 * i + 6 ≤ 7293034 by omega)⟩) hS (fun q _ h => hFc q h) hFc (fun k9 w9 t H1 locs ht hvm e9L hB hz1 hk1 hS => ?_)
  obtain ⟨u9, g9⟩ := w9
  obtain ⟨hP1, hD1, -, -⟩ := hB
  rw [ht] at hP1
  obtain ⟨hP, hD⟩ := zjoinR hP2 hD2 hk1 hFc hP1 hD1
  generalize H1 = H at hP hS ⊢
  have hP : va_P D vwCl ((mW c4 z v ++ wO c4 o g9) ++ cW c4 Z u9) H := hP
  have hD : va_D (LA s) ((mW c4 z v ++ wO c4 o g9) ++ cW c4 Z u9) := hD
  refine lv_istore (lv' := [(5, .int k9), (0, .ref b), (1, .ref (Zz Z 0)), (2, .ref (z 0)), (3, .ref o), (4, .int x4)]) hx hb dL_law_728 hl (by decide) rfl (fun ls hl => ?_)
  refine lv_aload_n hx hb dL_law_730 rfl (lv_at hl 3 rfl) ?_
  have hP2 : va_P D vwCl (mW c4 z v ++ (wO c4 o g9 ++ cW c4 Z u9)) H := hP
  have hD2 : va_D (LA s) (mW c4 z v ++ (wO c4 o g9 ++ cW c4 Z u9)) := hD
  have hFc := zfreeL hD2 hS hA
  refine va_calli (va_runV (As := []) (rest := []) ⟨hx, hb, hml, hown, hts⟩ (ct_X6_form l D c4 (va_A (mW c4 z v) H.size) z v _ hc2) (cwV 0 hts (wzl_V zw_848 zw_849 zw_850 zw_6 zw_851) rfl rfl rfl (by decide +kernel) ⟨Nat.le_of_ble_eq_true rfl, Nat.le_of_ble_eq_true rfl⟩) ⟨fbM, va_recv hK (va_P_l hP2) (ci := 5) (q0 := 0) rfl rfl, fun U9 hU hW => ⟨rfl, goM2 hP2 hD2 hK hU hW⟩⟩ rfl rfl hl.1 rfl (lv_room (Nat.le_of_ble_eq_true rfl)) dL_law_731 ⟨(show 100 + i + 1 ≤ 601024 by omega), (show 2400 + 6 * i + 6 ≤ 7293034 by omega)⟩) hS (fun q _ h => hFc q h) hFc (fun b9 v9 t H1 locs ht hvm e9 hB hz1 hk1 hS => ?_)
  cases e9
  obtain ⟨hP1, hD1, -, -⟩ := hB
  rw [ht] at hP1
  obtain ⟨hP, hD⟩ := zjoinL hP2 hD2 hk1 hFc hP1 hD1
  generalize H1 = H at hP hS ⊢
  have hP : va_P D vwCl ((mW c4 z v2 ++ wO c4 o g9) ++ cW c4 Z u9) H := hP
  have hD : va_D (LA s) ((mW c4 z v2 ++ wO c4 o g9) ++ cW c4 Z u9) := hD
  refine lv_istore (lv' := [(6, .int b2), (5, .int k9), (0, .ref b), (1, .ref (Zz Z 0)), (2, .ref (z 0)), (3, .ref o), (4, .int x4)]) hx hb dL_law_734 hl (by decide) rfl (fun ls hl => ?_)
  refine lv_aload_n hx hb dL_law_736 rfl (lv_at hl 4 rfl) ?_
  have hP2 : va_P D vwCl (mW c4 z v2 ++ (wO c4 o g9 ++ cW c4 Z u9)) H := hP
  have hD2 : va_D (LA s) (mW c4 z v2 ++ (wO c4 o g9 ++ cW c4 Z u9)) := hD
  refine vp_callSi (W.runV (As := []) (rest := []) ⟨hx, hb, hml, hown, hts⟩ (ct_X6_thrown l D c4 (va_A (mW c4 z v2) H.size) z v2 _ rfl) (cwV 0 hts (wzl_V zw_738 zw_739 zw_740 zw_6 zw_741) rfl rfl rfl (by decide +kernel) ⟨Nat.le_of_ble_eq_true rfl, Nat.le_of_ble_eq_true rfl⟩) ⟨fbM, va_recv hK (va_P_l hP2) (ci := 5) (q0 := 0) rfl rfl, fun U9 hU hW => ⟨rfl, goM2 hP2 hD2 hK hU hW⟩⟩ rfl rfl hl.1 rfl (lv_room (Nat.le_of_ble_eq_true rfl)) dL_law_737 ⟨(show 100 + i + 1 ≤ 601024 by omega), (show 2400 + 6 * i + 6 ≤ 7293034 by omega)⟩) (fun r8 e8 => ?_)
  subst e8
  refine lv_iload hx hb dL_law_740 (lv_at hl 1 rfl) ?_
  have hth : pX6_thrown v2 = k9 := zAns_k hZB e9L
  refine lv_icmp_eq (tgt := 747) hx hb dL_law_742 (by decide) (fun c9 => ?_) (fun c9 => absurd hth c9)
  refine lv_iload hx hb dL_law_747 (lv_at hl 1 rfl) ?_
  refine lv_if_ne (tgt := 764) hx hb dL_law_749 (by decide) (fun c9 => ?_) (fun c9 => ?_)
  · skip
    refine lv_goto (tgt := 832) hx hb dL_law_764 (by decide) ?_
    exact K _ _ u9 v2 g9 hP hD hS (zAns_R hZB e9L) ls (lv_sub hl [2, 3, 4, 5, 6] rfl)
  · skip
    refine lv_aload_n hx hb dL_law_752 rfl (lv_at hl 5 rfl) ?_
    refine lv_iconst (v := (0 : Int32)) hx hb dL_law_753 (by decide) ?_
    refine va_lald hx hb hK hP 17 0 rfl rfl (inb_in (n := 1) (by decide)) dL_law_754 ?_
    refine lv_iload hx hb dL_law_755 (lv_at hl 0 rfl) ?_
    refine lv_i2l hx hb dL_law_757 rfl ?_
    refine W.lcmp hx hb dL_law_758 ?_
    refine lv_if_eq (tgt := 764) hx hb dL_law_759 (by decide) (fun c8 => ?_) (fun c8 => absurd ((lg_cmp_eq _ _).mpr (zAns_v (by decide) hZB e9L c9)) c8)
    refine lv_goto (tgt := 832) hx hb dL_law_764 (by decide) ?_
    exact K _ _ u9 v2 g9 hP hD hS (zAns_R hZB e9L) ls (lv_sub hl [2, 3, 4, 5, 6] rfl)
set_option maxHeartbeats 4000000 in
set_option maxRecDepth 100000 in
theorem lc_formed {p : Program} {l : Launch} {e : Env} {s : State} {m : MethodId} {below : List Frame} {meth : Method} {c : Code} {D : va_G} {c4 : Nat → ClassId} {b L i : Nat} {xs : Nat → Int32} {x4 : Int32} {Z : CZ} {z : Nat → Nat} {o : Nat} (C0 : LCtx p l s m meth c b L xs D c4) (hZ : cok Z) (hi : i ≤ 2560) (hv0 : vp_in x4 L) (hv1 : vp_in (x4 + (1 : Int32)) L) (hv2 : vp_in (x4 + (2 : Int32)) L) (hv3 : vp_in (x4 + (3 : Int32)) L) (hv4 : vp_in (x4 + (4 : Int32)) L) (K : lKont p l e s m below meth c D c4 b x4 Z z o i) : lCase p l e s m below meth c D c4 b x4 Z z o i 767 := by
  obtain ⟨⟨hx, hb, hr, hml, hown, hts, hX, hbl, hlocks, hgv⟩, hK, hE, hN, hl0⟩ := C0
  intro H locs u v g hP hD hS hR ls hl
  have hA : ∀ q : Nat, s.heap.size ≤ q → LA s q := fun _ h => h
  have hbA : ¬ LA s b := Nat.not_le.mpr hbl
  refine lv_aload_n hx hb dL_law_767 rfl (lv_at hl 1 rfl) ?_
  refine lv_aload_n hx hb dL_law_768 rfl (lv_at hl 0 rfl) ?_
  refine lv_iload hx hb dL_law_769 (lv_at hl 4 rfl) ?_
  refine lv_iconst (v := (1 : Int32)) hx hb dL_law_771 (by decide) ?_
  refine lv_iadd hx hb dL_law_772 ?_
  refine va_sld hx hb hX hbl hbA hS hv1 dL_law_773 ?_
  obtain ⟨v2, r2, hc1, hc2, hR2⟩ := S_formed hZ hR (xs (x4 + (1 : Int32)).toNatClampNeg)
  refine vp_callSl (W.runV (As := [.int (xs (x4 + (1 : Int32)).toNatClampNeg)]) (rest := []) ⟨hx, hb, hml, hown, hts⟩ (ct_X5_formed l D c4 (va_A (cW c4 Z u) H.size) Z hZ u (xs (x4 + (1 : Int32)).toNatClampNeg) _ hc1) (cwV 1 hts (wzl_V zw_212 zw_213 zw_214 zw_1 zw_215) rfl rfl rfl (by decide +kernel) ⟨Nat.le_of_ble_eq_true rfl, Nat.le_of_ble_eq_true rfl⟩) ⟨fbC, va_recv hK (va_P_r hP) (ci := 4) (q0 := 0) rfl rfl, fun U9 hU hW => ⟨rfl, goC2 hP hD hK hA hE hS hU hW⟩⟩ rfl rfl hl.1 rfl (lv_room (Nat.le_of_ble_eq_true rfl)) dL_law_774 ⟨(show 100 + i + 0 ≤ 601024 by omega), (show 2400 + 6 * i + 0 ≤ 7293034 by omega)⟩) (fun r9 e9 => ?_)
  subst e9
  refine lv_aload_n hx hb dL_law_777 rfl (lv_at hl 2 rfl) ?_
  refine lv_aload_n hx hb dL_law_778 rfl (lv_at hl 0 rfl) ?_
  refine lv_iload hx hb dL_law_779 (lv_at hl 4 rfl) ?_
  refine lv_iconst (v := (1 : Int32)) hx hb dL_law_781 (by decide) ?_
  refine lv_iadd hx hb dL_law_782 ?_
  refine va_sld hx hb hX hbl hbA hS hv1 dL_law_783 ?_
  have hP2 : va_P D vwCl (mW c4 z v ++ (wO c4 o g ++ cW c4 Z u)) H := hP
  have hD2 : va_D (LA s) (mW c4 z v ++ (wO c4 o g ++ cW c4 Z u)) := hD
  have hFc := zfreeL hD2 hS hA
  refine va_calll (va_runV (As := [.int (xs (x4 + (1 : Int32)).toNatClampNeg)]) (rest := [.long r9]) ⟨hx, hb, hml, hown, hts⟩ (ct_X6_formed l D c4 (va_A (mW c4 z v) H.size) z v (xs (x4 + (1 : Int32)).toNatClampNeg) _ hc2) (cwV 1 hts (wzl_V zw_886 zw_887 zw_888 zw_6 zw_889) rfl rfl rfl (by decide +kernel) ⟨Nat.le_of_ble_eq_true rfl, Nat.le_of_ble_eq_true rfl⟩) ⟨fbM, va_recv hK (va_P_l hP2) (ci := 5) (q0 := 0) rfl rfl, fun U9 hU hW => ⟨rfl, goM2 hP2 hD2 hK hU hW⟩⟩ rfl rfl hl.1 rfl (lv_room (Nat.le_of_ble_eq_true rfl)) dL_law_784 ⟨(show 100 + i + 0 ≤ 601024 by omega), (show 2400 + 6 * i + 0 ≤ 7293034 by omega)⟩) hS (fun q _ h => hFc q h) hFc (fun b9 v9 t H1 locs ht hvm e9 hB hz1 hk1 hS => ?_)
  cases e9
  obtain ⟨hP1, hD1, -, -⟩ := hB
  rw [ht] at hP1
  obtain ⟨hP, hD⟩ := zjoinL hP2 hD2 hk1 hFc hP1 hD1
  generalize H1 = H at hP hS ⊢
  have hP : va_P D vwCl ((mW c4 z v2 ++ wO c4 o g) ++ cW c4 Z u) H := hP
  have hD : va_D (LA s) ((mW c4 z v2 ++ wO c4 o g) ++ cW c4 Z u) := hD
  refine W.lcmp hx hb dL_law_787 ?_
  refine lv_if_eq (tgt := 832) hx hb dL_law_788 (by decide) (fun c8 => ?_) (fun c8 => absurd ((lg_cmp_eq _ _).mpr rfl) c8)
  refine W.widen (k := 100 + i + 1) (n := 2400 + 6 * i + 6) (by omega) (by omega) ?_
  exact K _ _ u v2 g hP hD hS hR2 ls (lv_sub hl [0, 1, 2, 3, 4] rfl)
set_option maxHeartbeats 4000000 in
set_option maxRecDepth 100000 in
theorem lc_adopt {p : Program} {l : Launch} {e : Env} {s : State} {m : MethodId} {below : List Frame} {meth : Method} {c : Code} {D : va_G} {c4 : Nat → ClassId} {b L i : Nat} {xs : Nat → Int32} {x4 : Int32} {Z : CZ} {z : Nat → Nat} {o : Nat} (C0 : LCtx p l s m meth c b L xs D c4) (hZ : cok Z) (hi : i ≤ 2560) (hv0 : vp_in x4 L) (hv1 : vp_in (x4 + (1 : Int32)) L) (hv2 : vp_in (x4 + (2 : Int32)) L) (hv3 : vp_in (x4 + (3 : Int32)) L) (hv4 : vp_in (x4 + (4 : Int32)) L) (K : lKont p l e s m below meth c D c4 b x4 Z z o i) : lCase p l e s m below meth c D c4 b x4 Z z o i 793 := by
  obtain ⟨⟨hx, hb, hr, hml, hown, hts, hX, hbl, hlocks, hgv⟩, hK, hE, hN, hl0⟩ := C0
  intro H locs u v g hP hD hS hR ls hl
  have hA : ∀ q : Nat, s.heap.size ≤ q → LA s q := fun _ h => h
  have hbA : ¬ LA s b := Nat.not_le.mpr hbl
  refine lv_aload_n hx hb dL_law_793 rfl (lv_at hl 1 rfl) ?_
  obtain ⟨u2, v2, r2, hc1, hc2, hR2⟩ := S_adopt hZ hR
  have hFc := zfreeR hD hS hA
  refine va_calli (va_runV (As := []) (rest := []) ⟨hx, hb, hml, hown, hts⟩ (ct_X5_adopt l D c4 (va_A (cW c4 Z u) H.size) Z hZ u _ hc1) (cwV 0 hts (wzl_V zw_220 zw_221 zw_222 zw_1 zw_223) rfl rfl rfl (by decide +kernel) ⟨Nat.le_of_ble_eq_true rfl, Nat.le_of_ble_eq_true rfl⟩) ⟨fbC, va_recv hK (va_P_r hP) (ci := 4) (q0 := 0) rfl rfl, fun U9 hU hW => ⟨rfl, goC2 hP hD hK hA hE hS hU hW⟩⟩ rfl rfl hl.1 rfl (lv_room (Nat.le_of_ble_eq_true rfl)) dL_law_794 ⟨(show 100 + i + 0 ≤ 601024 by omega), (show 2400 + 6 * i + 0 ≤ 7293034 by omega)⟩) hS (fun q _ h => hFc q h) hFc (fun r9 u9 t H1 locs ht hvm e9 hB hz1 hk1 hS => ?_)
  cases e9
  obtain ⟨hP1, hD1, -, -⟩ := hB
  rw [ht] at hP1
  obtain ⟨hP, hD⟩ := zjoinR hP hD hk1 hFc hP1 hD1
  generalize H1 = H at hP hS ⊢
  have hP : va_P D vwCl ((mW c4 z v ++ wO c4 o g) ++ cW c4 Z u2) H := hP
  have hD : va_D (LA s) ((mW c4 z v ++ wO c4 o g) ++ cW c4 Z u2) := hD
  refine lv_aload_n hx hb dL_law_797 rfl (lv_at hl 2 rfl) ?_
  have hP2 : va_P D vwCl (mW c4 z v ++ (wO c4 o g ++ cW c4 Z u2)) H := hP
  have hD2 : va_D (LA s) (mW c4 z v ++ (wO c4 o g ++ cW c4 Z u2)) := hD
  have hFc := zfreeL hD2 hS hA
  refine va_calli (va_runV (As := []) (rest := [.int r2]) ⟨hx, hb, hml, hown, hts⟩ (ct_X6_adopt l D c4 (va_A (mW c4 z v) H.size) z v _ hc2) (cwV 0 hts (wzl_V zw_890 zw_891 zw_892 zw_6 zw_893) rfl rfl rfl (by decide +kernel) ⟨Nat.le_of_ble_eq_true rfl, Nat.le_of_ble_eq_true rfl⟩) ⟨fbM, va_recv hK (va_P_l hP2) (ci := 5) (q0 := 0) rfl rfl, fun U9 hU hW => ⟨rfl, goM2 hP2 hD2 hK hU hW⟩⟩ rfl rfl hl.1 rfl (lv_room (Nat.le_of_ble_eq_true rfl)) dL_law_798 ⟨(show 100 + i + 0 ≤ 601024 by omega), (show 2400 + 6 * i + 0 ≤ 7293034 by omega)⟩) hS (fun q _ h => hFc q h) hFc (fun b9 v9 t H1 locs ht hvm e9 hB hz1 hk1 hS => ?_)
  cases e9
  obtain ⟨hP1, hD1, -, -⟩ := hB
  rw [ht] at hP1
  obtain ⟨hP, hD⟩ := zjoinL hP2 hD2 hk1 hFc hP1 hD1
  generalize H1 = H at hP hS ⊢
  have hP : va_P D vwCl ((mW c4 z v2 ++ wO c4 o g) ++ cW c4 Z u2) H := hP
  have hD : va_D (LA s) ((mW c4 z v2 ++ wO c4 o g) ++ cW c4 Z u2) := hD
  refine lv_icmp_eq (tgt := 832) hx hb dL_law_801 (by decide) (fun c9 => ?_) (fun c9 => absurd rfl c9)
  refine W.widen (k := 100 + i + 1) (n := 2400 + 6 * i + 6) (by omega) (by omega) ?_
  exact K _ _ u2 v2 g hP hD hS hR2 ls (lv_sub hl [0, 1, 2, 3, 4] rfl)
set_option maxHeartbeats 4000000 in
set_option maxRecDepth 100000 in
theorem lc_keep {p : Program} {l : Launch} {e : Env} {s : State} {m : MethodId} {below : List Frame} {meth : Method} {c : Code} {D : va_G} {c4 : Nat → ClassId} {b L i : Nat} {xs : Nat → Int32} {x4 : Int32} {Z : CZ} {z : Nat → Nat} {o : Nat} (C0 : LCtx p l s m meth c b L xs D c4) (hZ : cok Z) (hi : i ≤ 2560) (hv0 : vp_in x4 L) (hv1 : vp_in (x4 + (1 : Int32)) L) (hv2 : vp_in (x4 + (2 : Int32)) L) (hv3 : vp_in (x4 + (3 : Int32)) L) (hv4 : vp_in (x4 + (4 : Int32)) L) (K : lKont p l e s m below meth c D c4 b x4 Z z o i) : lCase p l e s m below meth c D c4 b x4 Z z o i 806 := by
  obtain ⟨⟨hx, hb, hr, hml, hown, hts, hX, hbl, hlocks, hgv⟩, hK, hE, hN, hl0⟩ := C0
  intro H locs u v g hP hD hS hR ls hl
  have hA : ∀ q : Nat, s.heap.size ≤ q → LA s q := fun _ h => h
  have hbA : ¬ LA s b := Nat.not_le.mpr hbl
  refine lv_aload_n hx hb dL_law_806 rfl (lv_at hl 1 rfl) ?_
  obtain ⟨u2, v2, r2, hc1, hc2, hR2⟩ := S_keep hZ hR
  have hFc := zfreeR hD hS hA
  refine va_calli (va_runV (As := []) (rest := []) ⟨hx, hb, hml, hown, hts⟩ (ct_X5_keep l D c4 (va_A (cW c4 Z u) H.size) Z hZ u _ hc1) (cwV 0 hts (wzl_V zw_231 zw_232 zw_233 zw_1 zw_234) rfl rfl rfl (by decide +kernel) ⟨Nat.le_of_ble_eq_true rfl, Nat.le_of_ble_eq_true rfl⟩) ⟨fbC, va_recv hK (va_P_r hP) (ci := 4) (q0 := 0) rfl rfl, fun U9 hU hW => ⟨rfl, goC2 hP hD hK hA hE hS hU hW⟩⟩ rfl rfl hl.1 rfl (lv_room (Nat.le_of_ble_eq_true rfl)) dL_law_807 ⟨(show 100 + i + 0 ≤ 601024 by omega), (show 2400 + 6 * i + 0 ≤ 7293034 by omega)⟩) hS (fun q _ h => hFc q h) hFc (fun r9 u9 t H1 locs ht hvm e9 hB hz1 hk1 hS => ?_)
  cases e9
  obtain ⟨hP1, hD1, -, -⟩ := hB
  rw [ht] at hP1
  obtain ⟨hP, hD⟩ := zjoinR hP hD hk1 hFc hP1 hD1
  generalize H1 = H at hP hS ⊢
  have hP : va_P D vwCl ((mW c4 z v ++ wO c4 o g) ++ cW c4 Z u2) H := hP
  have hD : va_D (LA s) ((mW c4 z v ++ wO c4 o g) ++ cW c4 Z u2) := hD
  refine lv_aload_n hx hb dL_law_810 rfl (lv_at hl 2 rfl) ?_
  have hP2 : va_P D vwCl (mW c4 z v ++ (wO c4 o g ++ cW c4 Z u2)) H := hP
  have hD2 : va_D (LA s) (mW c4 z v ++ (wO c4 o g ++ cW c4 Z u2)) := hD
  have hFc := zfreeL hD2 hS hA
  refine va_calli (va_runV (As := []) (rest := [.int r2]) ⟨hx, hb, hml, hown, hts⟩ (ct_X6_keep l D c4 (va_A (mW c4 z v) H.size) z v _ hc2) (cwV 0 hts (wzl_V zw_894 zw_895 zw_896 zw_6 zw_897) rfl rfl rfl (by decide +kernel) ⟨Nat.le_of_ble_eq_true rfl, Nat.le_of_ble_eq_true rfl⟩) ⟨fbM, va_recv hK (va_P_l hP2) (ci := 5) (q0 := 0) rfl rfl, fun U9 hU hW => ⟨rfl, goM2 hP2 hD2 hK hU hW⟩⟩ rfl rfl hl.1 rfl (lv_room (Nat.le_of_ble_eq_true rfl)) dL_law_811 ⟨(show 100 + i + 0 ≤ 601024 by omega), (show 2400 + 6 * i + 0 ≤ 7293034 by omega)⟩) hS (fun q _ h => hFc q h) hFc (fun b9 v9 t H1 locs ht hvm e9 hB hz1 hk1 hS => ?_)
  cases e9
  obtain ⟨hP1, hD1, -, -⟩ := hB
  rw [ht] at hP1
  obtain ⟨hP, hD⟩ := zjoinL hP2 hD2 hk1 hFc hP1 hD1
  generalize H1 = H at hP hS ⊢
  have hP : va_P D vwCl ((mW c4 z v2 ++ wO c4 o g) ++ cW c4 Z u2) H := hP
  have hD : va_D (LA s) ((mW c4 z v2 ++ wO c4 o g) ++ cW c4 Z u2) := hD
  refine lv_icmp_eq (tgt := 832) hx hb dL_law_814 (by decide) (fun c9 => ?_) (fun c9 => absurd rfl c9)
  refine W.widen (k := 100 + i + 1) (n := 2400 + 6 * i + 6) (by omega) (by omega) ?_
  exact K _ _ u2 v2 g hP hD hS hR2 ls (lv_sub hl [0, 1, 2, 3, 4] rfl)
set_option maxHeartbeats 4000000 in
set_option maxRecDepth 100000 in
theorem lc_same {p : Program} {l : Launch} {e : Env} {s : State} {m : MethodId} {below : List Frame} {meth : Method} {c : Code} {D : va_G} {c4 : Nat → ClassId} {b L i : Nat} {xs : Nat → Int32} {x4 : Int32} {Z : CZ} {z : Nat → Nat} {o : Nat} (C0 : LCtx p l s m meth c b L xs D c4) (hZ : cok Z) (hi : i ≤ 2560) (hv0 : vp_in x4 L) (hv1 : vp_in (x4 + (1 : Int32)) L) (hv2 : vp_in (x4 + (2 : Int32)) L) (hv3 : vp_in (x4 + (3 : Int32)) L) (hv4 : vp_in (x4 + (4 : Int32)) L) (K : lKont p l e s m below meth c D c4 b x4 Z z o i) : lCase p l e s m below meth c D c4 b x4 Z z o i 819 := by
  obtain ⟨⟨hx, hb, hr, hml, hown, hts, hX, hbl, hlocks, hgv⟩, hK, hE, hN, hl0⟩ := C0
  intro H locs u v g hP hD hS hR ls hl
  have hA : ∀ q : Nat, s.heap.size ≤ q → LA s q := fun _ h => h
  have hbA : ¬ LA s b := Nat.not_le.mpr hbl
  refine lv_aload_n hx hb dL_law_819 rfl (lv_at hl 1 rfl) ?_
  obtain ⟨v2, r2, hc1, hc2, hR2⟩ := S_same hZ hR
  refine vp_callSi (W.runV (As := []) (rest := []) ⟨hx, hb, hml, hown, hts⟩ (ct_X5_same l D c4 (va_A (cW c4 Z u) H.size) Z hZ u _ hc1) (cwV 0 hts (wzl_V zw_235 zw_236 zw_237 zw_1 zw_238) rfl rfl rfl (by decide +kernel) ⟨Nat.le_of_ble_eq_true rfl, Nat.le_of_ble_eq_true rfl⟩) ⟨fbC, va_recv hK (va_P_r hP) (ci := 4) (q0 := 0) rfl rfl, fun U9 hU hW => ⟨rfl, goC2 hP hD hK hA hE hS hU hW⟩⟩ rfl rfl hl.1 rfl (lv_room (Nat.le_of_ble_eq_true rfl)) dL_law_820 ⟨(show 100 + i + 0 ≤ 601024 by omega), (show 2400 + 6 * i + 0 ≤ 7293034 by omega)⟩) (fun r9 e9 => ?_)
  subst e9
  refine lv_aload_n hx hb dL_law_823 rfl (lv_at hl 2 rfl) ?_
  have hP2 : va_P D vwCl (mW c4 z v ++ (wO c4 o g ++ cW c4 Z u)) H := hP
  have hD2 : va_D (LA s) (mW c4 z v ++ (wO c4 o g ++ cW c4 Z u)) := hD
  have hFc := zfreeL hD2 hS hA
  refine va_calli (va_runV (As := []) (rest := [.int r9]) ⟨hx, hb, hml, hown, hts⟩ (ct_X6_same l D c4 (va_A (mW c4 z v) H.size) z v _ hc2) (cwV 0 hts (wzl_V zw_898 zw_899 zw_900 zw_6 zw_901) rfl rfl rfl (by decide +kernel) ⟨Nat.le_of_ble_eq_true rfl, Nat.le_of_ble_eq_true rfl⟩) ⟨fbM, va_recv hK (va_P_l hP2) (ci := 5) (q0 := 0) rfl rfl, fun U9 hU hW => ⟨rfl, goM2 hP2 hD2 hK hU hW⟩⟩ rfl rfl hl.1 rfl (lv_room (Nat.le_of_ble_eq_true rfl)) dL_law_824 ⟨(show 100 + i + 0 ≤ 601024 by omega), (show 2400 + 6 * i + 0 ≤ 7293034 by omega)⟩) hS (fun q _ h => hFc q h) hFc (fun b9 v9 t H1 locs ht hvm e9 hB hz1 hk1 hS => ?_)
  cases e9
  obtain ⟨hP1, hD1, -, -⟩ := hB
  rw [ht] at hP1
  obtain ⟨hP, hD⟩ := zjoinL hP2 hD2 hk1 hFc hP1 hD1
  generalize H1 = H at hP hS ⊢
  have hP : va_P D vwCl ((mW c4 z v2 ++ wO c4 o g) ++ cW c4 Z u) H := hP
  have hD : va_D (LA s) ((mW c4 z v2 ++ wO c4 o g) ++ cW c4 Z u) := hD
  refine lv_icmp_eq (tgt := 832) hx hb dL_law_827 (by decide) (fun c9 => ?_) (fun c9 => absurd rfl c9)
  refine W.widen (k := 100 + i + 1) (n := 2400 + 6 * i + 6) (by omega) (by omega) ?_
  exact K _ _ u v2 g hP hD hS hR2 ls (lv_sub hl [0, 1, 2, 3, 4] rfl)
