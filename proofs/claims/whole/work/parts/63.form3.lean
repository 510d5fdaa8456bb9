/-! ===== the reference writes a plain list ===== -/
def zLP (word to k co : Nat) : Int64 := pX6_pointer (nI word) (nI to) (((1 : Int64) ||| (((nI k).toInt64) <<< ((32 : Int32).toInt64 &&& 63))) ||| (((nI co).toInt64) <<< ((35 : Int32).toInt64 &&& 63)))
theorem m_57 {v : MS} {n S fr k : Nat} {F T : Nat → Int64} {dep to : Nat} (hn : n + S ≤ 160) (h11 : Vl v 11 = lN S) (hk : k < 7) (hT : ∀ i, i < S → (k = 6 → T i = 0) ∧ (k ≠ 6 → fr + i < 256 ∧ Vr v 1 (fr + i) = T i)) : ∀ (r i fuel : Nat), i + r = S → r < fuel →
    pX6_writeList_57 fuel (eW v (n + i) (zfil F n i T)) (nI dep) (nI k) (nI fr) (nI to) (nI i) = if 6 ≤ nI k then pX6_writeList_122 (eW v (n + S) (zfil F n S T)) (nI dep) (nI k) (nI to) 0 else pX6_writeList_122 (eW v (n + S) (zfil F n S T)) (nI dep) (nI k) (nI to) (((Vl v 8) * ((pX6_bits (nI k)).toInt64)) - ((Vl v 8) * ((pX6_bits (nI k)).toInt64)) / (64 : Int64) * (64 : Int64)) := by
  intro r
  induction r with
  | zero =>
    intro i fuel hi hf
    obtain ⟨fuel, rfl⟩ : ∃ m, fuel = m + 1 := ⟨fuel - 1, by omega⟩
    have : i = S := by omega
    subst this
    rw [pX6_writeList_57_s, vl_E, h11, nI_l (by omega), if_pos ((pk_lLE (by omega) (by omega)).mpr (Nat.le_refl _))]
  | succ r ih =>
    intro i fuel hi hf
    obtain ⟨fuel, rfl⟩ : ∃ m, fuel = m + 1 := ⟨fuel - 1, by omega⟩
    obtain ⟨t1, t2⟩ := hT i (by omega)
    have hput : ∀ x, x = T i → pX6_writeList_89 (fun u9 x0 x1 x2 x3 x4 => pX6_writeList_57 fuel u9 x0 x1 x2 x3 x4) (eW v (n + i) (zfil F n i T)) (nI dep) (nI k) (nI fr) (nI to) (nI i) x = pX6_writeList_57 fuel (eW v (n + (i + 1)) (zfil F n (i + 1) T)) (nI dep) (nI k) (nI fr) (nI to) (nI (i + 1)) := fun x hx => by
      unfold pX6_writeList_89
      rw [hx, m_put (vi_E21 _ _ _) (by omega), vr_E22, eW_eW, zfil_s]
      simp only [Option.bind_some]
      rw [nI_1]
      rfl
    rw [pX6_writeList_57_s, vl_E, h11, nI_l (by omega), if_neg (fun z => by have := (pk_lLE (by omega) (by omega)).mp z; omega)]
    by_cases k6 : k = 6
    · rw [if_pos (by rw [k6]; rfl), hput 0 (t1 k6).symm]
      exact ih (i + 1) fuel (by omega) (by omega)
    · obtain ⟨t3, t4⟩ := t2 k6
      rw [if_neg (show ¬ nI k = 6 from fun z => k6 ((nI_eq (b := 6) (by omega) (by omega)).mp z)), nI_add, inT t3 (by omega), nI_clamp (by omega), vr_E1, if_pos rfl, hput _ t4]
      exact ih (i + 1) fuel (by omega) (by omega)
theorem m_wFlat {v : MS} {n sg bg co S w word dep k : Nat} (h5 : Vi v 5 = nI (k + 1)) (h6 : Vi v 6 = nI sg) (h7 : Vi v 7 = nI bg) (h8 : Vl v 8 = lN co) (h11 : Vl v 11 = lN S) (h21 : Vi v 21 = nI n) (hk : k < 6) (hw : zbw (k + 1) = w) (hS : S = (co * w + 63) / 64) (hco : co < 1073741824) (hs : sg < 4) (hb : bg + S ≤ 64) (hwd : word < n) (hn : n + S ≤ 64) :
    pX6_writeList v (nI word) (nI dep) = some (eW v (n + S) (if co * w % 64 = 0 then zfil (vp_updL (Vr v 22) word (zLP word n k co)) n S (fun k => Vr v 1 (64 * sg + (bg + k))) else vp_updL (zfil (vp_updL (Vr v 22) word (zLP word n k co)) n S (fun k => Vr v 1 (64 * sg + (bg + k)))) (n + S - 1) (zfil (vp_updL (Vr v 22) word (zLP word n k co)) n S (fun k => Vr v 1 (64 * sg + (bg + k))) (n + S - 1) &&& (((1 : Int64) <<< ((nI (co * w % 64)).toInt64 &&& 63)) - (1 : Int64)))), ()) := by
  obtain ⟨w1, w2⟩ := zbw_f k (by omega)
  rw [hw] at w1 w2
  have hcw : co * w ≤ co * 64 := Nat.mul_le_mul_left _ w1
  have er : ((Vl v 8) * ((pX6_bits (nI k)).toInt64)) - ((Vl v 8) * ((pX6_bits (nI k)).toInt64)) / (64 : Int64) * (64 : Int64) = lN (co * w % 64) := by
    rw [eb_m k (by omega), hw, h8, nI_l (by omega), lN_mul, ll64, pk_lDiv (by omega) (by omega) (by omega), lN_mul, lN_sub (by omega), sm64]
  have e6 : ¬ 6 ≤ nI k := nI_ge (a := k) (b := 6) (by omega) (by omega)
  have e170 : ∀ (v' : MS) x, pX6_writeList_170 300 v' (nI dep) (nI k) (nI n) x = some (v', ()) := fun v' x => by
    rw [show (300 : Nat) = 299 + 1 from rfl, pX6_writeList_170_s, if_neg (show ¬ nI k = 6 from fun z => by have := (nI_eq (b := 6) (by omega) (by omega)).mp z; omega)]
    split <;> rfl
  have e161 : ∀ v' : MS, pX6_writeList_161 v' (nI dep) (nI k) (nI n) = some (v', ()) := fun v' => e170 v' _
  have s1 := m_57 (v := v) (n := n) (S := S) (fr := 64 * sg + bg) (k := k) (F := vp_updL (Vr v 22) word (zLP word n k co)) (T := fun k => Vr v 1 (64 * sg + (bg + k))) (dep := dep) (to := n) (by omega) h11 (by omega) (fun i hi => ⟨fun q => absurd q (by omega), fun _ => ⟨by omega, by rw [Nat.add_assoc]⟩⟩) S 0 300 (by omega) (by omega)
  rw [zfil_0, Nat.add_zero, ← eW_R h21, if_neg e6, er] at s1
  have ep : pX6_pointer (nI word) (nI n) (((1 : Int64) ||| (((nI k).toInt64) <<< ((32 : Int32).toInt64 &&& 63))) ||| ((lN co) <<< ((35 : Int32).toInt64 &&& 63))) = zLP word n k co := by
    unfold zLP
    rw [nI_l (n := co) (by omega)]
  unfold pX6_writeList
  rw [h5, nI_p1, h6, h7, h8, h21, il64, pk_mul, nI_add]
  simp only [Option.bind_some]
  rw [ep, inT (by omega) (by omega), nI_clamp (by omega), if_pos rfl, show pX6_writeList_57 300 (tR v 22 word (zLP word n k co)) (nI dep) (nI k) (nI (64 * sg + bg)) (nI n) 0 = pX6_writeList_57 300 (tR v 22 word (zLP word n k co)) (nI dep) (nI k) (nI (64 * sg + bg)) (nI n) (nI 0) from rfl, s1]
  unfold pX6_writeList_122
  by_cases q : co * w % 64 = 0
  · rw [if_pos q, q, if_pos (by decide), e161]
  · have hS1 : 1 ≤ S := by omega
    rw [if_neg q, ll0, if_neg (fun z => by have := (pk_lLE (by omega) (by omega)).mp z; omega), vi_E21, il1, pk_sub (by omega), inT (by omega) (by omega), nI_clamp (by omega), vr_E22, lN_i, if_pos rfl]
    simp only [Option.bind_some, if_true]
    rw [e161, eW_R (vi_E21 _ _ _), eW_eW, vr_E22]
theorem m_170 {v : MS} {h : Nat} {G : Nat → Nat → Int32} {dep to sg bg : Nat} (h6 : Vi v 6 = nI sg) (h7 : Vi v 7 = nI bg) : ∀ (c fuel h' : Nat), c < fuel → h ≤ h' → h' + c ≤ 200 → (∀ k, k < c → G 29 (h' + (c - 1 - k)) = nI (to + k) ∧ G 30 (h' + (c - 1 - k)) = nI sg ∧ G 31 (h' + (c - 1 - k)) = nI (bg + k) ∧ G 32 (h' + (c - 1 - k)) = nI (dep + 1)) →
    pX6_writeList_170 fuel (aW v h h' G) (nI dep) 6 (nI to) (nI c - 1) = some (aW v h (h' + c) G, ()) := by
  intro c
  induction c with
  | zero =>
    intro fuel h' hf hh hn hG
    obtain ⟨fuel, rfl⟩ : ∃ m, fuel = m + 1 := ⟨fuel - 1, by omega⟩
    rw [pX6_writeList_170_s, if_pos nI_mn]
    rfl
  | succ c ih =>
    intro fuel h' hf hh hn hG
    obtain ⟨fuel, rfl⟩ : ∃ m, fuel = m + 1 := ⟨fuel - 1, by omega⟩
    obtain ⟨g1, g2, g3, g4⟩ := hG c (by omega)
    rw [show h' + (c + 1 - 1 - c) = h' by omega] at g1 g2 g3 g4
    rw [nI_p1, pX6_writeList_170_s, if_neg (nI_pos (by omega)), if_pos rfl, vi_W2, if_neg (by omega), h6, vi_W2, if_neg (by omega), h7, nI_add, nI_add, nI_1, ← g1, ← g2, ← g3, ← g4, m_await hh (by omega)]
    simp only [Option.bind_some]
    rw [nI_mp]
    rw [ih fuel (h' + 1) (by omega) (by omega) (by omega) (fun k hk => ?_)]
    · rw [show h' + 1 + c = h' + (c + 1) by omega]
    · have := hG k (by omega)
      rw [show h' + (c + 1 - 1 - k) = h' + 1 + (c - 1 - k) by omega] at this
      exact this
theorem m_wPtrs {v : MS} {n h sg bg co word dep : Nat} (h5 : Vi v 5 = nI 7) (h6 : Vi v 6 = nI sg) (h7 : Vi v 7 = nI bg) (h8 : Vl v 8 = lN co) (h11 : Vl v 11 = lN co) (h21 : Vi v 21 = nI n) (h28 : Vi v 28 = nI h) (hs : sg < 4) (hb : bg + co ≤ 64) (hwd : word < n) (hn : n + co ≤ 64) (hh : h + co ≤ 200) :
    pX6_writeList v (nI word) (nI dep) = some (aW (eW v (n + co) (zfil (vp_updL (Vr v 22) word (zLP word n 6 co)) n co (fun _ => 0))) h (h + co) (zG n sg bg dep h co), ()) := by
  have s1 := m_57 (v := v) (n := n) (S := co) (fr := 64 * sg + bg) (k := 6) (F := vp_updL (Vr v 22) word (zLP word n 6 co)) (T := fun _ => 0) (dep := dep) (to := n) (by omega) h11 (by omega) (fun i hi => ⟨fun _ => rfl, fun q => absurd rfl q⟩) co 0 300 (by omega) (by omega)
  rw [zfil_0, Nat.add_zero, ← eW_R h21, if_pos (by decide)] at s1
  have s3 := m_170 (v := eW v (n + co) (zfil (vp_updL (Vr v 22) word (zLP word n 6 co)) n co (fun _ => 0))) (h := h) (G := zG n sg bg dep h co) (dep := dep) (to := n) (sg := sg) (bg := bg) (by rw [vi_E, if_neg (by omega)]; exact h6) (by rw [vi_E, if_neg (by omega)]; exact h7) co 300 h (by omega) (by omega) (by omega) (fun k hk => by
      refine ⟨?_, rfl, ?_, rfl⟩
      · show nI (n + (co - 1 - (h + (co - 1 - k) - h))) = _
        congr 1
        omega
      · show nI (bg + (co - 1 - (h + (co - 1 - k) - h))) = _
        congr 1
        omega)
  rw [aW_same (by rw [vi_E, if_neg (by omega)]; exact h28)] at s3
  have ep : pX6_pointer (nI word) (nI n) (((1 : Int64) ||| (((nI 6).toInt64) <<< ((32 : Int32).toInt64 &&& 63))) ||| ((lN co) <<< ((35 : Int32).toInt64 &&& 63))) = zLP word n 6 co := by
    unfold zLP
    rw [nI_l (n := co) (by omega)]
  unfold pX6_writeList
  rw [h5, show nI 7 - 1 = nI 6 from rfl, h6, h7, h8, h21, il64, pk_mul, nI_add]
  simp only [Option.bind_some]
  rw [ep, inT (by omega) (by omega), nI_clamp (by omega), if_pos rfl, show pX6_writeList_57 300 (tR v 22 word (zLP word n 6 co)) (nI dep) (nI 6) (nI (64 * sg + bg)) (nI n) 0 = pX6_writeList_57 300 (tR v 22 word (zLP word n 6 co)) (nI dep) (nI 6) (nI (64 * sg + bg)) (nI n) (nI 0) from rfl, s1]
  unfold pX6_writeList_122
  rw [if_pos (by decide)]
  unfold pX6_writeList_161
  rw [vl_E, h11, lN_i]
  exact s3
