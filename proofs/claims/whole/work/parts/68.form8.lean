/-! ===== both write a list of structs ===== -/
/-- data words of elements that are still to be copied -/
def zE (E : Nat → Prop) (e m N w d : Nat) : Nat → Prop := fun j => E j ∨ ∃ e', e ≤ e' ∧ e' < m ∧ N + e' * w ≤ j ∧ j < N + e' * w + d
theorem z_els {R : zRT} {Z : CZ} {dp : Nat} (hd : zdist Z) (hdp : dp ≤ 8) (hR : dp + 1 ≤ 8 → zObj R Z (dp + 1)) {cn : Nat → Nat} {M : Nat → Int64} {sg bg ed po m d p T h : Nat} {E : Nat → Prop} (hs : sg < 4) (hcn : cn sg ≤ 64) (hel : bg + m * (ed + po) ≤ cn sg) (hde : d ≤ ed) (hpp : p ≤ po) (hm : m < 300) (hEN : ∀ j, E j → j < T + 1) :
    ∀ (r e : Nat) (u : CS) (v : MS) (n l fuel : Nat), e + r = m → r < fuel → Vr v 1 = M → (Uf u 1 (Zl Z dp) = nI m ∧ Uf u 2 (Zl Z dp) = nI po ∧ Uf u 3 (Zl Z dp) = nI ed ∧ Uf u 4 (Zl Z dp) = nI sg ∧ Uf u 5 (Zl Z dp) = nI bg ∧ Uf u 6 (Zl Z dp) = nI dp) → T + 1 + m * (d + p) ≤ n → zSim Z u v cn n l (h + r * p) (zE E e m (T + 1) (d + p) d) →
    (∀ e', e ≤ e' → e' < m → ∀ k, k < p → stk v (h + ((m - 1 - e') * p + (p - 1 - k))) (T + 1 + e' * (d + p) + d + k) sg (bg + e' * (ed + po) + ed + k) (dp + 1)) → (∀ e', e ≤ e' → e' < m → ∀ k, k < d → Vr v 22 (T + 1 + e' * (d + p) + k) = M (64 * sg + (bg + e' * (ed + po) + k))) →
    ∃ res, pX1_writeStructList_153 R Z (Zl Z dp) fuel u (nI d) (nI p) (nI T) (nI e) = some res ∧ ffr Z dp u res.1 ∧
      ((res.2 = .inr () ∧ ∃ K v2 n' l', zRun v v2 K ∧ n ≤ n' ∧ K ≤ r * p + (n' - n) ∧ zSim Z res.1 v2 cn n' l' h E ∧ rfr h v v2 ∧ ∀ j, j < n → (j < T + 1 ∨ T + 1 + m * (d + p) ≤ j) → Vr v2 22 j = Vr v 22 j) ∨
       (∃ e K w, res.2 = .inl e ∧ e ∈ [1, 2, 3, 4] ∧ K ≤ r * p + (64 - n) ∧ zErr v w K ∧ Vi w 0 = lco1 e ∧ efr v w)) := by
  intro r
  induction r with
  | zero =>
    intro e u v n l fuel he hf hv1 hu hn hS hst hdt
    obtain ⟨fuel, rfl⟩ : ∃ m, fuel = m + 1 := ⟨fuel - 1, by omega⟩
    have : e = m := by omega
    subst this
    rw [Nat.zero_mul, Nat.add_zero] at hS
    obtain ⟨g1, g2, g3, g4, g5, g6, g7, g8, g9⟩ := hS
    refine ⟨(u, .inr ()), ?_, ffr_r _ _ _, Or.inl ⟨rfl, 0, v, n, l, fun _ => rfl, Nat.le_refl _, by omega, ⟨g1, g2, g3, g4, g5, g6, g7, g8, fun j hj hE => g9 j hj (fun q => ?_)⟩, rfr_r _ _, fun _ _ _ => rfl⟩⟩
    · rw [pX1_writeStructList_153_s, hu.1, if_pos (nI_le (by omega) (by omega))]
    · rcases q with q | ⟨e', q1, q2, _⟩
      · exact hE q
      · omega
  | succ r ih =>
    intro e u v n l fuel he hf hv1 hu hn hS hst hdt
    obtain ⟨fuel, rfl⟩ : ∃ m, fuel = m + 1 := ⟨fuel - 1, by omega⟩
    obtain ⟨u1, u2, u3, u4, u5, u6⟩ := hu
    obtain ⟨g1, g2, g3, g4, g5, g6, g7, g8, g9⟩ := hS
    have hsp : (r + 1) * p = r * p + p := Nat.succ_mul _ _
    have hsw : (e + 1) * (d + p) = e * (d + p) + (d + p) := Nat.succ_mul _ _
    have hsq : (e + 1) * (ed + po) = e * (ed + po) + (ed + po) := Nat.succ_mul _ _
    have hlw : (e + 1) * (d + p) ≤ m * (d + p) := Nat.mul_le_mul_right _ (by omega)
    have hlq : (e + 1) * (ed + po) ≤ m * (ed + po) := Nat.mul_le_mul_right _ (by omega)
    have hbe : pX2_elementBegin Z u (Zl Z dp) (nI e) = nI (bg + e * (ed + po)) := by
      unfold pX2_elementBegin
      rw [u5, u3, u2, nI_add, pk_mul, nI_add]
    have ec := c_copy (Z := Z) (u := u) (v := v) (cn := cn) (a := Zl Z dp) (s := sg) (i := bg + e * (ed + po)) (c := d) (t := T + 1 + e * (d + p)) (n := n) hd g1 g2 (by omega) u4 hs (by omega) (by omega)
    rw [hv1] at ec
    generalize hFc : zfil (Uc u (Zc Z (Zz Z 9))) (T + 1 + e * (d + p)) d (fun k => M (64 * sg + (bg + e * (ed + po) + k))) = Fc at ec
    have hstep : pX1_writeStructList_153 R Z (Zl Z dp) (fuel + 1) u (nI d) (nI p) (nI T) (nI e) = ((pX1_writePointers R Z (dW Z u n Fc) (Zl Z dp) (nI (bg + e * (ed + po) + ed)) (nI p) (nI (T + 1 + e * (d + p) + d))).bind fun x_9 => match x_9.2 with | .inl j => some (x_9.1, .inl j) | .inr r_9 => pX1_writeStructList_153 R Z (Zl Z dp) fuel (x_9.1) (nI d) (nI p) (nI T) (nI (e + 1))) := by
      rw [pX1_writeStructList_153_s, u1, if_neg (nI_ge (by omega) (by omega)), hbe]
      simp only [Option.bind_some]
      rw [nI_1, nI_add, pk_mul, nI_add, ec]
      simp only [Option.bind_some]
      rw [uf_D, u3, nI_add, nI_add, nI_1]
      congr 1
    have hsim : zSim Z (dW Z u n Fc) v cn n l (h + r * p + p) (zE E (e + 1) m (T + 1) (d + p) d) := by
      refine ⟨gMSG_dW hd g1 _ _, us_D9 _ _ _ _, g3, g4, g5, ?_, g7, by omega, fun j hj hE => ?_⟩
      · rw [g6, hsp, Nat.add_assoc]
      · rw [uc_D9, ← hFc]
        by_cases q : T + 1 + e * (d + p) ≤ j ∧ j < T + 1 + e * (d + p) + d
        · rw [zfil_in _ _ q.1 q.2]
          have := hdt e (Nat.le_refl _) (by omega) (j - (T + 1 + e * (d + p))) (by omega)
          rw [show T + 1 + e * (d + p) + (j - (T + 1 + e * (d + p))) = j by omega] at this
          exact this.symm
        · rw [zfil_out _ _ (by omega)]
          refine g9 j hj (fun z => hE ?_)
          rcases z with z | ⟨e', z1, z2, z3, z4⟩
          · exact Or.inl z
          · by_cases z5 : e' = e
            · subst z5
              exact absurd ⟨z3, z4⟩ q
            · exact Or.inr ⟨e', by omega, z2, z3, z4⟩
    have hEp : ∀ k, k < p → ¬ zE E (e + 1) m (T + 1) (d + p) d (T + 1 + e * (d + p) + d + k) := fun k hk z => by
      rcases z with z | ⟨e', z1, z2, z3, z4⟩
      · have := hEN _ z
        omega
      · have : (e + 1) * (d + p) ≤ e' * (d + p) := Nat.mul_le_mul_right _ z1
        omega
    have hEn' : ∀ j, zE E (e + 1) m (T + 1) (d + p) d j → j < n := fun j z => by
      rcases z with z | ⟨e', z1, z2, z3, z4⟩
      · have := hEN _ z
        omega
      · have : (e' + 1) * (d + p) ≤ m * (d + p) := Nat.mul_le_mul_right _ (by omega)
        rw [Nat.succ_mul] at this
        omega
    obtain ⟨res, i1, i2, i3⟩ := z_ptrs (R := R) (Z := Z) (dp := dp) hd hdp hR (cn := cn) (sg := sg) (b := bg + e * (ed + po) + ed) (c := p) (t := T + 1 + e * (d + p) + d) (h := h + r * p) (E := zE E (e + 1) m (T + 1) (d + p) d) hs hcn (by omega) hEp p 0 (dW Z u n Fc) v n l 300 (by omega) (by omega) u4 u6 (by omega) hsim (fun k _ hk => by
      have := hst e (Nat.le_refl _) (by omega) k hk
      rw [show m - 1 - e = r by omega, ← Nat.add_assoc] at this
      exact this) hEn'
    have hff : ffr Z dp u res.1 := ffr_t (ffr_D Z dp u n Fc) i2
    rw [hstep]
    unfold pX1_writePointers
    rw [show (0 : Int32) = nI 0 from rfl, i1]
    simp only [Option.bind_some]
    obtain ⟨ur, orr⟩ := res
    rcases i3 with ⟨q1, K, v2, n', l', q2, q3, q4, q5, q6, q7⟩ | ⟨ex, K, w, q1, q2, q3, q4, q5, q6⟩
    · simp only at q1 q5 hff
      subst q1
      have hl : ∀ kk, Uf ur kk (Zl Z dp) = Uf u kk (Zl Z dp) := fun kk => ffr_l hd hff (Nat.le_refl _) (by omega) kk
      obtain ⟨res2, j1, j2, j3⟩ := ih (e + 1) ur v2 n' l' fuel (by omega) (by omega) ((q6.2.2.1 1 (by omega)).trans hv1) ⟨(hl 1).trans u1, (hl 2).trans u2, (hl 3).trans u3, (hl 4).trans u4, (hl 5).trans u5, (hl 6).trans u6⟩ (by omega) q5 (fun e' z1 z2 k hk => by
        obtain ⟨s1, s2, s3, s4⟩ := hst e' (by omega) z2 k hk
        have hpos : h + ((m - 1 - e') * p + (p - 1 - k)) < h + r * p := by
          have : (m - 1 - e' + 1) * p ≤ r * p := Nat.mul_le_mul_right _ (by omega)
          rw [Nat.succ_mul] at this
          omega
        exact ⟨(q6.2.2.2 29 _ hpos).trans s1, (q6.2.2.2 30 _ hpos).trans s2, (q6.2.2.2 31 _ hpos).trans s3, (q6.2.2.2 32 _ hpos).trans s4⟩) (fun e' z1 z2 k hk => by
        have h1 : (e + 1) * (d + p) ≤ e' * (d + p) := Nat.mul_le_mul_right _ z1
        have h2 : (e' + 1) * (d + p) ≤ m * (d + p) := Nat.mul_le_mul_right _ (by omega)
        rw [Nat.succ_mul] at h2
        rw [q7 _ (by omega) (by omega)]
        exact hdt e' (by omega) z2 k hk)
      refine ⟨res2, j1, ffr_t hff j2, ?_⟩
      have hrv : rfr h v v2 := rfr_m (by omega) q6
      rcases j3 with ⟨p1, K2, v3, n2, l2, p2, p3, p4, p5, p6, p7⟩ | ⟨ex, K2, w2, p1, p2, p3, p4, p5, p6⟩
      · refine Or.inl ⟨p1, K + K2, v3, n2, l2, zRun_t q2 p2, by omega, by omega, p5, rfr_t hrv p6, fun j h1 h2 => ?_⟩
        rw [p7 j (by omega) h2, q7 j h1 (by omega)]
      · have hn64 := q5.2.2.2.2.2.2.1
        exact Or.inr ⟨ex, K + K2, w2, p1, p2, by omega, zErr_t q2 p4, p5, efr_t hrv p6⟩
    · simp only at q1 hff
      subst q1
      exact ⟨(ur, .inl ex), rfl, hff, Or.inr ⟨ex, K, w, rfl, q2, by omega, q4, q5, q6⟩⟩
theorem c_9 {R : zRT} {Z : CZ} {a : Nat} {u : CS} {v : MS} {cn : Nat → Nat} (hM : gMSG Z u v cn) {sg bg ed po m word : Nat} (u1 : Uf u 1 a = nI m) (u2 : Uf u 2 a = nI po) (u3 : Uf u 3 a = nI ed) (u4 : Uf u 4 a = nI sg) (u5 : Uf u 5 a = nI bg) (hs : sg < 4) (hel : bg + m * (ed + po) ≤ cn sg) (hm : m < 300) (he : ed < 65536) (hp : po < 65536) : ∀ (r e fuel : Nat), e + r = m → r < fuel → ∃ fuel',
    pX1_writeStructList_9 R Z a fuel u (nI word) (nI (zmx (fun e => zus (fun k => Vr v 1 (64 * sg + (bg + e * (ed + po) + k))) ed) e)) (nI (zmx (fun e => zus (fun k => Vr v 1 (64 * sg + (bg + e * (ed + po) + ed + k))) po) e)) (nI e) = pX1_writeStructList_9 R Z a (fuel' + 1) u (nI word) (nI (zmx (fun e => zus (fun k => Vr v 1 (64 * sg + (bg + e * (ed + po) + k))) ed) m)) (nI (zmx (fun e => zus (fun k => Vr v 1 (64 * sg + (bg + e * (ed + po) + ed + k))) po) m)) (nI m) := by
  intro r
  induction r with
  | zero =>
    intro e fuel hr hf
    obtain ⟨fuel, rfl⟩ : ∃ m, fuel = m + 1 := ⟨fuel - 1, by omega⟩
    have : e = m := by omega
    subst this
    exact ⟨fuel, rfl⟩
  | succ r ih =>
    intro e fuel hr hf
    obtain ⟨fuel, rfl⟩ : ∃ m, fuel = m + 1 := ⟨fuel - 1, by omega⟩
    obtain ⟨fuel', hi⟩ := ih (e + 1) fuel (by omega) (by omega)
    refine ⟨fuel', Eq.trans ?_ hi⟩
    have hcs := (hM sg hs).1
    have hlq : (e + 1) * (ed + po) ≤ m * (ed + po) := Nat.mul_le_mul_right _ (by omega)
    rw [Nat.succ_mul] at hlq
    have hbe : pX2_elementBegin Z u a (nI e) = nI (bg + e * (ed + po)) := by
      unfold pX2_elementBegin
      rw [u5, u3, u2, nI_add, pk_mul, nI_add]
    have zd := zmx_le (f := fun e => zus (fun k => Vr v 1 (64 * sg + (bg + e * (ed + po) + k))) ed) (B := ed) e (fun e' he' => zus_le _ _)
    have zp := zmx_le (f := fun e => zus (fun k => Vr v 1 (64 * sg + (bg + e * (ed + po) + ed + k))) po) (B := po) e (fun e' he' => zus_le _ _)
    have zd2 := zus_le (fun k => Vr v 1 (64 * sg + (bg + e * (ed + po) + k))) ed
    have zp2 := zus_le (fun k => Vr v 1 (64 * sg + (bg + e * (ed + po) + ed + k))) po
    rw [pX1_writeStructList_9_s, u1, if_neg (nI_ge (by omega) (by omega)), hbe]
    simp only [Option.bind_some]
    rw [u3, nI_add, u4, c_used hM hs (by omega)]
    simp only [Option.bind_some]
    rw [u2, c_used hM hs (by omega)]
    simp only [Option.bind_some]
    rw [i_max2 (by omega) (by omega), i_max2 (by omega) (by omega), nI_1]
    rfl
theorem z_slist {R : zRT} {Z : CZ} {dp : Nat} (hd : zdist Z) (hdp : dp ≤ 8) (hR : dp + 1 ≤ 8 → zObj R Z (dp + 1)) {u : CS} {v : MS} {cn : Nat → Nat} {n l h : Nat} {E : Nat → Prop} {co po ed sg bg ct word : Nat}
    (k1 : obOk cn 8 co po ed sg bg) (k2 : obK 8 co po ed ct) (k3 : obF u (Zl Z dp) 8 co po ed sg bg dp) (k4 : obV v 8 co po ed sg bg ct) (hM : gMSG Z u v cn) (g2 : Us u (Zz Z 9) = nI n) (g3 : Vi v 21 = nI n) (g4 : Ui u 0 = nI l) (g5 : Vi v 27 = nI l) (g6 : Vi v 28 = nI h) (g7 : n + l + ct ≤ 64) (g8 : h ≤ n) (hw : word < n) (hEw : ¬ E word) (g9 : ∀ j, j < n → ¬ E j → Uc u (Zc Z (Zz Z 9)) j = Vr v 22 j) (hEn : ∀ j, E j → j < n) :
    ∃ r v1, pX1_writeStructList R Z u (Zl Z dp) (nI word) = some r ∧ pX6_writeElements v (nI word) (nI dp) = some (v1, ()) ∧ zOut Z dp u v cn n h E word r v1 := by
  obtain ⟨c0, c1, c2, c3, c4, c5, c6⟩ := k3
  obtain ⟨m1, m2, m3, m4, m5, m6, m7, m8⟩ := k4
  obtain ⟨o1, o2, o3, o4, o5, o6, o7, o8, o9⟩ := k1
  have o9' := o9 rfl
  obtain ⟨kc, kc2⟩ := k2.2.2.2.2 rfl
  have hcs := (hM sg o2).1
  have s9 := c_9 (R := R) (Z := Z) (a := Zl Z dp) (u := u) hM (sg := sg) (bg := bg) (ed := ed) (po := po) (m := co) (word := word) c1 c2 c3 c4 c5 o2 o9' (by omega) o6 o5 co 0 300 (by omega) (by omega)
  generalize hd' : zmx (fun e => zus (fun k => Vr v 1 (64 * sg + (bg + e * (ed + po) + k))) ed) co = d at s9
  generalize hp' : zmx (fun e => zus (fun k => Vr v 1 (64 * sg + (bg + e * (ed + po) + ed + k))) po) co = p at s9
  have hdc : d ≤ ed := by rw [← hd']; exact zmx_le co (fun _ _ => zus_le _ _)
  have hpc : p ≤ po := by rw [← hp']; exact zmx_le co (fun _ _ => zus_le _ _)
  have hW : co * (d + p) ≤ co * (ed + po) := Nat.mul_le_mul_left _ (by omega)
  have hP : co * p ≤ co * (d + p) := Nat.mul_le_mul_left _ (by omega)
  have hdp3 : d + p < 300 := by
    by_cases q : co = 0
    · rw [← hd', ← hp', q]
      show 0 + 0 < 300
      omega
    · have : 1 * (d + p) ≤ co * (d + p) := Nat.mul_le_mul_right _ (by omega)
      omega
  obtain ⟨fuel', s9⟩ := s9
  have em := m_wEls (v := v) (word := word) (dep := dp) m2 m3 m4 m5 m6 g3 g6 o2 (by omega) (by omega) o6 o5 hw hd'.symm hp'.symm hdp3 (by omega) (by omega)
  generalize hX : zEP word n (co * (d + p)) = X at em
  generalize hY : zTG co d p = Y at em
  generalize hF : zfil (vp_updL (vp_updL (Vr v 22) word X) n Y) (n + 1) (co * (d + p)) (zT (fun i => Vr v 1 (64 * sg + i)) bg (ed + po) d (d + p)) = Fm at em
  generalize hFc : vp_updL (vp_updL (zfil (Uc u (Zc Z (Zz Z 9))) n (1 + co * (d + p)) (fun _ => 0)) word X) n Y = Fc
  have eg := c_grow (Z := Z) (u := u) (n := n) (c := 1 + co * (d + p)) g2 (by omega)
  have ep := c_put (Z := Z) (u := dW Z u (n + (1 + co * (d + p))) (zfil (Uc u (Zc Z (Zz Z 9))) n (1 + co * (d + p)) (fun _ => 0))) (n := n + (1 + co * (d + p))) (t := word) (us_D9 _ _ _ _) (by omega) (by omega) X
  rw [uc_D9, dW_dW] at ep
  have ep2 := c_put (Z := Z) (u := dW Z u (n + (1 + co * (d + p))) (vp_updL (zfil (Uc u (Zc Z (Zz Z 9))) n (1 + co * (d + p)) (fun _ => 0)) word X)) (n := n + (1 + co * (d + p))) (t := n) (us_D9 _ _ _ _) (by omega) (by omega) Y
  rw [uc_D9, dW_dW, hFc] at ep2
  have hN : n + (1 + co * (d + p)) = n + 1 + co * (d + p) := by omega
  have hrv : rfr h v (aW (eW v (n + 1 + co * (d + p)) Fm) h (h + co * p) (zH n sg bg (ed + po) ed dp h co d p)) := rfr_t (rfr_E h v _ _) (rfr_A h _ _ _)
  have hsim : zSim Z (dW Z u (n + (1 + co * (d + p))) Fc) (aW (eW v (n + 1 + co * (d + p)) Fm) h (h + co * p) (zH n sg bg (ed + po) ed dp h co d p)) cn (n + 1 + co * (d + p)) l (h + co * p) (zE E 0 co (n + 1) (d + p) d) := by
    refine ⟨gMSG_rf (gMSG_dW hd hM _ _) hrv, ?_, ?_, ?_, ?_, ?_, by omega, by omega, ?_⟩
    · rw [us_D9, hN]
    · rw [vi_W2, if_neg (by omega), vi_E21]
    · rw [ui_D]; exact g4
    · rw [vi_W2, if_neg (by omega), vi_E, if_neg (by omega)]; exact g5
    · rw [vi_W2, if_pos rfl]
    · intro j hj hE
      rw [uc_D9, vr_W2, vr_E22, ← hFc, ← hF]
      by_cases q1 : n + 1 ≤ j
      · rw [zup_ne _ _ (by omega), zup_ne _ _ (by omega), zfil_in _ _ (by omega) (by omega), zfil_in _ _ q1 hj]
        unfold zT
        have hw0 : 0 < d + p := by
          by_cases z : d + p = 0
          · rw [z, Nat.mul_zero] at hj; omega
          · omega
        rw [if_neg]
        intro q2
        refine hE (Or.inr ⟨(j - (n + 1)) / (d + p), Nat.zero_le _, ?_, ?_, ?_⟩)
        · rw [Nat.div_lt_iff_lt_mul hw0]
          omega
        · have := Nat.div_add_mod (j - (n + 1)) (d + p)
          rw [Nat.mul_comm] at this
          omega
        · have := Nat.div_add_mod (j - (n + 1)) (d + p)
          rw [Nat.mul_comm] at this
          omega
      · rw [zfil_out (n := n + 1) _ _ (by omega)]
        by_cases q2 : j = n
        · rw [q2, zup_eq, zup_eq]
        · rw [zup_ne _ _ q2, zup_ne _ _ q2]
          by_cases q3 : j = word
          · rw [q3, zup_eq, zup_eq]
          · rw [zup_ne _ _ q3, zup_ne _ _ q3, zfil_out _ _ (by omega)]
            exact g9 j (by omega) (fun z => hE (Or.inl z))
  obtain ⟨res, i1, i2, i3⟩ := z_els (R := R) (Z := Z) (dp := dp) hd hdp hR (cn := cn) (M := Vr v 1) (sg := sg) (bg := bg) (ed := ed) (po := po) (m := co) (d := d) (p := p) (T := n) (h := h) (E := E) o2 hcs o9' hdc hpc (by omega) (fun j q => by have := hEn j q; omega) co 0 (dW Z u (n + (1 + co * (d + p))) Fc) _ (n + 1 + co * (d + p)) l 300 (by omega) (by omega) (by rw [vr_W2, vr_E1]) ⟨c1, c2, c3, c4, c5, c6⟩ (by omega) hsim (fun e' _ z2 k hk => by
      obtain ⟨a1, a2, a3, a4⟩ := zH_at (to := n) (sg := sg) (bg := bg) (wide := ed + po) (ed := ed) (dep := dp) (h := h) (m := co) (d := d) (p := p) z2 hk
      have hpos : (co - 1 - e') * p + (p - 1 - k) < co * p := by
        have : (co - 1 - e' + 1) * p ≤ co * p := Nat.mul_le_mul_right _ (by omega)
        rw [Nat.succ_mul] at this
        omega
      have hp : ∀ q, 29 ≤ q → q ≤ 32 → Va (aW (eW v (n + 1 + co * (d + p)) Fm) h (h + co * p) (zH n sg bg (ed + po) ed dp h co d p)) q (h + ((co - 1 - e') * p + (p - 1 - k))) = zH n sg bg (ed + po) ed dp h co d p q (h + ((co - 1 - e') * p + (p - 1 - k))) := fun q h1 h2 => by
        rw [va_W2, if_pos (by omega)]
      exact ⟨(hp 29 (by omega) (by omega)).trans a1, (hp 30 (by omega) (by omega)).trans a2, (hp 31 (by omega) (by omega)).trans a3, (hp 32 (by omega) (by omega)).trans a4⟩) (fun e' _ z2 k hk => by
      have hle : (e' + 1) * (d + p) ≤ co * (d + p) := Nat.mul_le_mul_right _ (by omega)
      rw [Nat.succ_mul] at hle
      rw [vr_W2, vr_E22, ← hF, zfil_in _ _ (by omega) (by omega), show n + 1 + e' * (d + p) + k - (n + 1) = e' * (d + p) + k by omega]
      unfold zT
      rw [n_mod (by omega), n_div (by omega), if_pos hk])
  have hw22 : ∀ j, j < n → j ≠ word → Vr (aW (eW v (n + 1 + co * (d + p)) Fm) h (h + co * p) (zH n sg bg (ed + po) ed dp h co d p)) 22 j = Vr v 22 j := fun j h1 h2 => by
    rw [vr_W2, vr_E22, ← hF, zfil_out _ _ (by omega), zup_ne _ _ (by omega), zup_ne _ _ h2]
  refine ⟨res, _, ?_, em, ffr_t (ffr_D Z dp u _ _) i2, ?_⟩
  · have eX : pX0_listPointer (nI n - nI word - 1) 7 (nI (co * (d + p))) = X := by rw [← hX]; exact w_els _ _ _
    have eY : pX0_structPointer (nI co) (nI d) (nI p) = Y := by rw [← hY]; exact w_tag o4 _ _
    unfold pX1_writeStructList
    refine Eq.trans s9 ?_
    rw [pX1_writeStructList_9_s, c1, if_pos (nI_le (by omega) (by omega)), nI_add, pk_mul]
    simp only [Option.bind_some]
    rw [show (1 : Int32) + nI (co * (d + p)) = nI (1 + co * (d + p)) from nI_add 1 _, eg]
    simp only [Option.bind_some]
    rw [eX, ep]
    simp only [Option.bind_some]
    rw [uf_D, c1, eY, ep2]
    simp only [Option.bind_some]
    exact i1
  · rcases i3 with ⟨q1, K, v2, n', l', q2, q3, q4, q5, q6, q7⟩ | ⟨e, K, w, q1, q2, q3, q4, q5, q6⟩
    · exact Or.inl ⟨q1, K, v2, n', l', q2, by omega, by omega, q5, rfr_t hrv q6, fun j h1 h2 => by rw [q7 j (by omega) (by omega), hw22 j h1 h2]⟩
    · exact Or.inr ⟨e, K, w, q1, q2, by omega, q4, q5, efr_t hrv q6⟩
