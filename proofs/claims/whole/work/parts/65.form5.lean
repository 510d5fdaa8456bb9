/-! ===== both write: what changes ===== -/
def ffr (Z : CZ) (dp : Nat) (u u' : CS) : Prop := (∀ b, b ≠ Zz Z 9 → Us u' b = Us u b) ∧ (∀ b, b ≠ Zc Z (Zz Z 9) → Uc u' b = Uc u b) ∧ (∀ k, k ≠ 0 → Ui u' k = Ui u k) ∧ (∀ k a, (∀ e, dp < e → e < 10 → a ≠ Zl Z e) → Uf u' k a = Uf u k a)
theorem ffr_r (Z : CZ) (dp : Nat) (u : CS) : ffr Z dp u u := ⟨fun _ _ => rfl, fun _ _ => rfl, fun _ _ => rfl, fun _ _ _ => rfl⟩
theorem ffr_t {Z : CZ} {dp : Nat} {u u' u'' : CS} (h : ffr Z dp u u') (h2 : ffr Z dp u' u'') : ffr Z dp u u'' := ⟨fun b n => (h2.1 b n).trans (h.1 b n), fun b n => (h2.2.1 b n).trans (h.2.1 b n), fun b n => (h2.2.2.1 b n).trans (h.2.2.1 b n), fun k a n => (h2.2.2.2 k a n).trans (h.2.2.2 k a n)⟩
theorem ffr_m {Z : CZ} {dp dp' : Nat} {u u' : CS} (q : dp ≤ dp') (h : ffr Z dp' u u') : ffr Z dp u u' := ⟨h.1, h.2.1, h.2.2.1, fun k a n => h.2.2.2 k a (fun e h1 h2 => n e (by omega) h2)⟩
theorem ffr_D (Z : CZ) (dp : Nat) (u : CS) (n : Nat) (f : Nat → Int64) : ffr Z dp u (dW Z u n f) := ⟨fun b q => by rw [us_D, if_neg q], fun b q => by rw [uc_D, if_neg q], fun _ _ => rfl, fun _ _ _ => rfl⟩
theorem ffr_I (Z : CZ) (dp : Nat) (u : CS) (x : Int32) : ffr Z dp u (sI u 0 x) := ⟨fun _ _ => rfl, fun _ _ => rfl, fun k q => by rw [ui_I, if_neg q], fun _ _ _ => rfl⟩
theorem ffr_z {Z : CZ} {dp : Nat} {u u' : CS} (hd : dp < 9) (h : zfr (Zl Z (dp + 1)) u u') : ffr Z dp u u' := by
  obtain ⟨h1, h2⟩ := h
  refine ⟨fun b _ => ?_, fun b _ => ?_, fun k _ => ?_, fun k a n => h2 k a (n (dp + 1) (by omega) (by omega))⟩
  · exact congrFun (congrArg Prod.fst h1) b
  · exact congrFun (congrArg (fun x => x.2.1) h1) b
  · exact congrFun (congrArg (fun x => x.2.2) h1) k
theorem ffr_l {Z : CZ} {dp e : Nat} {u u' : CS} (hd : zdist Z) (h : ffr Z dp u u') (he : e ≤ dp) (hdp : dp < 10) (k : Nat) : Uf u' k (Zl Z e) = Uf u k (Zl Z e) := h.2.2.2 k _ (fun e' h1 h2 q => by
  rw [fd_l (by omega), fd_l h2] at q
  exact zd_f hd (by omega) (by omega) (by omega) q)
def rfr (h : Nat) (v v' : MS) : Prop := (∀ k, k ≠ 5 → k ≠ 6 → k ≠ 7 → k ≠ 9 → k ≠ 10 → k ≠ 21 → k ≠ 27 → k ≠ 28 → Vi v' k = Vi v k) ∧ (∀ q, ¬ (29 ≤ q ∧ q ≤ 32) → Va v' q = Va v q) ∧ (∀ q, q ≠ 22 → Vr v' q = Vr v q) ∧ (∀ q j, j < h → Va v' q j = Va v q j)
theorem rfr_r (h : Nat) (v : MS) : rfr h v v := ⟨fun _ _ _ _ _ _ _ _ _ => rfl, fun _ _ => rfl, fun _ _ => rfl, fun _ _ _ => rfl⟩
theorem rfr_t {h : Nat} {v v' v'' : MS} (a : rfr h v v') (b : rfr h v' v'') : rfr h v v'' := ⟨fun k h1 h2 h3 h4 h5 h6 h7 h8 => (b.1 k h1 h2 h3 h4 h5 h6 h7 h8).trans (a.1 k h1 h2 h3 h4 h5 h6 h7 h8), fun q n => (b.2.1 q n).trans (a.2.1 q n), fun q n => (b.2.2.1 q n).trans (a.2.2.1 q n), fun q j n => (b.2.2.2 q j n).trans (a.2.2.2 q j n)⟩
theorem rfr_m {h h' : Nat} {v v' : MS} (q : h ≤ h') (a : rfr h' v v') : rfr h v v' := ⟨a.1, a.2.1, a.2.2.1, fun q j n => a.2.2.2 q j (by omega)⟩
theorem rfr_f {h : Nat} {v w : MS} (a : mfr v w) : rfr h v w := ⟨fun k h1 h2 h3 h4 h5 _ _ _ => a.2 k h1 h2 h3 h4 h5, fun q _ => congrFun (congrArg Prod.fst a.1) q, fun q _ => congrFun (congrArg Prod.snd a.1) q, fun q j _ => congrFun (congrFun (congrArg Prod.fst a.1) q) j⟩
theorem rfr_E (h : Nat) (v : MS) (n : Nat) (f : Nat → Int64) : rfr h v (eW v n f) := ⟨fun k _ _ _ _ _ q _ _ => by rw [vi_E, if_neg q], fun _ _ => rfl, fun q n => by rw [vr_E, if_neg n], fun _ _ _ => rfl⟩
theorem rfr_A (h : Nat) (v : MS) (h' : Nat) (G : Nat → Nat → Int32) : rfr h v (aW v h h' G) := ⟨fun k _ _ _ _ _ _ _ q => by rw [vi_W2, if_neg q], fun q n => va_W0 _ _ _ _ _ n, fun _ _ => rfl, fun q j n => by rw [va_W2, if_neg (by omega)]⟩
theorem rfr_I (h : Nat) (v : MS) {k : Nat} (hk : k = 27 ∨ k = 28) (x : Int32) : rfr h v (tI v k x) := ⟨fun j _ _ _ _ _ _ a b => by rw [vi_I, if_neg (by omega)], fun _ _ => rfl, fun _ _ => rfl, fun _ _ _ => rfl⟩
def efr (v v' : MS) : Prop := (∀ k, k ≠ 0 → k ≠ 5 → k ≠ 6 → k ≠ 7 → k ≠ 9 → k ≠ 10 → k ≠ 21 → k ≠ 27 → k ≠ 28 → Vi v' k = Vi v k) ∧ (∀ q, ¬ (29 ≤ q ∧ q ≤ 32) → Va v' q = Va v q) ∧ (∀ q, q ≠ 22 → Vr v' q = Vr v q)
theorem efr_t {h : Nat} {v v' v'' : MS} (a : rfr h v v') (b : efr v' v'') : efr v v'' := ⟨fun k h0 h1 h2 h3 h4 h5 h6 h7 h8 => (b.1 k h0 h1 h2 h3 h4 h5 h6 h7 h8).trans (a.1 k h1 h2 h3 h4 h5 h6 h7 h8), fun q n => (b.2.1 q n).trans (a.2.1 q n), fun q n => (b.2.2 q n).trans (a.2.2.1 q n)⟩
theorem efr_0 (v : MS) (x : Int32) : efr v (tI v 0 x) := ⟨fun k h0 _ _ _ _ _ _ _ _ => by rw [vi_I, if_neg h0], fun _ _ => rfl, fun _ _ => rfl⟩
theorem gMSG_rf {Z : CZ} {u : CS} {v v' : MS} {cn : Nat → Nat} {h : Nat} (hM : gMSG Z u v cn) (f : rfr h v v') : gMSG Z u v' cn := gMSG_fr hM (fun _ _ => rfl) (fun _ _ => rfl) (f.2.1 2 (by omega)) (f.2.2.1 1 (by omega))
/-- both have n words, l left; h pointers wait in the reference; outside E the words are the same -/
def zSim (Z : CZ) (u : CS) (v : MS) (cn : Nat → Nat) (n l h : Nat) (E : Nat → Prop) : Prop :=
  gMSG Z u v cn ∧ Us u (Zz Z 9) = nI n ∧ Vi v 21 = nI n ∧ Ui u 0 = nI l ∧ Vi v 27 = nI l ∧ Vi v 28 = nI h ∧ n + l ≤ 64 ∧ h ≤ n ∧ ∀ j, j < n → ¬ E j → Uc u (Zc Z (Zz Z 9)) j = Vr v 22 j
def zRun (v v' : MS) (k : Nat) : Prop := ∀ f, pX6_form_46 (f + k) v = pX6_form_46 f v'
def zErr (v w : MS) (k : Nat) : Prop := ∀ f, pX6_form_46 (f + k) v = some (w, 0)
theorem zRun_t {a b c : MS} {k m : Nat} (h : zRun a b k) (h2 : zRun b c m) : zRun a c (k + m) := fun f => by
  rw [show f + (k + m) = (f + m) + k by omega, h (f + m), h2 f]
theorem zErr_t {a b c : MS} {k m : Nat} (h : zRun a b k) (h2 : zErr b c m) : zErr a c (k + m) := fun f => by
  rw [show f + (k + m) = (f + m) + k by omega, h (f + m), h2 f]
def stk (v : MS) (j w s a d : Nat) : Prop := Va v 29 j = nI w ∧ Va v 30 j = nI s ∧ Va v 31 j = nI a ∧ Va v 32 j = nI d
theorem m_pop {v : MS} {j w s a d : Nat} (h : Vi v 28 = nI (j + 1)) (hj : j < 200) (hk : stk v j w s a d) (hs : s < 4) (ha : a < 64) (f : Nat) : pX6_form_46 (f + 1) v = if Vr v 1 (64 * s + a) = 0 then pX6_form_46 f (tI v 28 (nI j)) else (pX6_find (tI v 28 (nI j)) (nI s) (nI a) (nI d) (Vi v 27)).bind fun x => if x.2 = 0 then (pX6_write x.1 (nI w) (nI d)).bind fun y => pX6_form_46 f y.1 else if x.2 = 1 then some (tI x.1 0 1, 0) else if x.2 = 2 then some (tI x.1 0 3, 0) else some (tI x.1 0 4, 0) := by
  obtain ⟨k1, k2, k3, k4⟩ := hk
  rw [pX6_form_46_s, h, if_neg (nI_nle (by omega) (by omega)), nI_p1]
  simp only [Option.bind_some]
  rw [inT (by omega) (by omega), nI_clamp (by omega), k1, k2, k3, k4]
  simp only [Option.bind_some, if_true]
  rw [il64, pk_mul, nI_add, inT (by omega) (by omega), nI_clamp (by omega), if_pos rfl]
  rfl
/-- what a writer of objects at a depth does, beside the reference's -/
def zObj (R : zRT) (Z : CZ) (dp : Nat) : Prop := ∀ (u : CS) (v : MS) (cn : Nat → Nat) (n l h : Nat) (E : Nat → Prop) (sh co po ed sg bg ct word : Nat),
  obOk cn sh co po ed sg bg → obK sh co po ed ct → obF u (Zl Z dp) sh co po ed sg bg dp → obV v sh co po ed sg bg ct → gMSG Z u v cn → Us u (Zz Z 9) = nI n → Vi v 21 = nI n → Ui u 0 = nI l → Vi v 27 = nI (l + ct) → Vi v 28 = nI h → n + l + ct ≤ 64 → h ≤ n → word < n → ¬ E word → (∀ j, j < n → ¬ E j → Uc u (Zc Z (Zz Z 9)) j = Vr v 22 j) → (∀ j, E j → j < n) →
  ∃ r v1, R Z u (Zl Z dp) (nI word) = some r ∧ pX6_write v (nI word) (nI dp) = some (v1, ()) ∧ ffr Z dp u r.1 ∧
    ((r.2 = .inr () ∧ ∃ K v2 n' l', zRun v1 v2 K ∧ n ≤ n' ∧ K ≤ n' - n ∧ zSim Z r.1 v2 cn n' l' h E ∧ rfr h v v2 ∧ ∀ j, j < n → j ≠ word → Vr v2 22 j = Vr v 22 j) ∨
     (∃ e K w, r.2 = .inl e ∧ e ∈ [1, 2, 3, 4] ∧ K ≤ 64 - n ∧ zErr v1 w K ∧ Vi w 0 = lco1 e ∧ efr v w))
theorem z_ptrs {R : zRT} {Z : CZ} {dp : Nat} (hd : zdist Z) (hdp : dp ≤ 8) (hR : dp + 1 ≤ 8 → zObj R Z (dp + 1)) {cn : Nat → Nat} {sg b c t h : Nat} {E : Nat → Prop} (hs : sg < 4) (hcn : cn sg ≤ 64) (hb : b + c ≤ cn sg) (hE : ∀ m, m < c → ¬ E (t + m)) :
    ∀ (r k : Nat) (u : CS) (v : MS) (n l fuel : Nat), k + r = c → r < fuel → Uf u 4 (Zl Z dp) = nI sg → Uf u 6 (Zl Z dp) = nI dp → t + c ≤ n → zSim Z u v cn n l (h + r) E → (∀ m, k ≤ m → m < c → stk v (h + (c - 1 - m)) (t + m) sg (b + m) (dp + 1)) → (∀ j, E j → j < n) →
    ∃ res, pX1_writePointers_3 R Z (Zl Z dp) fuel u (nI b) (nI c) (nI t) (nI k) = some res ∧ ffr Z dp u res.1 ∧
      ((res.2 = .inr () ∧ ∃ K v2 n' l', zRun v v2 K ∧ n ≤ n' ∧ K ≤ r + (n' - n) ∧ zSim Z res.1 v2 cn n' l' h E ∧ rfr h v v2 ∧ ∀ j, j < n → (j < t ∨ t + c ≤ j) → Vr v2 22 j = Vr v 22 j) ∨
       (∃ e K w, res.2 = .inl e ∧ e ∈ [1, 2, 3, 4] ∧ K ≤ r + (64 - n) ∧ zErr v w K ∧ Vi w 0 = lco1 e ∧ efr v w)) := by
  intro r
  induction r with
  | zero =>
    intro k u v n l fuel hk hf h4 h6 ht hS hst hEn
    obtain ⟨fuel, rfl⟩ : ∃ m, fuel = m + 1 := ⟨fuel - 1, by omega⟩
    have : k = c := by omega
    subst this
    refine ⟨(u, .inr ()), ?_, ffr_r _ _ _, Or.inl ⟨rfl, 0, v, n, l, fun _ => rfl, Nat.le_refl _, by omega, hS, rfr_r _ _, fun _ _ _ => rfl⟩⟩
    rw [pX1_writePointers_3_s, if_pos (nI_le (by omega) (by omega))]
  | succ r ih =>
    intro k u v n l fuel hk hf h4 h6 ht hS hst hEn
    obtain ⟨fuel, rfl⟩ : ∃ m, fuel = m + 1 := ⟨fuel - 1, by omega⟩
    obtain ⟨g1, g2, g3, g4, g5, g6, g7, g8, g9⟩ := hS
    have hst0 := hst k (by omega) (by omega)
    rw [show h + (c - 1 - k) = h + r by omega] at hst0
    have hpop := m_pop (v := v) (j := h + r) (by rw [g6]; rfl) (by omega) hst0 hs (by omega)
    have ea := c_at g1 hs (show b + k < cn sg by omega)
    have hM2 : gMSG Z u (tI v 28 (nI (h + r))) cn := gMSG_rf g1 (rfr_I 0 v (Or.inr rfl) _)
    rw [pX1_writePointers_3_s, if_neg (nI_ge (by omega) (by omega)), h4, nI_add, ea]
    simp only [Option.bind_some]
    by_cases hw : Vr v 1 (64 * sg + (b + k)) = 0
    · rw [if_pos hw, nI_1]
      obtain ⟨res, e1, e2, e3⟩ := ih (k + 1) u (tI v 28 (nI (h + r))) n l fuel (by omega) (by omega) h4 h6 ht ⟨hM2, g2, by simp [vi_I]; exact g3, g4, by simp [vi_I]; exact g5, by simp [vi_I], g7, by omega, g9⟩ (fun m h1 h2 => hst m (by omega) h2) hEn
      have hrun : zRun v (tI v 28 (nI (h + r))) 1 := fun f => by rw [hpop f, if_pos hw]
      have hrf : rfr h v (tI v 28 (nI (h + r))) := rfr_I h v (Or.inr rfl) _
      refine ⟨res, e1, e2, ?_⟩
      rcases e3 with ⟨q1, K, v2, n', l', q2, q3, q4, q5, q6, q7⟩ | ⟨e, K, w, q1, q2, q3, q4, q5, q6⟩
      · exact Or.inl ⟨q1, 1 + K, v2, n', l', zRun_t hrun q2, q3, by omega, q5, rfr_t hrf q6, q7⟩
      · exact Or.inr ⟨e, 1 + K, w, q1, q2, by omega, zErr_t hrun q4, q5, efr_t hrf q6⟩
    · rw [if_neg hw, h6, nI_1, inT (by omega) (by omega), nI_clamp (by omega), if_pos rfl, g4]
      have hne : Zl Z dp ≠ Zl Z (dp + 1) := fun q => by
        rw [fd_l (by omega), fd_l (by omega)] at q
        exact zd_f hd (by omega) (by omega) (by omega) q
      obtain ⟨⟨u1, oo⟩, w, cc, ef, em, f1, f2, hf⟩ := z_find (a := Zl Z (dp + 1)) (a1 := Zl Z dp) hM2 h4 h6 hdp hne hs (show b + k < cn sg by omega) hw (show l ≤ 63 by omega)
      have hrfw : rfr h v w := rfr_t (rfr_I h v (Or.inr rfl) (nI (h + r))) (rfr_f f2)
      have hffr : ffr Z dp u u1 := ffr_z (by omega) f1
      rw [ef]
      simp only [Option.bind_some]
      have hpop2 : ∀ f, pX6_form_46 (f + 1) v = if cc = 0 then (pX6_write w (nI (t + k)) (nI (dp + 1))).bind fun y => pX6_form_46 f y.1 else if cc = 1 then some (tI w 0 1, 0) else if cc = 2 then some (tI w 0 3, 0) else some (tI w 0 4, 0) := fun f => by
        rw [hpop f, if_neg hw, g5, em]
        rfl
      rcases hf with ⟨g, rfl⟩ | ⟨g, rfl⟩ | ⟨g, rfl⟩ | ⟨rfl, hdp1, sh', co', po', ed', sg', bg', ct, k1, k2, k3, g, k5, k6⟩
      · simp only at g
        subst g
        refine ⟨(u1, .inl 3), rfl, hffr, Or.inr ⟨3, 1, tI w 0 3, rfl, by decide, by omega, fun f => ?_, by simp [vi_I]; rfl, efr_t hrfw (efr_0 w 3)⟩⟩
        rw [hpop2 f, if_neg (by decide), if_neg (by decide), if_pos rfl]
      · simp only at g
        subst g
        refine ⟨(u1, .inl 1), rfl, hffr, Or.inr ⟨1, 1, tI w 0 1, rfl, by decide, by omega, fun f => ?_, by simp [vi_I]; rfl, efr_t hrfw (efr_0 w 1)⟩⟩
        rw [hpop2 f, if_neg (by decide), if_pos rfl]
      · simp only at g
        subst g
        refine ⟨(u1, .inl 4), rfl, hffr, Or.inr ⟨4, 1, tI w 0 4, rfl, by decide, by omega, fun f => ?_, by simp [vi_I]; rfl, efr_t hrfw (efr_0 w 4)⟩⟩
        rw [hpop2 f, if_neg (by decide), if_neg (by decide), if_neg (by decide)]
      · simp only at g k5
        subst g
        simp only [Option.bind_some]
        have w28 : Vi w 28 = nI (h + r) := (f2.2 28 (by omega) (by omega) (by omega) (by omega) (by omega)).trans (by simp [vi_I])
        have w27 : Vi w 27 = nI l := (f2.2 27 (by omega) (by omega) (by omega) (by omega) (by omega)).trans (by simp [vi_I]; exact g5)
        have w21 : Vi w 21 = nI n := (f2.2 21 (by omega) (by omega) (by omega) (by omega) (by omega)).trans (by simp [vi_I]; exact g3)
        have wr : Vr w = Vr v := congrArg Prod.snd f2.1
        have uS : Us u1 = Us u := congrArg Prod.fst f1.1
        have uC : Uc u1 = Uc u := congrArg (fun x => x.2.1) f1.1
        have hM3 : gMSG Z (sI u1 0 (nI (l - ct))) w cn := gMSG_fr (gMSG_zm hM2 f1 f2) (fun _ _ => rfl) (fun _ _ => rfl) rfl rfl
        obtain ⟨⟨u2, o2⟩, v1, e1, e2, e3, e4⟩ := hR hdp1 (sI u1 0 (nI (l - ct))) w cn n (l - ct) (h + r) E sh' co' po' ed' sg' bg' ct (t + k) k1 k2 k5 k6 hM3 (by show Us u1 _ = _; rw [uS]; exact g2) w21 (by simp [ui_I]) (by rw [w27, show l - ct + ct = l by omega]) w28 (by omega) (by omega) (by omega) (hE k (by omega)) (fun j h1 h2 => by show Uc u1 _ _ = _; rw [uC, wr]; exact g9 j h1 h2) hEn
        rw [pk_sub k3, nI_add, e1]
        have hf2 : ffr Z dp u u2 := ffr_t hffr (ffr_t (ffr_I Z dp u1 _) (ffr_m (by omega) e3))
        have hrun1 : zRun v v1 1 := fun f => by rw [hpop2 f, if_pos rfl, e2]; rfl
        rcases e4 with ⟨q1, K, v2, n', l', q2, q3, q4, q5, q6, q7⟩ | ⟨e, K, w', q1, q2, q3, q4, q5, q6⟩
        · simp only at q1 q5
          subst q1
          simp only [Option.bind_some]
          have hl : ∀ kk, Uf u2 kk (Zl Z dp) = Uf u kk (Zl Z dp) := fun kk => ffr_l hd hf2 (Nat.le_refl _) (by omega) kk
          have hrv2 : rfr h v v2 := rfr_t hrfw (rfr_m (by omega) q6)
          have hfull : rfr (h + r) v v2 := rfr_t (rfr_t (rfr_I (h + r) v (Or.inr rfl) (nI (h + r))) (rfr_f f2)) q6
          obtain ⟨res, i1, i2, i3⟩ := ih (k + 1) u2 v2 n' l' fuel (by omega) (by omega) ((hl 4).trans h4) ((hl 6).trans h6) (by omega) q5 (fun m h1 h2 => by
            obtain ⟨s1, s2, s3, s4⟩ := hst m (by omega) h2
            have hj : h + (c - 1 - m) < h + r := by omega
            exact ⟨(hfull.2.2.2 29 _ hj).trans s1, (hfull.2.2.2 30 _ hj).trans s2, (hfull.2.2.2 31 _ hj).trans s3, (hfull.2.2.2 32 _ hj).trans s4⟩) (fun j q => by have := hEn j q; omega)
          refine ⟨res, by rw [nI_1]; exact i1, ffr_t hf2 i2, ?_⟩
          have hrun2 : zRun v v2 (1 + K) := zRun_t hrun1 q2
          rcases i3 with ⟨p1, K2, v3, n2, l2, p2, p3, p4, p5, p6, p7⟩ | ⟨e, K2, w2, p1, p2, p3, p4, p5, p6⟩
          · refine Or.inl ⟨p1, (1 + K) + K2, v3, n2, l2, zRun_t hrun2 p2, by omega, by omega, p5, rfr_t hrv2 p6, fun j h1 h2 => ?_⟩
            rw [p7 j (by omega) h2, q7 j h1 (by omega), wr]
          · have hn64 := q5.2.2.2.2.2.2.1
            exact Or.inr ⟨e, (1 + K) + K2, w2, p1, p2, by omega, zErr_t hrun2 p4, p5, efr_t hrv2 p6⟩
        · simp only at q1
          subst q1
          exact ⟨(u2, .inl e), rfl, hf2, Or.inr ⟨e, 1 + K, w', rfl, q2, by omega, zErr_t hrun1 q4, q5, efr_t hrfw q6⟩⟩
