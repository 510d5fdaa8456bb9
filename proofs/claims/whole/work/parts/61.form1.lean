/-! ===== rows that are written: trailing zeros, filling ===== -/
def zus (f : Nat → Int64) : Nat → Nat | 0 => 0 | n + 1 => if f n = 0 then zus f n else n + 1
theorem zus_le (f : Nat → Int64) : ∀ n, zus f n ≤ n := by
  intro n
  induction n with
  | zero => exact Nat.le_refl 0
  | succ n ih =>
    unfold zus
    split <;> omega
theorem zus_congr {f g : Nat → Int64} : ∀ n, (∀ k, k < n → f k = g k) → zus f n = zus g n := by
  intro n
  induction n with
  | zero => intro _; rfl
  | succ n ih =>
    intro h
    unfold zus
    rw [h n (by omega), ih (fun k hk => h k (by omega))]
def zfil (f : Nat → Int64) (n c : Nat) (g : Nat → Int64) : Nat → Int64 := fun j => if n ≤ j ∧ j < n + c then g (j - n) else f j
theorem zfil_0 (f : Nat → Int64) (n : Nat) (g : Nat → Int64) : zfil f n 0 g = f := funext fun j => by
  unfold zfil
  rw [if_neg (by omega)]
theorem zfil_s (f : Nat → Int64) (n c : Nat) (g : Nat → Int64) : vp_updL (zfil f n c g) (n + c) (g c) = zfil f n (c + 1) g := funext fun j => by
  unfold zfil vp_updL
  by_cases h : j = n + c
  · rw [if_pos h, if_pos (by omega), h, Nat.add_sub_cancel_left]
  · rw [if_neg h]
    show (if n ≤ j ∧ j < n + c then g (j - n) else f j) = _
    by_cases q : n ≤ j ∧ j < n + c
    · rw [if_pos q, if_pos (by omega)]
    · rw [if_neg q, if_neg (by omega)]
theorem zfil_in (f : Nat → Int64) {n c j : Nat} (g : Nat → Int64) (h : n ≤ j) (h2 : j < n + c) : zfil f n c g j = g (j - n) := by
  unfold zfil
  rw [if_pos ⟨h, h2⟩]
theorem zfil_out (f : Nat → Int64) {n c j : Nat} (g : Nat → Int64) (h : j < n ∨ n + c ≤ j) : zfil f n c g j = f j := by
  unfold zfil
  rw [if_neg (by omega)]
theorem zup_eq (f : Nat → Int64) (k : Nat) (x : Int64) : vp_updL f k x k = x := pk_uLs
theorem zup_ne (f : Nat → Int64) {k j : Nat} (x : Int64) (h : j ≠ k) : vp_updL f k x j = f j := pk_uLn h
theorem nI_mp (c : Nat) : nI c + (-1) = nI c - 1 := by rw [Int32.sub_eq_add_neg]
theorem nI_p1 (c : Nat) : nI (c + 1) - 1 = nI c := nI_pred c
theorem nI_mn : nI 0 - 1 < 0 := by decide
/-! ===== the draft of the class ===== -/
def dW (Z : CZ) (u : CS) (n : Nat) (f : Nat → Int64) : CS := sS (sC u (Zc Z (Zz Z 9)) f) (Zz Z 9) (nI n)
theorem uf_D (Z : CZ) (u : CS) (n : Nat) (f : Nat → Int64) : Uf (dW Z u n f) = Uf u := rfl
theorem ui_D (Z : CZ) (u : CS) (n : Nat) (f : Nat → Int64) : Ui (dW Z u n f) = Ui u := rfl
theorem us_D (Z : CZ) (u : CS) (n : Nat) (f : Nat → Int64) (b : Nat) : Us (dW Z u n f) b = if b = Zz Z 9 then nI n else Us u b := us_S _ _ _ _
theorem uc_D (Z : CZ) (u : CS) (n : Nat) (f : Nat → Int64) (b : Nat) : Uc (dW Z u n f) b = if b = Zc Z (Zz Z 9) then f else Uc u b := uc_C _ _ _ _
theorem us_D9 (Z : CZ) (u : CS) (n : Nat) (f : Nat → Int64) : Us (dW Z u n f) (Zz Z 9) = nI n := by rw [us_D, if_pos rfl]
theorem uc_D9 (Z : CZ) (u : CS) (n : Nat) (f : Nat → Int64) : Uc (dW Z u n f) (Zc Z (Zz Z 9)) = f := by rw [uc_D, if_pos rfl]
theorem dW_dW (Z : CZ) (u : CS) (n m : Nat) (f g : Nat → Int64) : dW Z (dW Z u n f) m g = dW Z u m g := by
  show ((u.1, mu (mu u.2.1 (Zz Z 9) (nI n)) (Zz Z 9) (nI m), mu (mu u.2.2.1 (Zc Z (Zz Z 9)) f) (Zc Z (Zz Z 9)) g, u.2.2.2) : CS) = _
  rw [mu_mu, mu_mu]
  rfl
theorem dW_same (Z : CZ) (u : CS) {n : Nat} (h : Us u (Zz Z 9) = nI n) : dW Z u n (Uc u (Zc Z (Zz Z 9))) = u := by
  show ((u.1, mu u.2.1 (Zz Z 9) (nI n), mu u.2.2.1 (Zc Z (Zz Z 9)) (Uc u (Zc Z (Zz Z 9))), u.2.2.2) : CS) = _
  rw [← h, mu_same, mu_same]
theorem gMSG_dW {Z : CZ} {u : CS} {v : MS} {cn : Nat → Nat} (hd : zdist Z) (h : gMSG Z u v cn) (n : Nat) (f : Nat → Int64) : gMSG Z (dW Z u n f) v cn := gMSG_fr h (fun s hs => by
  rw [us_D, if_neg]
  rw [rw_s hs, rw_9]
  exact zd_r hd (by omega) (by omega) (by omega)) (fun s hs => by
  rw [uc_D, if_neg]
  rw [rw_s hs, rw_9]
  exact zd_c hd (by omega) (by omega) (by omega)) rfl rfl
theorem c_put {Z : CZ} {u : CS} {n t : Nat} (h : Us u (Zz Z 9) = nI n) (hn : n ≤ 64) (ht : t < n) (x : Int64) : pX4_put Z u (Zz Z 9) (nI t) x = some (dW Z u n (vp_updL (Uc u (Zc Z (Zz Z 9))) t x), ()) := by
  have e : sC u (Zc Z (Zz Z 9)) (vp_updL (Uc u (Zc Z (Zz Z 9))) t x) = dW Z u n (vp_updL (Uc u (Zc Z (Zz Z 9))) t x) := by
    show _ = ((u.1, mu u.2.1 (Zz Z 9) (nI n), mu u.2.2.1 (Zc Z (Zz Z 9)) _, u.2.2.2) : CS)
    rw [← h, mu_same]
    rfl
  rw [← e]
  simp (disch := omega) [pX4_put, h, il0, il1, il2, il3, il4, il5, il6, il7, il8, il10, il16, il31, il32, il48, il35, il63, il64, ltT, ltF, leT, leF, eqT, eqF, inT, nI_clamp, nI_add, pk_sub, pk_mul]
theorem c_rat {Z : CZ} {u : CS} {n t : Nat} (h : Us u (Zz Z 9) = nI n) (hn : n ≤ 64) (ht : t < n) : pX4_at Z u (Zz Z 9) (nI t) = some (Uc u (Zc Z (Zz Z 9)) t) := by
  simp (disch := omega) [pX4_at, h, il0, il1, il2, il3, il4, il5, il6, il7, il8, il10, il16, il31, il32, il48, il35, il63, il64, ltT, ltF, leT, leF, eqT, eqF, inT, nI_clamp, nI_add, pk_sub, pk_mul]
theorem c_grow {Z : CZ} {u : CS} {n c : Nat} (h : Us u (Zz Z 9) = nI n) (hn : n + c ≤ 64) : pX1_grow Z u (nI c) = some (dW Z u (n + c) (zfil (Uc u (Zc Z (Zz Z 9))) n c (fun _ => 0)), nI n) := by
  have key : ∀ (r k fuel : Nat), k + r = c → r < fuel → pX1_grow_10 Z fuel (dW Z u (n + k) (zfil (Uc u (Zc Z (Zz Z 9))) n k (fun _ => 0))) (nI c) (nI n) (nI k) = some (dW Z u (n + c) (zfil (Uc u (Zc Z (Zz Z 9))) n c (fun _ => 0)), nI n) := by
    intro r
    induction r with
    | zero =>
      intro k fuel hk hf
      obtain ⟨fuel, rfl⟩ : ∃ m, fuel = m + 1 := ⟨fuel - 1, by omega⟩
      have : k = c := by omega
      subst this
      rw [pX1_grow_10_s, if_pos (nI_le (by omega) (by omega))]
    | succ r ih =>
      intro k fuel hk hf
      obtain ⟨fuel, rfl⟩ : ∃ m, fuel = m + 1 := ⟨fuel - 1, by omega⟩
      have e : pX4_append Z (dW Z u (n + k) (zfil (Uc u (Zc Z (Zz Z 9))) n k (fun _ => 0))) (Zz Z 9) 0 = some (dW Z u (n + (k + 1)) (zfil (Uc u (Zc Z (Zz Z 9))) n (k + 1) (fun _ => 0)), 1) := by
        unfold pX4_append
        rw [us_D9, uc_D9, inT (by omega) (by omega), nI_clamp (by omega), il64, if_pos (nI_lt (by omega) (by omega)), if_pos rfl, show vp_updL (zfil (Uc u (Zc Z (Zz Z 9))) n k (fun _ => 0)) (n + k) 0 = _ from zfil_s (Uc u (Zc Z (Zz Z 9))) n k (fun _ => 0), nI_1]
        show some (dW Z (dW Z u _ _) _ _, _) = _
        rw [dW_dW]
        rfl
      rw [pX1_grow_10_s, if_neg (nI_ge (by omega) (by omega)), e]
      simp only [Option.bind_some]
      rw [nI_1]
      exact ih (k + 1) fuel (by omega) (by omega)
  unfold pX1_grow
  rw [h]
  have := key c 0 300 (by omega) (by omega)
  rw [zfil_0, Nat.add_zero, dW_same Z u h] at this
  exact this
theorem c_copy {Z : CZ} {u : CS} {v : MS} {cn : Nat → Nat} (hd : zdist Z) (hM : gMSG Z u v cn) {a s i c t n : Nat} (h : Us u (Zz Z 9) = nI n) (hn : n ≤ 64) (h4 : Uf u 4 a = nI s) (hs : s < 4) (hi : i + c ≤ cn s) (ht : t + c ≤ n) : pX1_copyWords Z u a (nI i) (nI c) (nI t) = some (dW Z u n (zfil (Uc u (Zc Z (Zz Z 9))) t c (fun k => Vr v 1 (64 * s + (i + k)))), ()) := by
  have hcs := (hM s hs).1
  have key : ∀ (r k fuel : Nat), k + r = c → r < fuel → pX1_copyWords_3 Z a fuel (dW Z u n (zfil (Uc u (Zc Z (Zz Z 9))) t k (fun k => Vr v 1 (64 * s + (i + k))))) (nI i) (nI c) (nI t) (nI k) = some (dW Z u n (zfil (Uc u (Zc Z (Zz Z 9))) t c (fun k => Vr v 1 (64 * s + (i + k)))), ()) := by
    intro r
    induction r with
    | zero =>
      intro k fuel hk hf
      obtain ⟨fuel, rfl⟩ : ∃ m, fuel = m + 1 := ⟨fuel - 1, by omega⟩
      have : k = c := by omega
      subst this
      rw [pX1_copyWords_3_s, if_pos (nI_le (by omega) (by omega))]
    | succ r ih =>
      intro k fuel hk hf
      obtain ⟨fuel, rfl⟩ : ∃ m, fuel = m + 1 := ⟨fuel - 1, by omega⟩
      rw [pX1_copyWords_3_s, if_neg (nI_ge (by omega) (by omega)), uf_D, h4, nI_add, c_at (gMSG_dW hd hM _ _) hs (by omega)]
      simp only [Option.bind_some]
      rw [nI_add, c_put (us_D9 _ _ _ _) hn (by omega), uc_D9, show vp_updL (zfil (Uc u (Zc Z (Zz Z 9))) t k (fun k => Vr v 1 (64 * s + (i + k)))) (t + k) (Vr v 1 (64 * s + (i + k))) = _ from zfil_s (Uc u (Zc Z (Zz Z 9))) t k (fun k => Vr v 1 (64 * s + (i + k))), dW_dW]
      simp only [Option.bind_some]
      rw [nI_1]
      exact ih (k + 1) fuel (by omega) (by omega)
  unfold pX1_copyWords
  have := key c 0 300 (by omega) (by omega)
  rw [zfil_0, dW_same Z u h] at this
  exact this
theorem c_used {Z : CZ} {u : CS} {v : MS} {cn : Nat → Nat} (hM : gMSG Z u v cn) {s i : Nat} (hs : s < 4) : ∀ {c : Nat}, i + c ≤ cn s → pX3_usedWords Z u (nI s) (nI i) (nI c) = some (nI (zus (fun k => Vr v 1 (64 * s + (i + k))) c)) := by
  have hcs := (hM s hs).1
  have key : ∀ (c fuel : Nat), c < fuel → i + c ≤ cn s → pX3_usedWords_3 Z u fuel (nI s) (nI i) (nI c) = some (nI (zus (fun k => Vr v 1 (64 * s + (i + k))) c)) := by
    intro c
    induction c with
    | zero =>
      intro fuel hf _
      obtain ⟨fuel, rfl⟩ : ∃ m, fuel = m + 1 := ⟨fuel - 1, by omega⟩
      rw [pX3_usedWords_3_s, if_pos (by decide)]
      rfl
    | succ c ih =>
      intro fuel hf hc
      obtain ⟨fuel, rfl⟩ : ∃ m, fuel = m + 1 := ⟨fuel - 1, by omega⟩
      rw [pX3_usedWords_3_s, if_neg (nI_nle (by omega) (by omega)), nI_add, show i + (c + 1) = i + c + 1 from rfl, nI_p1, c_at hM hs (by omega)]
      simp only [Option.bind_some]
      rw [nI_mp, nI_p1, ih fuel (by omega) (by omega)]
      show _ = some (nI (if Vr v 1 (64 * s + (i + c)) = 0 then _ else c + 1))
      by_cases q : Vr v 1 (64 * s + (i + c)) = 0
      · rw [if_pos q, if_pos q]
      · rw [if_neg q, if_neg q]
  intro c hc
  exact key c 300 (by omega) hc
/-! ===== what the reference makes ===== -/
theorem ms_ext {a b : MS} (h1 : ∀ k, Vi a k = Vi b k) (h2 : ∀ k, Vl a k = Vl b k) (h3 : ∀ k j, Va a k j = Va b k j) (h4 : ∀ k, Vr a k = Vr b k) : a = b := by
  obtain ⟨a1, a2, a3, a4⟩ := a
  obtain ⟨b1, b2, b3, b4⟩ := b
  rw [show a1 = b1 from funext h1, show a2 = b2 from funext h2, show a3 = b3 from funext fun k => funext (h3 k), show a4 = b4 from funext h4]
def eW (v : MS) (n : Nat) (f : Nat → Int64) : MS := tI (tW v 22 f) 21 (nI n)
theorem vi_E (v : MS) (n : Nat) (f : Nat → Int64) (k : Nat) : Vi (eW v n f) k = if k = 21 then nI n else Vi v k := vi_I _ _ _ _
theorem vl_E (v : MS) (n : Nat) (f : Nat → Int64) : Vl (eW v n f) = Vl v := rfl
theorem va_E' (v : MS) (n : Nat) (f : Nat → Int64) : Va (eW v n f) = Va v := rfl
theorem vr_E (v : MS) (n : Nat) (f : Nat → Int64) (k : Nat) : Vr (eW v n f) k = if k = 22 then f else Vr v k := vr_W _ _ _ _
theorem vi_E21 (v : MS) (n : Nat) (f : Nat → Int64) : Vi (eW v n f) 21 = nI n := by rw [vi_E, if_pos rfl]
theorem vr_E22 (v : MS) (n : Nat) (f : Nat → Int64) : Vr (eW v n f) 22 = f := by rw [vr_E, if_pos rfl]
theorem vr_E1 (v : MS) (n : Nat) (f : Nat → Int64) : Vr (eW v n f) 1 = Vr v 1 := by rw [vr_E, if_neg (by omega)]
theorem eW_eW (v : MS) (n m : Nat) (f g : Nat → Int64) : eW (eW v n f) m g = eW v m g := ms_ext (fun k => by rw [vi_E, vi_E, vi_E]; split <;> rfl) (fun k => rfl) (fun k j => rfl) (fun k => by rw [vr_E, vr_E, vr_E]; split <;> rfl)
theorem eW_same {v : MS} {n : Nat} (h : Vi v 21 = nI n) : eW v n (Vr v 22) = v := ms_ext (fun k => by
  rw [vi_E]
  by_cases q : k = 21
  · rw [if_pos q, q, h]
  · rw [if_neg q]) (fun k => rfl) (fun k j => rfl) (fun k => by
  rw [vr_E]
  by_cases q : k = 22
  · rw [if_pos q, q]
  · rw [if_neg q])
theorem eW_R {v : MS} {n : Nat} (h : Vi v 21 = nI n) (t : Nat) (x : Int64) : tR v 22 t x = eW v n (vp_updL (Vr v 22) t x) := ms_ext (fun k => by
  rw [vi_E, vi_R]
  by_cases q : k = 21
  · rw [if_pos q, q, h]
  · rw [if_neg q]) (fun k => rfl) (fun k j => rfl) (fun k => by rw [vr_E, vr_R'])
theorem tI_tI (v : MS) (k : Nat) (x y : Int32) : tI (tI v k x) k y = tI v k y := by
  show ((mu (mu v.1 k x) k y, v.2) : MS) = _
  rw [mu_mu]
  rfl
theorem m_put {v : MS} {n : Nat} (h : Vi v 21 = nI n) (hn : n < 160) (x : Int64) : pX6_put v x = some (eW v (n + 1) (vp_updL (Vr v 22) n x), ()) := by
  unfold pX6_put
  rw [h, inT (by omega) (by omega), nI_clamp (by omega), nI_1, eW_R h, if_pos rfl]
  show some (tI (tI _ 21 _) 21 _, ()) = _
  rw [tI_tI]
  rfl
theorem m_used {v : MS} {p : Nat} : ∀ {c : Nat}, p + c ≤ 256 → pX6_without v (nI p) (nI c) = some (nI (zus (fun k => Vr v 1 (p + k)) c)) := by
  have key : ∀ (c fuel : Nat), c < fuel → p + c ≤ 256 → pX6_without_2 v fuel (nI p) (nI c) = some (nI (zus (fun k => Vr v 1 (p + k)) c)) := by
    intro c
    induction c with
    | zero =>
      intro fuel hf _
      obtain ⟨fuel, rfl⟩ : ∃ m, fuel = m + 1 := ⟨fuel - 1, by omega⟩
      rw [pX6_without_2_s, if_pos (by decide)]
      rfl
    | succ c ih =>
      intro fuel hf hc
      obtain ⟨fuel, rfl⟩ : ∃ m, fuel = m + 1 := ⟨fuel - 1, by omega⟩
      rw [pX6_without_2_s, if_neg (nI_nle (by omega) (by omega)), nI_add, show p + (c + 1) = p + c + 1 from rfl, nI_p1, inT (by omega) (by omega), nI_clamp (by omega), nI_mp, nI_p1, ih fuel (by omega) (by omega), if_pos rfl]
      show _ = some (nI (if Vr v 1 (p + c) = 0 then _ else c + 1))
      by_cases q : Vr v 1 (p + c) = 0
      · rw [if_pos q, if_pos q]
      · rw [if_neg q, if_neg q]
  intro c hc
  exact key c 300 (by omega) hc
/-- places h .. of the row that waits hold G -/
def aW (v : MS) (h h' : Nat) (G : Nat → Nat → Int32) : MS := (mu v.1 28 (nI h'), v.2.1, fun q => if 29 ≤ q ∧ q ≤ 32 then (fun j => if h ≤ j ∧ j < h' then G q j else Va v q j) else Va v q, v.2.2.2)
theorem vi_W2 (v : MS) (h h' : Nat) (G : Nat → Nat → Int32) (k : Nat) : Vi (aW v h h' G) k = if k = 28 then nI h' else Vi v k := mu_if _ _ _ _
theorem vl_W2 (v : MS) (h h' : Nat) (G : Nat → Nat → Int32) : Vl (aW v h h' G) = Vl v := rfl
theorem vr_W2 (v : MS) (h h' : Nat) (G : Nat → Nat → Int32) : Vr (aW v h h' G) = Vr v := rfl
theorem va_W2 (v : MS) (h h' : Nat) (G : Nat → Nat → Int32) (q j : Nat) : Va (aW v h h' G) q j = if 29 ≤ q ∧ q ≤ 32 ∧ h ≤ j ∧ j < h' then G q j else Va v q j := by
  show (if 29 ≤ q ∧ q ≤ 32 then (fun j => if h ≤ j ∧ j < h' then G q j else Va v q j) else Va v q) j = _
  by_cases a : 29 ≤ q ∧ q ≤ 32
  · rw [if_pos a]
    show (if h ≤ j ∧ j < h' then G q j else Va v q j) = _
    by_cases b : h ≤ j ∧ j < h'
    · rw [if_pos b, if_pos ⟨a.1, a.2, b.1, b.2⟩]
    · rw [if_neg b, if_neg (fun c => b ⟨c.2.2.1, c.2.2.2⟩)]
  · rw [if_neg a, if_neg (fun c => a ⟨c.1, c.2.1⟩)]
theorem va_W0 (v : MS) (h h' : Nat) (G : Nat → Nat → Int32) (q : Nat) (hq : ¬ (29 ≤ q ∧ q ≤ 32)) : Va (aW v h h' G) q = Va v q := by
  show (if 29 ≤ q ∧ q ≤ 32 then _ else Va v q) = _
  rw [if_neg hq]
theorem aW_same {v : MS} {h : Nat} (e : Vi v 28 = nI h) (G : Nat → Nat → Int32) : aW v h h G = v := ms_ext (fun k => by
  rw [vi_W2]
  by_cases q : k = 28
  · rw [if_pos q, q, e]
  · rw [if_neg q]) (fun k => rfl) (fun k j => by rw [va_W2, if_neg (by omega)]) (fun k => rfl)
theorem m_await {v : MS} {h h' : Nat} (hh : h ≤ h') (hn : h' < 200) (G : Nat → Nat → Int32) : pX6_await (aW v h h' G) (G 29 h') (G 30 h') (G 31 h') (G 32 h') = some (aW v h (h' + 1) G, ()) := by
  unfold pX6_await
  rw [show Vi (aW v h h' G) 28 = nI h' from by rw [vi_W2, if_pos rfl], inT (by omega) (by omega), nI_clamp (by omega), nI_1]
  simp only [if_true, Option.bind_some]
  congr 2
  refine ms_ext (fun k => ?_) (fun k => rfl) (fun q j => ?_) (fun k => rfl)
  · rw [vi_I, vi_W2]
    by_cases e : k = 28
    · rw [if_pos e, if_pos e]
    · rw [if_neg e, if_neg e]
      show Vi (aW v h h' G) k = _
      rw [vi_W2, if_neg e]
  · rw [va_I, vA_A, vA_A, vA_A, vA_A, va_W2, va_W2]
    by_cases a : 29 ≤ q ∧ q ≤ 32
    · have hq : q = 29 ∨ q = 30 ∨ q = 31 ∨ q = 32 := by omega
      by_cases b : j = h'
      · subst b
        rcases hq with rfl | rfl | rfl | rfl <;> simp [hh]
      · by_cases c : h ≤ j ∧ j < h'
        · rcases hq with rfl | rfl | rfl | rfl <;> simp [b, c.1, c.2, show j < h' + 1 by omega]
        · have c2 : ¬ (h ≤ j ∧ j < h' + 1) := by omega
          rcases hq with rfl | rfl | rfl | rfl <;> simp [b, c, c2]
    · have h1 : ¬ (29 ≤ q ∧ q ≤ 32 ∧ h ≤ j ∧ j < h') := fun c => a ⟨c.1, c.2.1⟩
      have h2 : ¬ (29 ≤ q ∧ q ≤ 32 ∧ h ≤ j ∧ j < h' + 1) := fun c => a ⟨c.1, c.2.1⟩
      rw [if_neg h1, if_neg h2, if_neg (by omega), if_neg (by omega), if_neg (by omega), if_neg (by omega)]
