/-! ===== the reference writes a list of structs ===== -/
def zmx (f : Nat → Nat) : Nat → Nat | 0 => 0 | e + 1 => if zmx f e < f e then f e else zmx f e
theorem zmx_le {f : Nat → Nat} {B : Nat} : ∀ m, (∀ e, e < m → f e ≤ B) → zmx f m ≤ B := by
  intro m
  induction m with
  | zero => intro _; exact Nat.zero_le _
  | succ m ih =>
    intro h
    have h1 := ih (fun e he => h e (by omega))
    have h2 := h m (by omega)
    unfold zmx
    split <;> omega
theorem zfil_app (f : Nat → Int64) (n c c' : Nat) (T : Nat → Int64) : zfil (zfil f n c T) (n + c) c' (fun k => T (c + k)) = zfil f n (c + c') T := funext fun j => by
  by_cases h : n + c ≤ j ∧ j < n + c + c'
  · rw [zfil_in _ _ h.1 h.2, zfil_in _ _ (by omega) (by omega), show c + (j - (n + c)) = j - n by omega]
  · rw [zfil_out _ _ (by omega)]
    by_cases q : n ≤ j ∧ j < n + c
    · rw [zfil_in _ _ q.1 q.2, zfil_in _ _ q.1 (by omega)]
    · rw [zfil_out _ _ (by omega), zfil_out _ _ (by omega)]
theorem m_199 {kf : MS → Int32 → Int32 → Int32 → Int32 → Int32 → Int32 → Int32 → Option (MS × Unit)} {v : MS} {N sg bg e wide d p : Nat} {F T : Nat → Int64} {dep m to : Nat} (h6 : Vi v 6 = nI sg) (h7 : Vi v 7 = nI bg) (hn : N + (d + p) ≤ 160) (hT : ∀ k, k < d + p → (k < d → 64 * sg + bg + e * wide + k < 256 ∧ Vr v 1 (64 * sg + bg + e * wide + k) = T k) ∧ (d ≤ k → T k = 0)) : ∀ (r k fuel : Nat), k + r = d + p → r < fuel →
    pX6_writeElements_199 kf fuel (eW v (N + k) (zfil F N k T)) (nI dep) (nI m) (nI wide) (nI d) (nI p) (nI to) (nI e) (nI k) = kf (eW v (N + (d + p)) (zfil F N (d + p) T)) (nI dep) (nI m) (nI wide) (nI d) (nI p) (nI to) (nI (e + 1)) := by
  intro r
  induction r with
  | zero =>
    intro k fuel hk hf
    obtain ⟨fuel, rfl⟩ : ∃ m, fuel = m + 1 := ⟨fuel - 1, by omega⟩
    have : k = d + p := by omega
    subst this
    rw [pX6_writeElements_199_s, nI_add, if_pos (nI_le (by omega) (by omega)), nI_1]
  | succ r ih =>
    intro k fuel hk hf
    obtain ⟨fuel, rfl⟩ : ∃ m, fuel = m + 1 := ⟨fuel - 1, by omega⟩
    obtain ⟨t1, t2⟩ := hT k (by omega)
    have hput : ∀ x, x = T k → pX6_writeElements_247 kf (fun u9 x0 x1 x2 x3 x4 x5 x6 x7 => pX6_writeElements_199 kf fuel u9 x0 x1 x2 x3 x4 x5 x6 x7) (eW v (N + k) (zfil F N k T)) (nI dep) (nI m) (nI wide) (nI d) (nI p) (nI to) (nI e) (nI k) x = pX6_writeElements_199 kf fuel (eW v (N + (k + 1)) (zfil F N (k + 1) T)) (nI dep) (nI m) (nI wide) (nI d) (nI p) (nI to) (nI e) (nI (k + 1)) := fun x hx => by
      unfold pX6_writeElements_247
      rw [hx, m_put (vi_E21 _ _ _) (by omega), vr_E22, eW_eW, zfil_s]
      simp only [Option.bind_some]
      rw [nI_1]
      rfl
    rw [pX6_writeElements_199_s, nI_add, if_neg (nI_ge (by omega) (by omega))]
    by_cases q : d ≤ k
    · rw [if_pos (nI_le q (by omega)), hput 0 (t2 q).symm]
      exact ih (k + 1) fuel (by omega) (by omega)
    · obtain ⟨t3, t4⟩ := t1 (by omega)
      have e6 : Vi (eW v (N + k) (zfil F N k T)) 6 = nI sg := by rw [vi_E, if_neg (by omega)]; exact h6
      have e7 : Vi (eW v (N + k) (zfil F N k T)) 7 = nI bg := by rw [vi_E, if_neg (by omega)]; exact h7
      rw [if_neg (nI_ge (by omega) (by omega)), e6, e7, il64, pk_mul, nI_add, pk_mul, nI_add, nI_add, inT t3 (by omega), nI_clamp (by omega), vr_E1, if_pos rfl, hput _ t4]
      exact ih (k + 1) fuel (by omega) (by omega)
theorem m_190 {v : MS} {N sg bg wide d p m : Nat} {F T : Nat → Int64} {dep to : Nat} (h6 : Vi v 6 = nI sg) (h7 : Vi v 7 = nI bg) (hm : m < 2147483648) (hdp : d + p < 300) (hn : N + m * (d + p) ≤ 160) (hT : ∀ e, e < m → ∀ k, k < d + p → (k < d → 64 * sg + bg + e * wide + k < 256 ∧ Vr v 1 (64 * sg + bg + e * wide + k) = T (e * (d + p) + k)) ∧ (d ≤ k → T (e * (d + p) + k) = 0)) : ∀ (r e fuel : Nat), e + r = m → r < fuel →
    pX6_writeElements_190 fuel (eW v (N + e * (d + p)) (zfil F N (e * (d + p)) T)) (nI dep) (nI m) (nI wide) (nI d) (nI p) (nI to) (nI e) = pX6_writeElements_267 300 (eW v (N + m * (d + p)) (zfil F N (m * (d + p)) T)) (nI dep) (nI wide) (nI d) (nI p) (nI to) (nI m - 1) := by
  intro r
  induction r with
  | zero =>
    intro e fuel he hf
    obtain ⟨fuel, rfl⟩ : ∃ m, fuel = m + 1 := ⟨fuel - 1, by omega⟩
    have : e = m := by omega
    subst this
    rw [pX6_writeElements_190_s, if_pos (nI_le (by omega) (by omega))]
    rfl
  | succ r ih =>
    intro e fuel he hf
    obtain ⟨fuel, rfl⟩ : ∃ m, fuel = m + 1 := ⟨fuel - 1, by omega⟩
    have hle : (e + 1) * (d + p) ≤ m * (d + p) := Nat.mul_le_mul_right _ (by omega)
    have hsu : (e + 1) * (d + p) = e * (d + p) + (d + p) := Nat.succ_mul _ _
    have s1 := m_199 (kf := fun u9 x0 x1 x2 x3 x4 x5 x6 => pX6_writeElements_190 fuel u9 x0 x1 x2 x3 x4 x5 x6) (v := v) (N := N + e * (d + p)) (sg := sg) (bg := bg) (e := e) (wide := wide) (d := d) (p := p) (F := zfil F N (e * (d + p)) T) (T := fun k => T (e * (d + p) + k)) (dep := dep) (m := m) (to := to) h6 h7 (by omega) (hT e (by omega)) (d + p) 0 300 (by omega) (by omega)
    rw [zfil_0, Nat.add_zero, zfil_app, Nat.add_assoc, ← hsu] at s1
    rw [pX6_writeElements_190_s, if_neg (nI_ge (by omega) (by omega))]
    refine Eq.trans s1 ?_
    exact ih (e + 1) fuel (by omega) (by omega)
theorem m_278 {kf : MS → Int32 → Int32 → Int32 → Int32 → Int32 → Int32 → Option (MS × Unit)} {v : MS} {h : Nat} {G : Nat → Nat → Int32} {dep to sg bg wide d p e ed : Nat} (h6 : Vi v 6 = nI sg) (h7 : Vi v 7 = nI bg) (h9 : Vi v 9 = nI ed) (hdp : d + p < 2147483648) : ∀ (c fuel h' : Nat), c < fuel → h ≤ h' → h' + c ≤ 200 → (∀ k, k < c → G 29 (h' + (c - 1 - k)) = nI (to + 1 + e * (d + p) + d + k) ∧ G 30 (h' + (c - 1 - k)) = nI sg ∧ G 31 (h' + (c - 1 - k)) = nI (bg + e * wide + ed + k) ∧ G 32 (h' + (c - 1 - k)) = nI (dep + 1)) →
    pX6_writeElements_278 kf fuel (aW v h h' G) (nI dep) (nI wide) (nI d) (nI p) (nI to) (nI e) (nI c - 1) = kf (aW v h (h' + c) G) (nI dep) (nI wide) (nI d) (nI p) (nI to) (nI e - 1) := by
  intro c
  induction c with
  | zero =>
    intro fuel h' hf hh hn hG
    obtain ⟨fuel, rfl⟩ : ∃ m, fuel = m + 1 := ⟨fuel - 1, by omega⟩
    rw [pX6_writeElements_278_s, if_pos nI_mn, nI_mp]
    rfl
  | succ c ih =>
    intro fuel h' hf hh hn hG
    obtain ⟨fuel, rfl⟩ : ∃ m, fuel = m + 1 := ⟨fuel - 1, by omega⟩
    obtain ⟨g1, g2, g3, g4⟩ := hG c (by omega)
    rw [show h' + (c + 1 - 1 - c) = h' by omega] at g1 g2 g3 g4
    have e6 : Vi (aW v h h' G) 6 = nI sg := by rw [vi_W2, if_neg (by omega)]; exact h6
    have e7 : Vi (aW v h h' G) 7 = nI bg := by rw [vi_W2, if_neg (by omega)]; exact h7
    have e9 : Vi (aW v h h' G) 9 = nI ed := by rw [vi_W2, if_neg (by omega)]; exact h9
    rw [nI_p1, pX6_writeElements_278_s, if_neg (nI_pos (by omega)), e6, e7, e9]
    simp only [nI_1, nI_add, pk_mul]
    rw [← g1, ← g2, ← g3, ← g4, m_await hh (by omega)]
    simp only [Option.bind_some]
    rw [nI_mp]
    show pX6_writeElements_278 kf fuel (aW v h (h' + 1) G) (nI dep) (nI wide) (nI d) (nI p) (nI to) (nI e) (nI c - 1) = _
    rw [ih fuel (h' + 1) (by omega) (by omega) (by omega) (fun k hk => ?_)]
    · rw [show h' + 1 + c = h' + (c + 1) by omega]
    · have := hG k (by omega)
      rw [show h' + (c + 1 - 1 - k) = h' + 1 + (c - 1 - k) by omega] at this
      exact this
theorem m_267 {v : MS} {h : Nat} {G : Nat → Nat → Int32} {dep to sg bg wide d p ed : Nat} (h6 : Vi v 6 = nI sg) (h7 : Vi v 7 = nI bg) (h9 : Vi v 9 = nI ed) (hdp : d + p < 300) : ∀ (r fuel h' : Nat), r < fuel → r < 2147483648 → h ≤ h' → h' + r * p ≤ 200 → (∀ e, e < r → ∀ k, k < p → G 29 (h' + ((r - 1 - e) * p + (p - 1 - k))) = nI (to + 1 + e * (d + p) + d + k) ∧ G 30 (h' + ((r - 1 - e) * p + (p - 1 - k))) = nI sg ∧ G 31 (h' + ((r - 1 - e) * p + (p - 1 - k))) = nI (bg + e * wide + ed + k) ∧ G 32 (h' + ((r - 1 - e) * p + (p - 1 - k))) = nI (dep + 1)) →
    pX6_writeElements_267 fuel (aW v h h' G) (nI dep) (nI wide) (nI d) (nI p) (nI to) (nI r - 1) = some (aW v h (h' + r * p) G, ()) := by
  intro r
  induction r with
  | zero =>
    intro fuel h' hf hr hh hn hG
    obtain ⟨fuel, rfl⟩ : ∃ m, fuel = m + 1 := ⟨fuel - 1, by omega⟩
    rw [pX6_writeElements_267_s, if_pos nI_mn, Nat.zero_mul]
    rfl
  | succ r ih =>
    intro fuel h' hf hr hh hn hG
    obtain ⟨fuel, rfl⟩ : ∃ m, fuel = m + 1 := ⟨fuel - 1, by omega⟩
    have hsu : (r + 1) * p = r * p + p := Nat.succ_mul _ _
    rw [nI_p1, pX6_writeElements_267_s, if_neg (nI_pos (by omega))]
    simp only [Option.bind_some]
    rw [m_278 (kf := fun u9 x0 x1 x2 x3 x4 x5 => pX6_writeElements_267 fuel u9 x0 x1 x2 x3 x4 x5) (e := r) (sg := sg) (bg := bg) (ed := ed) h6 h7 h9 (by omega) p 300 h' (by omega) hh (by omega) (fun k hk => by
      have := hG r (by omega) k hk
      rw [show r + 1 - 1 - r = 0 by omega, Nat.zero_mul, Nat.zero_add] at this
      exact this)]
    show pX6_writeElements_267 fuel (aW v h (h' + p) G) (nI dep) (nI wide) (nI d) (nI p) (nI to) (nI r - 1) = _
    rw [ih fuel (h' + p) (by omega) (by omega) (by omega) (by omega) (fun e he k hk => by
      have := hG e (by omega) k hk
      rw [show r + 1 - 1 - e = (r - 1 - e) + 1 by omega, Nat.succ_mul, show h' + ((r - 1 - e) * p + p + (p - 1 - k)) = h' + p + ((r - 1 - e) * p + (p - 1 - k)) by omega] at this
      exact this)]
    rw [show h' + p + r * p = h' + (r + 1) * p by omega]
/-- elements m - 1 .. 0 wait, the pointers of each of them p - 1 .. 0 -/
def zH (to sg bg wide ed dep h m d p : Nat) : Nat → Nat → Int32 := fun q j => match q with
  | 29 => nI (to + 1 + (m - 1 - (j - h) / p) * (d + p) + d + (p - 1 - (j - h) % p))
  | 30 => nI sg
  | 31 => nI (bg + (m - 1 - (j - h) / p) * wide + ed + (p - 1 - (j - h) % p))
  | _ => nI (dep + 1)
theorem n_div {a b p : Nat} (h : b < p) : (a * p + b) / p = a := by
  rw [Nat.add_comm, Nat.add_mul_div_right _ _ (by omega), Nat.div_eq_of_lt h, Nat.zero_add]
theorem n_mod {a b p : Nat} (h : b < p) : (a * p + b) % p = b := by
  rw [Nat.add_comm, Nat.add_mul_mod_self_right, Nat.mod_eq_of_lt h]
theorem zH_at {to sg bg wide ed dep h m d p e k : Nat} (he : e < m) (hk : k < p) : zH to sg bg wide ed dep h m d p 29 (h + ((m - 1 - e) * p + (p - 1 - k))) = nI (to + 1 + e * (d + p) + d + k) ∧ zH to sg bg wide ed dep h m d p 30 (h + ((m - 1 - e) * p + (p - 1 - k))) = nI sg ∧ zH to sg bg wide ed dep h m d p 31 (h + ((m - 1 - e) * p + (p - 1 - k))) = nI (bg + e * wide + ed + k) ∧ zH to sg bg wide ed dep h m d p 32 (h + ((m - 1 - e) * p + (p - 1 - k))) = nI (dep + 1) := by
  unfold zH
  simp only [Nat.add_sub_cancel_left]
  rw [n_div (show p - 1 - k < p by omega), n_mod (show p - 1 - k < p by omega), show m - 1 - (m - 1 - e) = e by omega, show p - 1 - (p - 1 - k) = k by omega]
  exact ⟨rfl, trivial, rfl, trivial⟩
/-- the words of the elements, one behind another -/
def zT (f : Nat → Int64) (bs wide d w : Nat) : Nat → Int64 := fun q => if q % w < d then f (bs + q / w * wide + q % w) else 0
def zEP (word to c : Nat) : Int64 := pX6_pointer (nI word) (nI to) ((30064771073 : Int64) ||| (((nI c).toInt64) <<< ((35 : Int32).toInt64 &&& 63)))
def zTG (m d p : Nat) : Int64 := ((((nI m).toInt64) <<< ((2 : Int32).toInt64 &&& 63)) ||| (((nI d).toInt64) <<< ((32 : Int32).toInt64 &&& 63))) ||| (((nI p).toInt64) <<< ((48 : Int32).toInt64 &&& 63))
theorem i_max2 {a b : Nat} (ha : a < 2147483648) (hb : b < 2147483648) : (if nI a < nI b then nI b else nI a) = nI (if a < b then b else a) := by
  by_cases h : a < b
  · rw [if_pos h, if_pos (nI_lt h hb)]
  · rw [if_neg h, if_neg (nI_nlt (by omega) ha)]
theorem m_26 {v : MS} {sg bg ed po m word dep : Nat} {df pf : Nat → Nat} (h6 : Vi v 6 = nI sg) (h7 : Vi v 7 = nI bg) (h9 : Vi v 9 = nI ed) (h10 : Vi v 10 = nI po) (hm : m < 300) (he : ed < 65536) (hp : po < 65536) (hdf : ∀ e, e < m → df e ≤ ed ∧ pX6_without v (nI (64 * sg + bg + e * (ed + po))) (nI ed) = some (nI (df e))) (hpf : ∀ e, e < m → pf e ≤ po ∧ pX6_without v (nI (64 * sg + bg + e * (ed + po) + ed)) (nI po) = some (nI (pf e))) : ∀ (r e fuel : Nat), e + r = m → r < fuel → ∃ fuel',
    pX6_writeElements_26 fuel v (nI word) (nI dep) (nI m) (nI (ed + po)) (nI (zmx df e)) (nI (zmx pf e)) (nI e) = pX6_writeElements_26 (fuel' + 1) v (nI word) (nI dep) (nI m) (nI (ed + po)) (nI (zmx df m)) (nI (zmx pf m)) (nI m) := by
  intro r
  induction r with
  | zero =>
    intro e fuel hr hf
    obtain ⟨fuel, rfl⟩ : ∃ m, fuel = m + 1 := ⟨fuel - 1, by omega⟩
    have : e = m := by omega
    subst this
    exact ⟨fuel, rfl⟩
  | succ r ih =>
    intro e fuel hr hf
    obtain ⟨fuel, rfl⟩ : ∃ m, fuel = m + 1 := ⟨fuel - 1, by omega⟩
    obtain ⟨fuel', hi⟩ := ih (e + 1) fuel (by omega) (by omega)
    refine ⟨fuel', Eq.trans ?_ hi⟩
    obtain ⟨d1, d2⟩ := hdf e (by omega)
    obtain ⟨p1, p2⟩ := hpf e (by omega)
    have zd := zmx_le (f := df) (B := ed) e (fun e' he' => (hdf e' (by omega)).1)
    have zp := zmx_le (f := pf) (B := po) e (fun e' he' => (hpf e' (by omega)).1)
    have e82 : ∀ y : Nat, pX6_writeElements_82 (fun u9 x0 x1 x2 x3 x4 x5 x6 => pX6_writeElements_26 fuel u9 x0 x1 x2 x3 x4 x5 x6) v (nI word) (nI dep) (nI m) (nI (ed + po)) (nI (zmx pf e)) (nI e) (nI (64 * sg + bg + e * (ed + po))) (nI y) = pX6_writeElements_26 fuel v (nI word) (nI dep) (nI m) (nI (ed + po)) (nI y) (nI (zmx pf (e + 1))) (nI (e + 1)) := fun y => by
      unfold pX6_writeElements_82
      rw [h9, h10, nI_add, p2]
      simp only [Option.bind_some, pX6_writeElements_124]
      rw [nI_1]
      show _ = pX6_writeElements_26 fuel v (nI word) (nI dep) (nI m) (nI (ed + po)) (nI y) (nI (if zmx pf e < pf e then pf e else zmx pf e)) (nI (e + 1))
      by_cases q : zmx pf e < pf e
      · rw [if_pos q, if_neg (nI_ge (by omega) (by omega))]
      · rw [if_neg q, if_pos (nI_le (by omega) (by omega))]
    rw [pX6_writeElements_26_s, if_neg (nI_ge (by omega) (by omega)), h6, h7, h9, il64, pk_mul, nI_add, pk_mul, nI_add]
    simp only [Option.bind_some]
    rw [d2]
    simp only [Option.bind_some]
    show _ = pX6_writeElements_26 fuel v (nI word) (nI dep) (nI m) (nI (ed + po)) (nI (if zmx df e < df e then df e else zmx df e)) (nI (zmx pf (e + 1))) (nI (e + 1))
    by_cases q : zmx df e < df e
    · rw [if_pos q, if_neg (nI_ge (by omega) (by omega)), e82]
    · rw [if_neg q, if_pos (nI_le (by omega) (by omega)), e82]
theorem m_wEls {v : MS} {n h sg bg co po ed word dep d p : Nat} (h6 : Vi v 6 = nI sg) (h7 : Vi v 7 = nI bg) (h8 : Vl v 8 = lN co) (h9 : Vi v 9 = nI ed) (h10 : Vi v 10 = nI po) (h21 : Vi v 21 = nI n) (h28 : Vi v 28 = nI h) (hs : sg < 4) (hb : bg + co * (ed + po) ≤ 64) (hco : co < 300) (he : ed < 65536) (hp' : po < 65536) (hw : word < n)
    (hd : d = zmx (fun e => zus (fun k => Vr v 1 (64 * sg + (bg + e * (ed + po) + k))) ed) co) (hp : p = zmx (fun e => zus (fun k => Vr v 1 (64 * sg + (bg + e * (ed + po) + ed + k))) po) co) (hdp : d + p < 300) (hn : n + 1 + co * (d + p) ≤ 64) (hh : h + co * p ≤ 200) :
    pX6_writeElements v (nI word) (nI dep) = some (aW (eW v (n + 1 + co * (d + p)) (zfil (vp_updL (vp_updL (Vr v 22) word (zEP word n (co * (d + p)))) n (zTG co d p)) (n + 1) (co * (d + p)) (zT (fun i => Vr v 1 (64 * sg + i)) bg (ed + po) d (d + p)))) h (h + co * p) (zH n sg bg (ed + po) ed dep h co d p), ()) := by
  have hel : ∀ e, e < co → bg + e * (ed + po) + (ed + po) ≤ 64 := fun e q => by
    have := Nat.mul_le_mul_right (ed + po) (show e + 1 ≤ co from q)
    rw [Nat.succ_mul] at this
    omega
  obtain ⟨fuel', s0⟩ := m_26 (v := v) (sg := sg) (bg := bg) (ed := ed) (po := po) (m := co) (word := word) (dep := dep) (df := fun e => zus (fun k => Vr v 1 (64 * sg + (bg + e * (ed + po) + k))) ed) (pf := fun e => zus (fun k => Vr v 1 (64 * sg + (bg + e * (ed + po) + ed + k))) po) h6 h7 h9 h10 hco he hp' (fun e q => by
    have := hel e q
    refine ⟨zus_le _ _, ?_⟩
    rw [m_used (by omega)]
    congr 2
    exact zus_congr ed (fun k _ => by rw [show 64 * sg + bg + e * (ed + po) + k = 64 * sg + (bg + e * (ed + po) + k) by omega])) (fun e q => by
    have := hel e q
    refine ⟨zus_le _ _, ?_⟩
    rw [m_used (by omega)]
    congr 2
    exact zus_congr po (fun k _ => by rw [show 64 * sg + bg + e * (ed + po) + ed + k = 64 * sg + (bg + e * (ed + po) + ed + k) by omega])) co 0 300 (by omega) (by omega)
  rw [← hd, ← hp] at s0
  have s1 := m_190 (v := v) (N := n + 1) (sg := sg) (bg := bg) (wide := ed + po) (d := d) (p := p) (m := co) (F := vp_updL (vp_updL (Vr v 22) word (zEP word n (co * (d + p)))) n (zTG co d p)) (T := zT (fun i => Vr v 1 (64 * sg + i)) bg (ed + po) d (d + p)) (dep := dep) (to := n) h6 h7 (by omega) hdp (by omega) (fun e q k hk => by
    have h1 := hel e q
    have h2 : d ≤ ed := by rw [hd]; exact zmx_le co (fun _ _ => zus_le _ _)
    refine ⟨fun q2 => ⟨by omega, ?_⟩, fun q2 => ?_⟩
    · unfold zT
      rw [n_mod hk, n_div hk, if_pos q2]
      congr 1
      omega
    · unfold zT
      rw [n_mod hk, if_neg (by omega)]) co 0 300 (by omega) (by omega)
  rw [Nat.zero_mul, zfil_0, Nat.add_zero] at s1
  have s2 := m_267 (v := eW v (n + 1 + co * (d + p)) (zfil (vp_updL (vp_updL (Vr v 22) word (zEP word n (co * (d + p)))) n (zTG co d p)) (n + 1) (co * (d + p)) (zT (fun i => Vr v 1 (64 * sg + i)) bg (ed + po) d (d + p)))) (h := h) (G := zH n sg bg (ed + po) ed dep h co d p) (dep := dep) (to := n) (sg := sg) (bg := bg) (wide := ed + po) (d := d) (p := p) (ed := ed) (by rw [vi_E, if_neg (by omega)]; exact h6) (by rw [vi_E, if_neg (by omega)]; exact h7) (by rw [vi_E, if_neg (by omega)]; exact h9) hdp co 300 h (by omega) (by omega) (by omega) (by omega) (fun e q k hk => zH_at q hk)
  rw [aW_same (by rw [vi_E, if_neg (by omega)]; exact h28)] at s2
  unfold pX6_writeElements
  rw [h8, lN_i, h9, h10]
  simp only [Option.bind_some]
  rw [nI_add]
  refine Eq.trans s0 ?_
  rw [pX6_writeElements_26_s, if_pos (nI_le (by omega) (by omega)), h21, nI_add, pk_mul]
  simp only [Option.bind_some]
  rw [show pX6_pointer (nI word) (nI n) ((30064771073 : Int64) ||| (((nI (co * (d + p))).toInt64) <<< ((35 : Int32).toInt64 &&& 63))) = zEP word n (co * (d + p)) from rfl, inT (by omega) (by omega), nI_clamp (by omega), eW_R h21, m_put (vi_E21 _ _ _) (by omega), vr_E22, eW_eW, if_pos rfl]
  simp only [Option.bind_some]
  refine Eq.trans ?_ (Eq.trans s1 s2)
  rfl
