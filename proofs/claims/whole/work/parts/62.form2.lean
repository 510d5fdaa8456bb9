/-! ===== pointers as they are written ===== -/
theorem or3 (a b c : Int64) : (a ||| b) ||| c = c ||| (b ||| a) := by rw [Int64.or_comm, Int64.or_comm a b]
theorem or3' (a b c : Int64) : (a ||| b) ||| c = (c ||| b) ||| a := by rw [Int64.or_comm (c ||| b) a, Int64.or_comm c b, Int64.or_assoc]
theorem or4 (n k o i : Int64) : ((n ||| k) ||| o) ||| i = o ||| ((i ||| k) ||| n) := by
  rw [or3' n k o, Int64.or_assoc (o ||| k) n i, Int64.or_assoc o k (n ||| i), Int64.or_comm i k, Int64.or_assoc k i n, Int64.or_comm i n]
theorem w_struct (a b d p : Int32) : pX0_structPointer ((b - a) - 1) d p = pX6_pointer a b (((d.toInt64) <<< ((32 : Int32).toInt64 &&& 63)) ||| ((p.toInt64) <<< ((48 : Int32).toInt64 &&& 63))) := by
  unfold pX0_structPointer pX6_pointer
  exact or3 _ _ _
theorem w_empty : pX0_structPointer (-1) (nI 0) (nI 0) = 4294967292 := by decide
theorem w_list (a b k n : Int32) : pX0_listPointer ((b - a) - 1) k n = pX6_pointer a b (((1 : Int64) ||| ((k.toInt64) <<< ((32 : Int32).toInt64 &&& 63))) ||| (n.toInt64 <<< ((35 : Int32).toInt64 &&& 63))) := by
  unfold pX0_listPointer pX6_pointer
  exact or4 _ _ _ _
theorem w_els (a b n : Int32) : pX0_listPointer ((b - a) - 1) 7 n = pX6_pointer a b ((30064771073 : Int64) ||| (n.toInt64 <<< ((35 : Int32).toInt64 &&& 63))) := by
  rw [w_list]
  rfl
theorem w_tag {m : Nat} (hm : m < 1073741824) (d p : Int32) : pX0_structPointer (nI m) d p = ((((nI m).toInt64) <<< ((2 : Int32).toInt64 &&& 63)) ||| ((d.toInt64) <<< ((32 : Int32).toInt64 &&& 63))) ||| ((p.toInt64) <<< ((48 : Int32).toInt64 &&& 63)) := by
  have e1 : ((nI m).toInt64) <<< ((2 : Int32).toInt64 &&& 63) = lN (m * 4) := by
    rw [nI_l (by omega)]
    exact wb_shl m (k := 2) (by omega)
  have e2 : lN (m * 4) &&& (4294967295 : Int64) = lN (m * 4) := by
    have := wb_mask (n := m * 4) (k := 32) (by omega) (by omega)
    rw [Nat.mod_eq_of_lt (by omega)] at this
    exact this
  unfold pX0_structPointer
  rw [e1, e2]
  exact or3' _ _ _
/-! ===== the reference writes a struct ===== -/
/-- items c - 1 .. 0 wait, from place h on: words to + k, for the pointers b + k of a segment -/
def zG (to s b dep h c : Nat) : Nat → Nat → Int32 := fun q j => match q with | 29 => nI (to + (c - 1 - (j - h))) | 30 => nI s | 31 => nI (b + (c - 1 - (j - h))) | _ => nI (dep + 1)
theorem m_161 {v : MS} {h : Nat} {G : Nat → Nat → Int32} {dep d to base s : Nat} : ∀ (c fuel h' : Nat), c < fuel → h ≤ h' → h' + c ≤ 200 → (∀ k, k < c → G 29 (h' + (c - 1 - k)) = nI (to + d + k) ∧ G 30 (h' + (c - 1 - k)) = nI s ∧ G 31 (h' + (c - 1 - k)) = nI (base + k) ∧ G 32 (h' + (c - 1 - k)) = nI (dep + 1)) →
    pX6_writeStruct_161 fuel (aW v h h' G) (nI dep) (nI d) (nI to) (nI base) (nI s) (nI c - 1) = some (aW v h (h' + c) G, ()) := by
  intro c
  induction c with
  | zero =>
    intro fuel h' hf hh hn hG
    obtain ⟨fuel, rfl⟩ : ∃ m, fuel = m + 1 := ⟨fuel - 1, by omega⟩
    rw [pX6_writeStruct_161_s, if_pos nI_mn]
    rfl
  | succ c ih =>
    intro fuel h' hf hh hn hG
    obtain ⟨fuel, rfl⟩ : ∃ m, fuel = m + 1 := ⟨fuel - 1, by omega⟩
    obtain ⟨g1, g2, g3, g4⟩ := hG c (by omega)
    rw [show h' + (c + 1 - 1 - c) = h' by omega] at g1 g2 g3 g4
    rw [nI_p1, pX6_writeStruct_161_s, if_neg (nI_pos (by omega)), nI_add, nI_add, nI_add, nI_1, ← g1, ← g2, ← g3, ← g4, m_await hh (by omega)]
    simp only [Option.bind_some]
    rw [nI_mp, g2]
    rw [ih fuel (h' + 1) (by omega) (by omega) (by omega) (fun k hk => ?_)]
    · rw [show h' + 1 + c = h' + (c + 1) by omega]
    · have := hG k (by omega)
      rw [show h' + (c + 1 - 1 - k) = h' + 1 + (c - 1 - k) by omega] at this
      exact this
theorem m_137 {v : MS} {n p : Nat} {F : Nat → Int64} {dep d to : Nat} {base s : Int32} (hn : n + p ≤ 160) : ∀ (r k fuel : Nat), k + r = p → r < fuel →
    pX6_writeStruct_137 fuel (eW v (n + k) (zfil F n k (fun _ => 0))) (nI dep) (nI d) (nI p) (nI to) base s (nI k) = pX6_writeStruct_161 300 (eW v (n + p) (zfil F n p (fun _ => 0))) (nI dep) (nI d) (nI to) base s (nI p - 1) := by
  intro r
  induction r with
  | zero =>
    intro k fuel hk hf
    obtain ⟨fuel, rfl⟩ : ∃ m, fuel = m + 1 := ⟨fuel - 1, by omega⟩
    have : k = p := by omega
    subst this
    rw [pX6_writeStruct_137_s, if_pos (nI_le (by omega) (by omega))]
    rfl
  | succ r ih =>
    intro k fuel hk hf
    obtain ⟨fuel, rfl⟩ : ∃ m, fuel = m + 1 := ⟨fuel - 1, by omega⟩
    rw [pX6_writeStruct_137_s, if_neg (nI_ge (by omega) (by omega)), m_put (vi_E21 _ _ _) (by omega), vr_E22, eW_eW, show vp_updL (zfil F n k (fun _ => 0)) (n + k) 0 = _ from zfil_s F n k (fun _ => 0)]
    simp only [Option.bind_some]
    rw [nI_1]
    exact ih (k + 1) fuel (by omega) (by omega)
theorem m_90 {v : MS} {n d fr : Nat} {F T : Nat → Int64} {dep p to : Nat} (hn : n + d ≤ 160) (hT : ∀ k, k < d → fr + k < 256 ∧ Vr v 1 (fr + k) = T k) : ∀ (r k fuel : Nat), k + r = d → r < fuel →
    pX6_writeStruct_90 fuel (eW v (n + k) (zfil F n k T)) (nI dep) (nI fr) (nI d) (nI p) (nI to) (nI k) = pX6_writeStruct_137 300 (eW v (n + d) (zfil F n d T)) (nI dep) (nI d) (nI p) (nI to) (Vi v 7 + (Vl v 8).toInt32) (Vi v 6) 0 := by
  intro r
  induction r with
  | zero =>
    intro k fuel hk hf
    obtain ⟨fuel, rfl⟩ : ∃ m, fuel = m + 1 := ⟨fuel - 1, by omega⟩
    have : k = d := by omega
    subst this
    rw [pX6_writeStruct_90_s, if_pos (nI_le (by omega) (by omega))]
    simp only [Option.bind_some]
    rw [vi_E, if_neg (by omega), vi_E, if_neg (by omega), vl_E]
  | succ r ih =>
    intro k fuel hk hf
    obtain ⟨fuel, rfl⟩ : ∃ m, fuel = m + 1 := ⟨fuel - 1, by omega⟩
    obtain ⟨t1, t2⟩ := hT k (by omega)
    rw [pX6_writeStruct_90_s, if_neg (nI_ge (by omega) (by omega)), nI_add, inT t1 (by omega), nI_clamp (by omega), vr_E1, t2, m_put (vi_E21 _ _ _) (by omega), vr_E22, eW_eW, zfil_s]
    simp only [Option.bind_some, if_true]
    rw [nI_1]
    exact ih (k + 1) fuel (by omega) (by omega)
/-- the pointer to a struct of d and p words -/
def zSP (word to d p : Nat) : Int64 := if d + p = 0 then 4294967292 else pX6_pointer (nI word) (nI to) ((((nI d).toInt64) <<< ((32 : Int32).toInt64 &&& 63)) ||| (((nI p).toInt64) <<< ((48 : Int32).toInt64 &&& 63)))
theorem m_wStruct {v : MS} {n h sg bg co po word dep d p : Nat} (h6 : Vi v 6 = nI sg) (h7 : Vi v 7 = nI bg) (h8 : Vl v 8 = lN co) (h10 : Vi v 10 = nI po) (h21 : Vi v 21 = nI n) (h28 : Vi v 28 = nI h) (hs : sg < 4) (hb : bg + co + po ≤ 64) (hw : word < n) (hd : d = zus (fun k => Vr v 1 (64 * sg + (bg + k))) co) (hp : p = zus (fun k => Vr v 1 (64 * sg + (bg + co + k))) po) (hn : n + d + p ≤ 64) (hh : h + p ≤ 200) :
    pX6_writeStruct v (nI word) (nI dep) = some (aW (eW v (n + d + p) (zfil (zfil (vp_updL (Vr v 22) word (zSP word n d p)) n d (fun k => Vr v 1 (64 * sg + (bg + k)))) (n + d) p (fun _ => 0))) h (h + p) (zG (n + d) sg (bg + co) dep h p), ()) := by
  have e1 : pX6_without v (nI (64 * sg + bg)) (nI co) = some (nI d) := by
    rw [m_used (by omega), hd]
    congr 2
    exact zus_congr co (fun k _ => by rw [Nat.add_assoc])
  have e2 : pX6_without v (nI (64 * sg + bg + co)) (nI po) = some (nI p) := by
    rw [m_used (by omega), hp]
    congr 2
    exact zus_congr po (fun k _ => by rw [show 64 * sg + bg + co + k = 64 * sg + (bg + co + k) by omega])
  have hd2 : d ≤ co := by rw [hd]; exact zus_le _ _
  have hp2 : p ≤ po := by rw [hp]; exact zus_le _ _
  have ew : inb (nI word) 160 = true := inT (by omega) (by omega)
  have ec : (nI word).toNatClampNeg = word := nI_clamp (by omega)
  have key : ∀ X, pX6_writeStruct_90 300 (tR v 22 word X) (nI dep) (nI (64 * sg + bg)) (nI d) (nI p) (nI n) 0 = some (aW (eW v (n + d + p) (zfil (zfil (vp_updL (Vr v 22) word X) n d (fun k => Vr v 1 (64 * sg + (bg + k)))) (n + d) p (fun _ => 0))) h (h + p) (zG (n + d) sg (bg + co) dep h p), ()) := fun X => by
    have s1 := m_90 (v := v) (n := n) (d := d) (fr := 64 * sg + bg) (F := vp_updL (Vr v 22) word X) (T := fun k => Vr v 1 (64 * sg + (bg + k))) (dep := dep) (p := p) (to := n) (by omega) (fun k hk => ⟨by omega, by rw [Nat.add_assoc]⟩) d 0 300 (by omega) (by omega)
    rw [zfil_0, Nat.add_zero, ← eW_R h21] at s1
    have s2 := m_137 (v := v) (n := n + d) (p := p) (F := zfil (vp_updL (Vr v 22) word X) n d (fun k => Vr v 1 (64 * sg + (bg + k)))) (dep := dep) (d := d) (to := n) (base := nI (bg + co)) (s := nI sg) (by omega) p 0 300 (by omega) (by omega)
    rw [zfil_0, Nat.add_zero] at s2
    have s3 := m_161 (v := eW v (n + d + p) (zfil (zfil (vp_updL (Vr v 22) word X) n d (fun k => Vr v 1 (64 * sg + (bg + k)))) (n + d) p (fun _ => 0))) (h := h) (G := zG (n + d) sg (bg + co) dep h p) (dep := dep) (d := d) (to := n) (base := bg + co) (s := sg) p 300 h (by omega) (by omega) (by omega) (fun k hk => by
      refine ⟨?_, rfl, ?_, rfl⟩
      · show nI (n + d + (p - 1 - (h + (p - 1 - k) - h))) = _
        congr 1
        omega
      · show nI (bg + co + (p - 1 - (h + (p - 1 - k) - h))) = _
        congr 1
        omega)
    rw [aW_same (by rw [vi_E, if_neg (by omega)]; exact h28)] at s3
    rw [show pX6_writeStruct_90 300 (tR v 22 word X) (nI dep) (nI (64 * sg + bg)) (nI d) (nI p) (nI n) 0 = pX6_writeStruct_90 300 (tR v 22 word X) (nI dep) (nI (64 * sg + bg)) (nI d) (nI p) (nI n) (nI 0) from rfl, s1, h7, h8, h6, lN_i, nI_add, il0, s2, s3]
  unfold pX6_writeStruct
  rw [h6, h7, h8, h10, h21, il64, pk_mul, nI_add, lN_i]
  simp only [Option.bind_some]
  rw [e1]
  simp only [Option.bind_some]
  rw [nI_add, e2]
  simp only [Option.bind_some]
  rw [nI_add, ew, ec]
  unfold zSP
  by_cases q : d + p = 0
  · rw [if_pos (by rw [q]; rfl), if_pos rfl, if_pos q]
    exact key _
  · rw [if_neg (nI_ne0 (by omega) (by omega)), if_pos rfl, if_neg q]
    exact key _
