/-! ===== what both states are: counts, words, budget, handles, left, forms ===== -/
def rwz (Z : CZ) (i : Nat) : Nat := if i < 4 then Zs Z i else Zz Z (i + 3)
def fdz (Z : CZ) (i : Nat) : Nat := if i < 16 then Zh Z i else if i < 26 then Zl Z (i - 16) else Zz Z 6
def zdist (Z : CZ) : Prop := (∀ i j, i < 7 → j < 7 → rwz Z i = rwz Z j → i = j) ∧ (∀ i j, i < 7 → j < 7 → Zc Z (rwz Z i) = Zc Z (rwz Z j) → i = j) ∧ (∀ i j, i < 27 → j < 27 → fdz Z i = fdz Z j → i = j)
/-- cnt, seg, budget, number of handles, left, the handles' fields (handle, slot), words of the form (0: none), form, words kept, kept -/
abbrev AS : Type := (Nat → Nat) × (Nat → Nat → Int64) × Nat × Nat × Nat × (Nat → Nat → Int32) × Nat × (Nat → Int64) × Nat × (Nat → Int64)
abbrev Ac (a : AS) : Nat → Nat := a.1
abbrev Aw (a : AS) : Nat → Nat → Int64 := a.2.1
abbrev Ab (a : AS) : Nat := a.2.2.1
abbrev Ah (a : AS) : Nat := a.2.2.2.1
abbrev Al (a : AS) : Nat := a.2.2.2.2.1
abbrev Ao (a : AS) : Nat → Nat → Int32 := a.2.2.2.2.2.1
abbrev Afn (a : AS) : Nat := a.2.2.2.2.2.2.1
abbrev Aff (a : AS) : Nat → Int64 := a.2.2.2.2.2.2.2.1
abbrev Akn (a : AS) : Nat := a.2.2.2.2.2.2.2.2.1
abbrev Akf (a : AS) : Nat → Int64 := a.2.2.2.2.2.2.2.2.2
/-- an object that was found: shape, count, pointers, elementData, segment, begin, depth; it lies in its segment -/
def obOk (cnt : Nat → Nat) (ob : Nat → Int32) : Prop :=
  ∃ sh co po ed sg bg dp : Nat, ob 0 = nI sh ∧ ob 1 = nI co ∧ ob 2 = nI po ∧ ob 3 = nI ed ∧ ob 4 = nI sg ∧ ob 5 = nI bg ∧ ob 6 = nI dp ∧
    sh ≤ 8 ∧ sg < 4 ∧ bg ≤ cnt sg ∧ 1 ≤ dp ∧ dp ≤ 8 ∧ co < 2 ^ 30 ∧ po < 65536 ∧ ed < 65536 ∧
    (sh = 0 → bg + co + po ≤ cnt sg ∧ ed = 0) ∧ (1 ≤ sh → sh ≤ 7 → ed = 0 ∧ po = 0 ∧ bg + (co * (zEB (sh - 1)).toNatClampNeg + 63) / 64 ≤ cnt sg) ∧ (sh = 8 → bg + co * (ed + po) ≤ cnt sg ∧ co ≤ 63)
def aok (a : AS) : Prop := (∀ s, s < 4 → Ac a s ≤ 64) ∧ Ab a ≤ 63 ∧ Ah a ≤ 16 ∧ Al a ≤ 63 ∧ (∀ h, h < Ah a → obOk (Ac a) (Ao a h)) ∧ Afn a ≤ 64 ∧ Akn a ≤ 64
def RC (Z : CZ) (u : CS) (a : AS) : Prop :=
  (∀ s, s < 4 → Us u (Zs Z s) = nI (Ac a s) ∧ ∀ j, j < Ac a s → Uc u (Zc Z (Zs Z s)) j = Aw a s j) ∧ Ui u 3 = nI (Ab a) ∧ Ui u 1 = nI (Ah a) ∧ (Ui u 2 = if Ah a = 0 then 0 else nI (Al a)) ∧
  (∀ h k, h < Ah a → k < 7 → Uf u k (Zh Z h) = Ao a h k) ∧
  (Us u (Zz Z 7) = nI (Afn a) ∧ ∀ j, j < Afn a → Uc u (Zc Z (Zz Z 7)) j = Aff a j) ∧ (Us u (Zz Z 8) = nI (Akn a) ∧ ∀ j, j < Akn a → Uc u (Zc Z (Zz Z 8)) j = Akf a j)
/-- where the reference keeps a field of a handle -/
def zms (k : Nat) : Nat := match k with | 0 => 14 | 1 => 17 | 2 => 19 | 3 => 18 | 4 => 15 | 5 => 16 | _ => 20
def RM (v : MS) (a : AS) : Prop :=
  (∀ s, s < 4 → Va v 2 s = nI (Ac a s) ∧ ∀ j, j < Ac a s → Vr v 1 (64 * s + j) = Aw a s j) ∧ Vi v 3 = nI (Ab a) ∧ Vi v 13 = nI (Ah a) ∧ (Ah a ≠ 0 → Vi v 4 = nI (Al a)) ∧
  (∀ h k, h < Ah a → k < 7 → Va v (zms k) h = Ao a h k) ∧
  (Vi v 23 = if Afn a = 0 then -1 else nI (Afn a)) ∧ (∀ j, j < Afn a → Vr v 24 j = Aff a j) ∧ (Vi v 25 = if Akn a = 0 then -1 else nI (Akn a)) ∧ (∀ j, j < Akn a → Vr v 26 j = Akf a j)
def Rel (Z : CZ) (u : CS) (v : MS) : Prop := zdist Z ∧ ∃ a, aok a ∧ RC Z u a ∧ RM v a
