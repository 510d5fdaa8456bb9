/-! ===== what both states hold alike: words, handles, budget, forms ===== -/
def rwz (Z : CZ) (i : Nat) : Nat := if i < 4 then Zs Z i else Zz Z (i + 3)
def fdz (Z : CZ) (i : Nat) : Nat := if i < 16 then Zh Z i else if i < 26 then Zl Z (i - 16) else Zz Z 6
def zdist (Z : CZ) : Prop := (∀ i j, i < 7 → j < 7 → rwz Z i = rwz Z j → i = j) ∧ (∀ i j, i < 7 → j < 7 → Zc Z (rwz Z i) = Zc Z (rwz Z j) → i = j) ∧ (∀ i j, i < 27 → j < 27 → fdz Z i = fdz Z j → i = j)
/-- bits of an element of a list, by its shape -/
def zbw (sh : Nat) : Nat := match sh with | 1 => 0 | 2 => 1 | 3 => 8 | 4 => 16 | 5 => 32 | _ => 64
/-- an object that was found: shape, count, pointers, elementData, segment, begin; it lies in its segment -/
def obOk (cn : Nat → Nat) (sh co po ed sg bg : Nat) : Prop :=
    sh ≤ 8 ∧ sg < 4 ∧ bg ≤ cn sg ∧ co < 1073741824 ∧ po < 65536 ∧ ed < 65536 ∧
    (sh = 0 → bg + co + po ≤ cn sg ∧ ed = 0) ∧ (1 ≤ sh → sh ≤ 7 → ed = 0 ∧ po = 0 ∧ bg + (co * zbw sh + 63) / 64 ≤ cn sg) ∧ (sh = 8 → bg + co * (ed + po) ≤ cn sg)
def obF (u : CS) (a : Nat) (sh co po ed sg bg dp : Nat) : Prop := Uf u 0 a = nI sh ∧ Uf u 1 a = nI co ∧ Uf u 2 a = nI po ∧ Uf u 3 a = nI ed ∧ Uf u 4 a = nI sg ∧ Uf u 5 a = nI bg ∧ Uf u 6 a = nI dp
def obR (v : MS) (h : Nat) (sh co po ed sg bg dp : Nat) : Prop := Va v 14 h = nI sh ∧ Va v 17 h = nI co ∧ Va v 19 h = nI po ∧ Va v 18 h = nI ed ∧ Va v 15 h = nI sg ∧ Va v 16 h = nI bg ∧ Va v 20 h = nI dp
/-- the words of the message -/
def gMSG (Z : CZ) (u : CS) (v : MS) (cn : Nat → Nat) : Prop := ∀ s, s < 4 → cn s ≤ 64 ∧ Us u (Zs Z s) = nI (cn s) ∧ Va v 2 s = nI (cn s) ∧ ∀ j, j < cn s → Uc u (Zc Z (Zs Z s)) j = Vr v 1 (64 * s + j)
def gHND (Z : CZ) (u : CS) (v : MS) (cn : Nat → Nat) (hn l : Nat) : Prop := hn ≤ 16 ∧ l ≤ 63 ∧ Ui u 1 = nI hn ∧ Vi v 13 = nI hn ∧ (Ui u 2 = if hn = 0 then nI 0 else nI l) ∧ (hn ≠ 0 → Vi v 4 = nI l) ∧
  ∀ h, h < hn → ∃ sh co po ed sg bg dp : Nat, obOk cn sh co po ed sg bg ∧ 1 ≤ dp ∧ dp ≤ 8 ∧ obF u (Zh Z h) sh co po ed sg bg dp ∧ obR v h sh co po ed sg bg dp
def gBUD (u : CS) (v : MS) (b : Nat) : Prop := b ≤ 63 ∧ Ui u 3 = nI b ∧ Vi v 3 = nI b
def gFRM (Z : CZ) (u : CS) (v : MS) (n : Nat) : Prop := n ≤ 64 ∧ Us u (Zz Z 7) = nI n ∧ (Vi v 23 = if n = 0 then -1 else nI n) ∧ ∀ j, j < n → Uc u (Zc Z (Zz Z 7)) j = Vr v 24 j
def gKPT (Z : CZ) (u : CS) (v : MS) (n : Nat) : Prop := n ≤ 64 ∧ Us u (Zz Z 8) = nI n ∧ (Vi v 25 = if n = 0 then -1 else nI n) ∧ ∀ j, j < n → Uc u (Zc Z (Zz Z 8)) j = Vr v 26 j
def Rel (Z : CZ) (u : CS) (v : MS) : Prop := zdist Z ∧ ∃ (cn : Nat → Nat) (hn l b fn kn : Nat), gMSG Z u v cn ∧ gHND Z u v cn hn l ∧ gBUD u v b ∧ gFRM Z u v fn ∧ gKPT Z u v kn
