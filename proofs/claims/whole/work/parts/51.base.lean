/-! ===== rules: small numbers ===== -/
theorem il0 : (0 : Int32) = nI 0 := rfl
theorem il1 : (1 : Int32) = nI 1 := rfl
theorem il2 : (2 : Int32) = nI 2 := rfl
theorem il3 : (3 : Int32) = nI 3 := rfl
theorem il4 : (4 : Int32) = nI 4 := rfl
theorem il5 : (5 : Int32) = nI 5 := rfl
theorem il6 : (6 : Int32) = nI 6 := rfl
theorem il7 : (7 : Int32) = nI 7 := rfl
theorem il8 : (8 : Int32) = nI 8 := rfl
theorem il10 : (10 : Int32) = nI 10 := rfl
theorem il16 : (16 : Int32) = nI 16 := rfl
theorem il31 : (31 : Int32) = nI 31 := rfl
theorem il32 : (32 : Int32) = nI 32 := rfl
theorem il35 : (35 : Int32) = nI 35 := rfl
theorem il48 : (48 : Int32) = nI 48 := rfl
theorem il63 : (63 : Int32) = nI 63 := rfl
theorem il64 : (64 : Int32) = nI 64 := rfl
theorem ltT {a b : Nat} (h : a < b) (hb : b < 2147483648) : (nI a < nI b) = True := eq_true (nI_lt h hb)
theorem ltF {a b : Nat} (h : b ≤ a) (ha : a < 2147483648) : (nI a < nI b) = False := eq_false (nI_nlt h ha)
theorem leT {a b : Nat} (h : a ≤ b) (hb : b < 2147483648) : (nI a ≤ nI b) = True := eq_true (nI_le h hb)
theorem leF {a b : Nat} (h : b < a) (ha : a < 2147483648) : (nI a ≤ nI b) = False := eq_false (nI_ge h ha)
theorem eqT {a b : Nat} (h : a = b) : (nI a = nI b) = True := eq_true (by rw [h])
theorem eqF {a b : Nat} (h : a ≠ b) (ha : a < 2147483648) (hb : b < 2147483648) : (nI a = nI b) = False := eq_false fun e => h ((nI_eq ha hb).mp e)
theorem inT {i n : Nat} (h : i < n) (hn : n < 2147483648) : inb (nI i) n = true := by
  unfold inb
  exact decide_eq_true (nI_in h hn)
theorem negI (x : Int32) : x < 0 ∨ ∃ j : Nat, j < 2147483648 ∧ x = nI j := by
  by_cases h : x < 0
  · exact Or.inl h
  · exact Or.inr (nI_of h)
theorem ngLt {x : Int32} {j : Nat} (h : x < 0) (hj : j < 2147483648) : (nI j ≤ x) = False := eq_false fun q => by
  have h1 := Int32.lt_iff_toInt_lt.mp h
  have h2 := Int32.le_iff_toInt_le.mp q
  rw [nI_toInt hj] at h2
  have h3 : (0 : Int32).toInt = 0 := rfl
  omega
theorem ngLt0 {x : Int32} {j : Nat} (h : x < 0) (hj : j < 2147483648) : (nI j < x) = False := eq_false fun q => by
  have h1 := Int32.lt_iff_toInt_lt.mp h
  have h2 := Int32.lt_iff_toInt_lt.mp q
  rw [nI_toInt hj] at h2
  have h3 : (0 : Int32).toInt = 0 := rfl
  omega
theorem ngT {x : Int32} (h : x < 0) : (x < nI 0) = True := eq_true h
theorem ngLe {x : Int32} {j : Nat} (h : x < 0) (hj : j < 2147483648) : (x ≤ nI j) = True := eq_true (by
  have h1 := Int32.lt_iff_toInt_lt.mp h
  have h3 : (0 : Int32).toInt = 0 := rfl
  refine Int32.le_iff_toInt_le.mpr ?_
  rw [nI_toInt hj]
  omega)
theorem ngL2 {x : Int32} {j : Nat} (h : x < 0) (hj : j < 2147483648) : (x < nI j) = True := eq_true (by
  have h1 := Int32.lt_iff_toInt_lt.mp h
  have h3 : (0 : Int32).toInt = 0 := rfl
  refine Int32.lt_iff_toInt_lt.mpr ?_
  rw [nI_toInt hj]
  omega)
theorem ngE {x : Int32} {j : Nat} (h : x < 0) (hj : j < 2147483648) : (x = nI j) = False := eq_false fun e => by
  rw [e] at h
  exact nI_pos hj h
/-! ===== rules: the class's state ===== -/
theorem mu_if {α : Type} (f : Nat → α) (k : Nat) (v : α) (j : Nat) : mu f k v j = if j = k then v else f j := by
  by_cases h : j = k
  · rw [h, mu_eq, if_pos rfl]
  · rw [mu_ne _ _ h, if_neg h]
theorem mu_mu {α : Type} (f : Nat → α) (k : Nat) (v w : α) : mu (mu f k v) k w = mu f k w := funext fun j => by
  rw [mu_if, mu_if, mu_if]
  by_cases h : j = k
  · rw [if_pos h, if_pos h]
  · rw [if_neg h, if_neg h, if_neg h]
theorem mu_same {α : Type} (f : Nat → α) (k : Nat) : mu f k (f k) = f := funext fun j => by
  rw [mu_if]
  by_cases h : j = k
  · rw [if_pos h, h]
  · rw [if_neg h]
theorem uf_F (u : CS) (k a : Nat) (v : Int32) (k' a' : Nat) : Uf (sF u k a v) k' a' = if k' = k ∧ a' = a then v else Uf u k' a' := by
  show mu u.1 k (mu (u.1 k) a v) k' a' = _
  by_cases h : k' = k
  · subst h
    rw [mu_eq, mu_if]
    by_cases h2 : a' = a <;> simp [h2]
  · rw [mu_ne _ _ h]
    simp [h]
theorem us_F (u : CS) (k a : Nat) (v : Int32) (b : Nat) : Us (sF u k a v) b = Us u b := rfl
theorem uc_F (u : CS) (k a : Nat) (v : Int32) (b : Nat) : Uc (sF u k a v) b = Uc u b := rfl
theorem ui_F (u : CS) (k a : Nat) (v : Int32) (b : Nat) : Ui (sF u k a v) b = Ui u b := rfl
theorem uf_S (u : CS) (a : Nat) (v : Int32) (k b : Nat) : Uf (sS u a v) k b = Uf u k b := rfl
theorem us_S (u : CS) (a : Nat) (v : Int32) (b : Nat) : Us (sS u a v) b = if b = a then v else Us u b := mu_if _ _ _ _
theorem uc_S (u : CS) (a : Nat) (v : Int32) (b : Nat) : Uc (sS u a v) b = Uc u b := rfl
theorem ui_S (u : CS) (a : Nat) (v : Int32) (b : Nat) : Ui (sS u a v) b = Ui u b := rfl
theorem uf_C (u : CS) (a : Nat) (f : Nat → Int64) (k b : Nat) : Uf (sC u a f) k b = Uf u k b := rfl
theorem us_C (u : CS) (a : Nat) (f : Nat → Int64) (b : Nat) : Us (sC u a f) b = Us u b := rfl
theorem uc_C (u : CS) (a : Nat) (f : Nat → Int64) (b : Nat) : Uc (sC u a f) b = if b = a then f else Uc u b := mu_if _ _ _ _
theorem ui_C (u : CS) (a : Nat) (f : Nat → Int64) (b : Nat) : Ui (sC u a f) b = Ui u b := rfl
theorem uf_I (u : CS) (a : Nat) (v : Int32) (k b : Nat) : Uf (sI u a v) k b = Uf u k b := rfl
theorem us_I (u : CS) (a : Nat) (v : Int32) (b : Nat) : Us (sI u a v) b = Us u b := rfl
theorem uc_I (u : CS) (a : Nat) (v : Int32) (b : Nat) : Uc (sI u a v) b = Uc u b := rfl
theorem ui_I (u : CS) (a : Nat) (v : Int32) (b : Nat) : Ui (sI u a v) b = if b = a then v else Ui u b := mu_if _ _ _ _
/-! ===== rules: the reference's state ===== -/
theorem vi_I (v : MS) (k : Nat) (x : Int32) (j : Nat) : Vi (tI v k x) j = if j = k then x else Vi v j := mu_if _ _ _ _
theorem vl_I (v : MS) (k : Nat) (x : Int32) (j : Nat) : Vl (tI v k x) j = Vl v j := rfl
theorem va_I (v : MS) (k : Nat) (x : Int32) (j : Nat) : Va (tI v k x) j = Va v j := rfl
theorem vr_I (v : MS) (k : Nat) (x : Int32) (j : Nat) : Vr (tI v k x) j = Vr v j := rfl
theorem vi_L (v : MS) (k : Nat) (x : Int64) (j : Nat) : Vi (tL v k x) j = Vi v j := rfl
theorem vl_L (v : MS) (k : Nat) (x : Int64) (j : Nat) : Vl (tL v k x) j = if j = k then x else Vl v j := mu_if _ _ _ _
theorem va_L (v : MS) (k : Nat) (x : Int64) (j : Nat) : Va (tL v k x) j = Va v j := rfl
theorem vr_L (v : MS) (k : Nat) (x : Int64) (j : Nat) : Vr (tL v k x) j = Vr v j := rfl
theorem vi_A (v : MS) (k i : Nat) (x : Int32) (j : Nat) : Vi (tA v k i x) j = Vi v j := rfl
theorem vl_A (v : MS) (k i : Nat) (x : Int32) (j : Nat) : Vl (tA v k i x) j = Vl v j := rfl
theorem va_A' (v : MS) (k i : Nat) (x : Int32) (j : Nat) : Va (tA v k i x) j = if j = k then upd (Va v k) i x else Va v j := mu_if _ _ _ _
theorem vA_A (v : MS) (k i : Nat) (x : Int32) (j p : Nat) : Va (tA v k i x) j p = if j = k ∧ p = i then x else Va v j p := by
  rw [va_A']
  by_cases h : j = k
  · subst h
    by_cases h2 : p = i <;> simp [h2, upd]
  · simp [h]
theorem vr_A (v : MS) (k i : Nat) (x : Int32) (j : Nat) : Vr (tA v k i x) j = Vr v j := rfl
theorem vi_R (v : MS) (k i : Nat) (x : Int64) (j : Nat) : Vi (tR v k i x) j = Vi v j := rfl
theorem vl_R (v : MS) (k i : Nat) (x : Int64) (j : Nat) : Vl (tR v k i x) j = Vl v j := rfl
theorem va_R (v : MS) (k i : Nat) (x : Int64) (j : Nat) : Va (tR v k i x) j = Va v j := rfl
theorem vr_R' (v : MS) (k i : Nat) (x : Int64) (j : Nat) : Vr (tR v k i x) j = if j = k then vp_updL (Vr v k) i x else Vr v j := mu_if _ _ _ _
theorem vr_R (v : MS) (k i : Nat) (x : Int64) (j p : Nat) : Vr (tR v k i x) j p = if j = k ∧ p = i then x else Vr v j p := by
  rw [vr_R']
  by_cases h : j = k
  · subst h
    by_cases h2 : p = i <;> simp [h2, vp_updL]
  · simp [h]
/-! ===== rows and founds lie apart ===== -/
theorem zd_r {Z : CZ} (h : zdist Z) {i j : Nat} (hi : i < 7) (hj : j < 7) (n : i ≠ j) : rwz Z i ≠ rwz Z j := fun e => n (h.1 i j hi hj e)
theorem zd_c {Z : CZ} (h : zdist Z) {i j : Nat} (hi : i < 7) (hj : j < 7) (n : i ≠ j) : Zc Z (rwz Z i) ≠ Zc Z (rwz Z j) := fun e => n (h.2.1 i j hi hj e)
theorem zd_f {Z : CZ} (h : zdist Z) {i j : Nat} (hi : i < 27) (hj : j < 27) (n : i ≠ j) : fdz Z i ≠ fdz Z j := fun e => n (h.2.2 i j hi hj e)
theorem rw_s {Z : CZ} {s : Nat} (h : s < 4) : Zs Z s = rwz Z s := by unfold rwz; rw [if_pos h]
theorem rw_7 {Z : CZ} : Zz Z 7 = rwz Z 4 := by unfold rwz; rw [if_neg (by omega)]
theorem rw_8 {Z : CZ} : Zz Z 8 = rwz Z 5 := by unfold rwz; rw [if_neg (by omega)]
theorem rw_9 {Z : CZ} : Zz Z 9 = rwz Z 6 := by unfold rwz; rw [if_neg (by omega)]
theorem fd_h {Z : CZ} {s : Nat} (h : s < 16) : Zh Z s = fdz Z s := by unfold fdz; rw [if_pos h]
theorem fd_l {Z : CZ} {s : Nat} (h : s < 10) : Zl Z s = fdz Z (16 + s) := by unfold fdz; rw [if_neg (by omega), if_pos (by omega), Nat.add_sub_cancel_left]
theorem fd_6 {Z : CZ} : Zz Z 6 = fdz Z 26 := by unfold fdz; rw [if_neg (by omega), if_neg (by omega)]
theorem rwI {Z : CZ} (h : zdist Z) {i j : Nat} (hi : i < 7) (hj : j < 7) : (rwz Z i = rwz Z j) = (i = j) := propext ⟨h.1 i j hi hj, fun e => by rw [e]⟩
theorem rcI {Z : CZ} (h : zdist Z) {i j : Nat} (hi : i < 7) (hj : j < 7) : (Zc Z (rwz Z i) = Zc Z (rwz Z j)) = (i = j) := propext ⟨h.2.1 i j hi hj, fun e => by rw [e]⟩
theorem fdI {Z : CZ} (h : zdist Z) {i j : Nat} (hi : i < 27) (hj : j < 27) : (fdz Z i = fdz Z j) = (i = j) := propext ⟨h.2.2 i j hi hj, fun e => by rw [e]⟩
