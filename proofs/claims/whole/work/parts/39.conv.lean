def gad (h0 : Nat) (f : Nat → Nat) : Nat → Nat := fun i => match i with | 0 => h0 | n + 1 => f n
def zix (g : Nat → Nat) (a : Nat) : Nat → Nat | 0 => 0 | n + 1 => if g n = a then n else zix g a n
def zkd (i : Nat) : Nat := if (15 ≤ i ∧ i ≤ 24) ∨ (26 ≤ i ∧ i ≤ 42) then 1 else if i ∈ [3, 5, 7, 9, 12, 43, 45] then 3 else 7
def zzp (k : Nat) : Nat := match k with | 0 => 0 | 1 => 1 | 2 => 2 | 3 => 11 | 4 => 25 | 5 => 14 | 6 => 42 | 7 => 43 | 8 => 45 | _ => 12
def zP41 : List Nat := [3, 4, 5, 6, 7, 8, 9, 10, 12, 13, 15, 16, 17, 18, 19, 20, 21, 22, 23, 24, 26, 27, 28, 29, 30, 31, 32, 33, 34, 35, 36, 37, 38, 39, 40, 41, 42, 43, 44, 45, 46]
def zPm : List Nat := [0, 1, 2, 11, 25, 14, 3, 4, 5, 6, 7, 8, 9, 10, 12, 13, 15, 16, 17, 18, 19, 20, 21, 22, 23, 24, 26, 27, 28, 29, 30, 31, 32, 33, 34, 35, 36, 37, 38, 39, 40, 41, 42, 43, 44, 45, 46]
def Zf (g : Nat → Nat) : CZ := (fun k => g (zzp k), fun k => g (26 + k), fun k => g (15 + k), fun k => g (3 + 2 * k), fun a => g (zix g a 47 + 1), zP41.map g, fun a => zkd (zix g a 47))
def u00 : CS := (fun _ _ => 0, fun _ => 0, fun _ _ => 0, mu (fun _ => 0) 3 63)
def ginj (g : Nat → Nat) : Prop := ∀ i j, i < 47 → j < 47 → g i = g j → i = j
theorem zix_n {g : Nat → Nat} (hg : ginj g) {i : Nat} (hi : i < 47) : ∀ n, n ≤ 47 → i < n → zix g (g i) n = i := by
  intro n
  induction n with
  | zero => intro _ h; omega
  | succ n ih =>
    intro hn h
    unfold zix
    by_cases e : g n = g i
    · rw [if_pos e]; exact hg n i (by omega) hi e
    · rw [if_neg e]
      have : i ≠ n := fun q => e (by rw [q])
      exact ih (by omega) (by omega)
theorem zix_eq {g : Nat → Nat} (hg : ginj g) {i : Nat} (hi : i < 47) : zix g (g i) 47 = i := zix_n hg hi 47 (Nat.le_refl _) hi
theorem zcE_F {c4 : Nat → ClassId} {g : Nat → Nat} (hg : ginj g) {i : Nat} (hi : i < 47) (hk : zkd i = 1) : cE c4 (Zf g) u00 (g i) = .inr (1, [.int 0, .int 0, .int 0, .int 0, .int 0, .int 0, .int 0]) := by
  have e : ZK (Zf g) (g i) = 1 := by show zkd (zix g (g i) 47) = 1; rw [zix_eq hg hi, hk]
  unfold cE
  rw [if_pos e]
  rfl
theorem zcE_R {c4 : Nat → ClassId} {g : Nat → Nat} (hg : ginj g) {i : Nat} (hi : i < 47) (hk : zkd i = 3) : cE c4 (Zf g) u00 (g i) = .inr (3, [.ref (g (i + 1)), .int 0]) := by
  have e : ZK (Zf g) (g i) = 3 := by show zkd (zix g (g i) 47) = 3; rw [zix_eq hg hi, hk]
  have e2 : Zc (Zf g) (g i) = g (i + 1) := by show g (zix g (g i) 47 + 1) = _; rw [zix_eq hg hi]
  unfold cE
  rw [if_neg (by rw [e]; decide), if_pos e, e2]
  rfl
theorem zcE_A {c4 : Nat → ClassId} {g : Nat → Nat} (hg : ginj g) {i : Nat} (hi : i < 47) (hk : zkd i = 7) : cE c4 (Zf g) u00 (g i) = .inl (c4 0, 64, .inr (.inl (fun _ => 0))) := by
  have e : ZK (Zf g) (g i) = 7 := by show zkd (zix g (g i) 47) = 7; rw [zix_eq hg hi, hk]
  unfold cE
  rw [if_neg (by rw [e]; decide), if_neg (by rw [e]; decide)]
  rfl
theorem zaq {D : va_G} {cl : List vw_C} {H : Heap} {a n : Nat} {c : ClassId} {F F' : Nat → Option Nat} (h : va_at D cl (a, .inl (c, n, .inr (.inr (.inr (.inr F))))) H) (e : ∀ j, j < n → F j = F' j) : va_at D cl (a, .inl (c, n, .inr (.inr (.inr (.inr F'))))) H := by
  have h1 : H[a]? = some (vp_cell c (n, .inr (.inr (.inr (.inr F))))) := h
  show H[a]? = some (vp_cell c (n, .inr (.inr (.inr (.inr F')))))
  rw [h1, vp_cell_q, vp_cell_q]
  have : (fun j : Fin n => va_rf (F j.val)) = fun j : Fin n => va_rf (F' j.val) := funext fun j => by rw [e j.val j.isLt]
  unfold arrV
  rw [this]
abbrev zW1 (c4 : Nat → ClassId) (h0 : Nat) (f : Nat → Nat) : va_W := [(h0, .inr (4, [.ref (f 0), .ref (f 10), .ref (f 24), .ref (f 41), .ref (f 42), .ref (f 44), .int (0 : Int32), .int (0 : Int32), .int (63 : Int32)])), ((f 0), .inr (2, [.ref (f 1)])), ((f 1), .inl (c4 2, 4, .inr (.inr (.inr (.inr (va_up (va_up (va_up (va_up (fun _ => none) (0 : Int32).toNatClampNeg (some (f 2))) (1 : Int32).toNatClampNeg (some (f 4))) (2 : Int32).toNatClampNeg (some (f 6))) (3 : Int32).toNatClampNeg (some (f 8)))))))), ((f 2), .inr (3, [.ref (f 3), .int (0 : Int32)])), ((f 3), .inl (c4 0, 64, .inr (.inl (fun _ => 0)))), ((f 4), .inr (3, [.ref (f 5), .int (0 : Int32)])), ((f 5), .inl (c4 0, 64, .inr (.inl (fun _ => 0)))), ((f 6), .inr (3, [.ref (f 7), .int (0 : Int32)])), ((f 7), .inl (c4 0, 64, .inr (.inl (fun _ => 0)))), ((f 8), .inr (3, [.ref (f 9), .int (0 : Int32)])), ((f 9), .inl (c4 0, 64, .inr (.inl (fun _ => 0)))), ((f 10), .inr (0, [.ref (f 11), .int (0 : Int32), .ref (f 13)])), ((f 11), .inr (3, [.ref (f 12), .int (0 : Int32)])), ((f 12), .inl (c4 0, 64, .inr (.inl (fun _ => 0)))), ((f 13), .inl (c4 1, 10, .inr (.inr (.inr (.inr (va_up (va_up (va_up (va_up (va_up (va_up (va_up (va_up (va_up (va_up (fun _ => none) (0 : Int32).toNatClampNeg (some (f 14))) (1 : Int32).toNatClampNeg (some (f 15))) (2 : Int32).toNatClampNeg (some (f 16))) (3 : Int32).toNatClampNeg (some (f 17))) (4 : Int32).toNatClampNeg (some (f 18))) (5 : Int32).toNatClampNeg (some (f 19))) (6 : Int32).toNatClampNeg (some (f 20))) (7 : Int32).toNatClampNeg (some (f 21))) (8 : Int32).toNatClampNeg (some (f 22))) (9 : Int32).toNatClampNeg (some (f 23)))))))), ((f 14), .inr (1, [.int 0, .int 0, .int 0, .int 0, .int 0, .int 0, .int 0])), ((f 15), .inr (1, [.int 0, .int 0, .int 0, .int 0, .int 0, .int 0, .int 0])), ((f 16), .inr (1, [.int 0, .int 0, .int 0, .int 0, .int 0, .int 0, .int 0])), ((f 17), .inr (1, [.int 0, .int 0, .int 0, .int 0, .int 0, .int 0, .int 0])), ((f 18), .inr (1, [.int 0, .int 0, .int 0, .int 0, .int 0, .int 0, .int 0])), ((f 19), .inr (1, [.int 0, .int 0, .int 0, .int 0, .int 0, .int 0, .int 0])), ((f 20), .inr (1, [.int 0, .int 0, .int 0, .int 0, .int 0, .int 0, .int 0])), ((f 21), .inr (1, [.int 0, .int 0, .int 0, .int 0, .int 0, .int 0, .int 0])), ((f 22), .inr (1, [.int 0, .int 0, .int 0, .int 0, .int 0, .int 0, .int 0])), ((f 23), .inr (1, [.int 0, .int 0, .int 0, .int 0, .int 0, .int 0, .int 0])), ((f 24), .inl (c4 1, 16, .inr (.inr (.inr (.inr (va_up (va_up (va_up (va_up (va_up (va_up (va_up (va_up (va_up (va_up (va_up (va_up (va_up (va_up (va_up (va_up (fun _ => none) (0 : Int32).toNatClampNeg (some (f 25))) (1 : Int32).toNatClampNeg (some (f 26))) (2 : Int32).toNatClampNeg (some (f 27))) (3 : Int32).toNatClampNeg (some (f 28))) (4 : Int32).toNatClampNeg (some (f 29))) (5 : Int32).toNatClampNeg (some (f 30))) (6 : Int32).toNatClampNeg (some (f 31))) (7 : Int32).toNatClampNeg (some (f 32))) (8 : Int32).toNatClampNeg (some (f 33))) (9 : Int32).toNatClampNeg (some (f 34))) (10 : Int32).toNatClampNeg (some (f 35))) (11 : Int32).toNatClampNeg (some (f 36))) (12 : Int32).toNatClampNeg (some (f 37))) (13 : Int32).toNatClampNeg (some (f 38))) (14 : Int32).toNatClampNeg (some (f 39))) (15 : Int32).toNatClampNeg (some (f 40)))))))), ((f 25), .inr (1, [.int 0, .int 0, .int 0, .int 0, .int 0, .int 0, .int 0])), ((f 26), .inr (1, [.int 0, .int 0, .int 0, .int 0, .int 0, .int 0, .int 0])), ((f 27), .inr (1, [.int 0, .int 0, .int 0, .int 0, .int 0, .int 0, .int 0])), ((f 28), .inr (1, [.int 0, .int 0, .int 0, .int 0, .int 0, .int 0, .int 0])), ((f 29), .inr (1, [.int 0, .int 0, .int 0, .int 0, .int 0, .int 0, .int 0])), ((f 30), .inr (1, [.int 0, .int 0, .int 0, .int 0, .int 0, .int 0, .int 0])), ((f 31), .inr (1, [.int 0, .int 0, .int 0, .int 0, .int 0, .int 0, .int 0])), ((f 32), .inr (1, [.int 0, .int 0, .int 0, .int 0, .int 0, .int 0, .int 0])), ((f 33), .inr (1, [.int 0, .int 0, .int 0, .int 0, .int 0, .int 0, .int 0])), ((f 34), .inr (1, [.int 0, .int 0, .int 0, .int 0, .int 0, .int 0, .int 0])), ((f 35), .inr (1, [.int 0, .int 0, .int 0, .int 0, .int 0, .int 0, .int 0])), ((f 36), .inr (1, [.int 0, .int 0, .int 0, .int 0, .int 0, .int 0, .int 0])), ((f 37), .inr (1, [.int 0, .int 0, .int 0, .int 0, .int 0, .int 0, .int 0])), ((f 38), .inr (1, [.int 0, .int 0, .int 0, .int 0, .int 0, .int 0, .int 0])), ((f 39), .inr (1, [.int 0, .int 0, .int 0, .int 0, .int 0, .int 0, .int 0])), ((f 40), .inr (1, [.int 0, .int 0, .int 0, .int 0, .int 0, .int 0, .int 0])), ((f 41), .inr (1, [.int 0, .int 0, .int 0, .int 0, .int 0, .int 0, .int 0])), ((f 42), .inr (3, [.ref (f 43), .int (0 : Int32)])), ((f 43), .inl (c4 0, 64, .inr (.inl (fun _ => 0)))), ((f 44), .inr (3, [.ref (f 45), .int (0 : Int32)])), ((f 45), .inl (c4 0, 64, .inr (.inl (fun _ => 0))))]
theorem zW1_at {c4 : Nat → ClassId} {h0 : Nat} {f : Nat → Nat} : ∀ i, i < 47 → ∃ e : va_E, (zW1 c4 h0 f)[i]? = some ((gad h0 f i, e) : Nat × va_E) := by
  intro i hi
  match i, hi with
  | 0, _ => exact ⟨_, rfl⟩
  | 1, _ => exact ⟨_, rfl⟩
  | 2, _ => exact ⟨_, rfl⟩
  | 3, _ => exact ⟨_, rfl⟩
  | 4, _ => exact ⟨_, rfl⟩
  | 5, _ => exact ⟨_, rfl⟩
  | 6, _ => exact ⟨_, rfl⟩
  | 7, _ => exact ⟨_, rfl⟩
  | 8, _ => exact ⟨_, rfl⟩
  | 9, _ => exact ⟨_, rfl⟩
  | 10, _ => exact ⟨_, rfl⟩
  | 11, _ => exact ⟨_, rfl⟩
  | 12, _ => exact ⟨_, rfl⟩
  | 13, _ => exact ⟨_, rfl⟩
  | 14, _ => exact ⟨_, rfl⟩
  | 15, _ => exact ⟨_, rfl⟩
  | 16, _ => exact ⟨_, rfl⟩
  | 17, _ => exact ⟨_, rfl⟩
  | 18, _ => exact ⟨_, rfl⟩
  | 19, _ => exact ⟨_, rfl⟩
  | 20, _ => exact ⟨_, rfl⟩
  | 21, _ => exact ⟨_, rfl⟩
  | 22, _ => exact ⟨_, rfl⟩
  | 23, _ => exact ⟨_, rfl⟩
  | 24, _ => exact ⟨_, rfl⟩
  | 25, _ => exact ⟨_, rfl⟩
  | 26, _ => exact ⟨_, rfl⟩
  | 27, _ => exact ⟨_, rfl⟩
  | 28, _ => exact ⟨_, rfl⟩
  | 29, _ => exact ⟨_, rfl⟩
  | 30, _ => exact ⟨_, rfl⟩
  | 31, _ => exact ⟨_, rfl⟩
  | 32, _ => exact ⟨_, rfl⟩
  | 33, _ => exact ⟨_, rfl⟩
  | 34, _ => exact ⟨_, rfl⟩
  | 35, _ => exact ⟨_, rfl⟩
  | 36, _ => exact ⟨_, rfl⟩
  | 37, _ => exact ⟨_, rfl⟩
  | 38, _ => exact ⟨_, rfl⟩
  | 39, _ => exact ⟨_, rfl⟩
  | 40, _ => exact ⟨_, rfl⟩
  | 41, _ => exact ⟨_, rfl⟩
  | 42, _ => exact ⟨_, rfl⟩
  | 43, _ => exact ⟨_, rfl⟩
  | 44, _ => exact ⟨_, rfl⟩
  | 45, _ => exact ⟨_, rfl⟩
  | 46, _ => exact ⟨_, rfl⟩
  | _ + 47, h9 => exact absurd h9 (by omega)
theorem zW1_inj {c4 : Nat → ClassId} {A : Nat → Prop} {h0 : Nat} {f : Nat → Nat} (hD : va_D A (zW1 c4 h0 f)) : ginj (gad h0 f) := by
  intro i j hi hj e
  obtain ⟨e1, h1⟩ := zW1_at (c4 := c4) (h0 := h0) (f := f) i hi
  obtain ⟨e2, h2⟩ := zW1_at (c4 := c4) (h0 := h0) (f := f) j hj
  exact hD.1 i j _ _ h1 h2 e
set_option maxHeartbeats 4000000 in
theorem zconvP {D : va_G} {c4 : Nat → ClassId} {h0 : Nat} {f : Nat → Nat} {H : Heap} (hg : ginj (gad h0 f)) (hP : va_P D vwCl (zW1 c4 h0 f) H) : va_P D vwCl (cW c4 (Zf (gad h0 f)) u00) H := by
  intro k q hq
  have hk : k < 47 := (List.getElem?_eq_some_iff.mp hq).1
  match k, hk with
  | 0, _ => cases (show some _ = some q from hq); exact hP 0 _ rfl
  | 1, _ => cases (show some _ = some q from hq); exact hP 1 _ rfl
  | 2, _ => cases (show some _ = some q from hq); exact zaq (hP 2 _ rfl) (fun j hj => by match j, hj with | 0, _ => rfl | 1, _ => rfl | 2, _ => rfl | 3, _ => rfl | _ + 4, h9 => exact absurd h9 (by omega))
  | 3, _ => cases (show some _ = some q from hq); exact hP 11 _ rfl
  | 4, _ => cases (show some _ = some q from hq); exact zaq (hP 25 _ rfl) (fun j hj => by match j, hj with | 0, _ => rfl | 1, _ => rfl | 2, _ => rfl | 3, _ => rfl | 4, _ => rfl | 5, _ => rfl | 6, _ => rfl | 7, _ => rfl | 8, _ => rfl | 9, _ => rfl | 10, _ => rfl | 11, _ => rfl | 12, _ => rfl | 13, _ => rfl | 14, _ => rfl | 15, _ => rfl | _ + 16, h9 => exact absurd h9 (by omega))
  | 5, _ => cases (show some _ = some q from hq); exact zaq (hP 14 _ rfl) (fun j hj => by match j, hj with | 0, _ => rfl | 1, _ => rfl | 2, _ => rfl | 3, _ => rfl | 4, _ => rfl | 5, _ => rfl | 6, _ => rfl | 7, _ => rfl | 8, _ => rfl | 9, _ => rfl | _ + 10, h9 => exact absurd h9 (by omega))
  | 6, _ => cases (show some _ = some q from hq); show va_at D vwCl (gad h0 f 3, cE c4 (Zf (gad h0 f)) u00 (gad h0 f 3)) H; rw [zcE_R hg (by decide) (by decide)]; exact hP 3 _ rfl
  | 7, _ => cases (show some _ = some q from hq); show va_at D vwCl (gad h0 f 4, cE c4 (Zf (gad h0 f)) u00 (gad h0 f 4)) H; rw [zcE_A hg (by decide) (by decide)]; exact hP 4 _ rfl
  | 8, _ => cases (show some _ = some q from hq); show va_at D vwCl (gad h0 f 5, cE c4 (Zf (gad h0 f)) u00 (gad h0 f 5)) H; rw [zcE_R hg (by decide) (by decide)]; exact hP 5 _ rfl
  | 9, _ => cases (show some _ = some q from hq); show va_at D vwCl (gad h0 f 6, cE c4 (Zf (gad h0 f)) u00 (gad h0 f 6)) H; rw [zcE_A hg (by decide) (by decide)]; exact hP 6 _ rfl
  | 10, _ => cases (show some _ = some q from hq); show va_at D vwCl (gad h0 f 7, cE c4 (Zf (gad h0 f)) u00 (gad h0 f 7)) H; rw [zcE_R hg (by decide) (by decide)]; exact hP 7 _ rfl
  | 11, _ => cases (show some _ = some q from hq); show va_at D vwCl (gad h0 f 8, cE c4 (Zf (gad h0 f)) u00 (gad h0 f 8)) H; rw [zcE_A hg (by decide) (by decide)]; exact hP 8 _ rfl
  | 12, _ => cases (show some _ = some q from hq); show va_at D vwCl (gad h0 f 9, cE c4 (Zf (gad h0 f)) u00 (gad h0 f 9)) H; rw [zcE_R hg (by decide) (by decide)]; exact hP 9 _ rfl
  | 13, _ => cases (show some _ = some q from hq); show va_at D vwCl (gad h0 f 10, cE c4 (Zf (gad h0 f)) u00 (gad h0 f 10)) H; rw [zcE_A hg (by decide) (by decide)]; exact hP 10 _ rfl
  | 14, _ => cases (show some _ = some q from hq); show va_at D vwCl (gad h0 f 12, cE c4 (Zf (gad h0 f)) u00 (gad h0 f 12)) H; rw [zcE_R hg (by decide) (by decide)]; exact hP 12 _ rfl
  | 15, _ => cases (show some _ = some q from hq); show va_at D vwCl (gad h0 f 13, cE c4 (Zf (gad h0 f)) u00 (gad h0 f 13)) H; rw [zcE_A hg (by decide) (by decide)]; exact hP 13 _ rfl
  | 16, _ => cases (show some _ = some q from hq); show va_at D vwCl (gad h0 f 15, cE c4 (Zf (gad h0 f)) u00 (gad h0 f 15)) H; rw [zcE_F hg (by decide) (by decide)]; exact hP 15 _ rfl
  | 17, _ => cases (show some _ = some q from hq); show va_at D vwCl (gad h0 f 16, cE c4 (Zf (gad h0 f)) u00 (gad h0 f 16)) H; rw [zcE_F hg (by decide) (by decide)]; exact hP 16 _ rfl
  | 18, _ => cases (show some _ = some q from hq); show va_at D vwCl (gad h0 f 17, cE c4 (Zf (gad h0 f)) u00 (gad h0 f 17)) H; rw [zcE_F hg (by decide) (by decide)]; exact hP 17 _ rfl
  | 19, _ => cases (show some _ = some q from hq); show va_at D vwCl (gad h0 f 18, cE c4 (Zf (gad h0 f)) u00 (gad h0 f 18)) H; rw [zcE_F hg (by decide) (by decide)]; exact hP 18 _ rfl
  | 20, _ => cases (show some _ = some q from hq); show va_at D vwCl (gad h0 f 19, cE c4 (Zf (gad h0 f)) u00 (gad h0 f 19)) H; rw [zcE_F hg (by decide) (by decide)]; exact hP 19 _ rfl
  | 21, _ => cases (show some _ = some q from hq); show va_at D vwCl (gad h0 f 20, cE c4 (Zf (gad h0 f)) u00 (gad h0 f 20)) H; rw [zcE_F hg (by decide) (by decide)]; exact hP 20 _ rfl
  | 22, _ => cases (show some _ = some q from hq); show va_at D vwCl (gad h0 f 21, cE c4 (Zf (gad h0 f)) u00 (gad h0 f 21)) H; rw [zcE_F hg (by decide) (by decide)]; exact hP 21 _ rfl
  | 23, _ => cases (show some _ = some q from hq); show va_at D vwCl (gad h0 f 22, cE c4 (Zf (gad h0 f)) u00 (gad h0 f 22)) H; rw [zcE_F hg (by decide) (by decide)]; exact hP 22 _ rfl
  | 24, _ => cases (show some _ = some q from hq); show va_at D vwCl (gad h0 f 23, cE c4 (Zf (gad h0 f)) u00 (gad h0 f 23)) H; rw [zcE_F hg (by decide) (by decide)]; exact hP 23 _ rfl
  | 25, _ => cases (show some _ = some q from hq); show va_at D vwCl (gad h0 f 24, cE c4 (Zf (gad h0 f)) u00 (gad h0 f 24)) H; rw [zcE_F hg (by decide) (by decide)]; exact hP 24 _ rfl
  | 26, _ => cases (show some _ = some q from hq); show va_at D vwCl (gad h0 f 26, cE c4 (Zf (gad h0 f)) u00 (gad h0 f 26)) H; rw [zcE_F hg (by decide) (by decide)]; exact hP 26 _ rfl
  | 27, _ => cases (show some _ = some q from hq); show va_at D vwCl (gad h0 f 27, cE c4 (Zf (gad h0 f)) u00 (gad h0 f 27)) H; rw [zcE_F hg (by decide) (by decide)]; exact hP 27 _ rfl
  | 28, _ => cases (show some _ = some q from hq); show va_at D vwCl (gad h0 f 28, cE c4 (Zf (gad h0 f)) u00 (gad h0 f 28)) H; rw [zcE_F hg (by decide) (by decide)]; exact hP 28 _ rfl
  | 29, _ => cases (show some _ = some q from hq); show va_at D vwCl (gad h0 f 29, cE c4 (Zf (gad h0 f)) u00 (gad h0 f 29)) H; rw [zcE_F hg (by decide) (by decide)]; exact hP 29 _ rfl
  | 30, _ => cases (show some _ = some q from hq); show va_at D vwCl (gad h0 f 30, cE c4 (Zf (gad h0 f)) u00 (gad h0 f 30)) H; rw [zcE_F hg (by decide) (by decide)]; exact hP 30 _ rfl
  | 31, _ => cases (show some _ = some q from hq); show va_at D vwCl (gad h0 f 31, cE c4 (Zf (gad h0 f)) u00 (gad h0 f 31)) H; rw [zcE_F hg (by decide) (by decide)]; exact hP 31 _ rfl
  | 32, _ => cases (show some _ = some q from hq); show va_at D vwCl (gad h0 f 32, cE c4 (Zf (gad h0 f)) u00 (gad h0 f 32)) H; rw [zcE_F hg (by decide) (by decide)]; exact hP 32 _ rfl
  | 33, _ => cases (show some _ = some q from hq); show va_at D vwCl (gad h0 f 33, cE c4 (Zf (gad h0 f)) u00 (gad h0 f 33)) H; rw [zcE_F hg (by decide) (by decide)]; exact hP 33 _ rfl
  | 34, _ => cases (show some _ = some q from hq); show va_at D vwCl (gad h0 f 34, cE c4 (Zf (gad h0 f)) u00 (gad h0 f 34)) H; rw [zcE_F hg (by decide) (by decide)]; exact hP 34 _ rfl
  | 35, _ => cases (show some _ = some q from hq); show va_at D vwCl (gad h0 f 35, cE c4 (Zf (gad h0 f)) u00 (gad h0 f 35)) H; rw [zcE_F hg (by decide) (by decide)]; exact hP 35 _ rfl
  | 36, _ => cases (show some _ = some q from hq); show va_at D vwCl (gad h0 f 36, cE c4 (Zf (gad h0 f)) u00 (gad h0 f 36)) H; rw [zcE_F hg (by decide) (by decide)]; exact hP 36 _ rfl
  | 37, _ => cases (show some _ = some q from hq); show va_at D vwCl (gad h0 f 37, cE c4 (Zf (gad h0 f)) u00 (gad h0 f 37)) H; rw [zcE_F hg (by decide) (by decide)]; exact hP 37 _ rfl
  | 38, _ => cases (show some _ = some q from hq); show va_at D vwCl (gad h0 f 38, cE c4 (Zf (gad h0 f)) u00 (gad h0 f 38)) H; rw [zcE_F hg (by decide) (by decide)]; exact hP 38 _ rfl
  | 39, _ => cases (show some _ = some q from hq); show va_at D vwCl (gad h0 f 39, cE c4 (Zf (gad h0 f)) u00 (gad h0 f 39)) H; rw [zcE_F hg (by decide) (by decide)]; exact hP 39 _ rfl
  | 40, _ => cases (show some _ = some q from hq); show va_at D vwCl (gad h0 f 40, cE c4 (Zf (gad h0 f)) u00 (gad h0 f 40)) H; rw [zcE_F hg (by decide) (by decide)]; exact hP 40 _ rfl
  | 41, _ => cases (show some _ = some q from hq); show va_at D vwCl (gad h0 f 41, cE c4 (Zf (gad h0 f)) u00 (gad h0 f 41)) H; rw [zcE_F hg (by decide) (by decide)]; exact hP 41 _ rfl
  | 42, _ => cases (show some _ = some q from hq); show va_at D vwCl (gad h0 f 42, cE c4 (Zf (gad h0 f)) u00 (gad h0 f 42)) H; rw [zcE_F hg (by decide) (by decide)]; exact hP 42 _ rfl
  | 43, _ => cases (show some _ = some q from hq); show va_at D vwCl (gad h0 f 43, cE c4 (Zf (gad h0 f)) u00 (gad h0 f 43)) H; rw [zcE_R hg (by decide) (by decide)]; exact hP 43 _ rfl
  | 44, _ => cases (show some _ = some q from hq); show va_at D vwCl (gad h0 f 44, cE c4 (Zf (gad h0 f)) u00 (gad h0 f 44)) H; rw [zcE_A hg (by decide) (by decide)]; exact hP 44 _ rfl
  | 45, _ => cases (show some _ = some q from hq); show va_at D vwCl (gad h0 f 45, cE c4 (Zf (gad h0 f)) u00 (gad h0 f 45)) H; rw [zcE_R hg (by decide) (by decide)]; exact hP 45 _ rfl
  | 46, _ => cases (show some _ = some q from hq); show va_at D vwCl (gad h0 f 46, cE c4 (Zf (gad h0 f)) u00 (gad h0 f 46)) H; rw [zcE_A hg (by decide) (by decide)]; exact hP 46 _ rfl
  | _ + 47, h9 => exact absurd h9 (by omega)
set_option maxHeartbeats 4000000 in
theorem zcW_at {c4 : Nat → ClassId} {Z : CZ} {u : CS} {g : Nat → Nat} (hZ : Z = Zf g) : ∀ k, k < 47 → ∃ e : va_E, (cW c4 Z u)[k]? = some ((g (zPm.getD k 0), e) : Nat × va_E) := by
  subst hZ
  intro k hk
  match k, hk with
  | 0, _ => exact ⟨_, rfl⟩
  | 1, _ => exact ⟨_, rfl⟩
  | 2, _ => exact ⟨_, rfl⟩
  | 3, _ => exact ⟨_, rfl⟩
  | 4, _ => exact ⟨_, rfl⟩
  | 5, _ => exact ⟨_, rfl⟩
  | 6, _ => exact ⟨_, rfl⟩
  | 7, _ => exact ⟨_, rfl⟩
  | 8, _ => exact ⟨_, rfl⟩
  | 9, _ => exact ⟨_, rfl⟩
  | 10, _ => exact ⟨_, rfl⟩
  | 11, _ => exact ⟨_, rfl⟩
  | 12, _ => exact ⟨_, rfl⟩
  | 13, _ => exact ⟨_, rfl⟩
  | 14, _ => exact ⟨_, rfl⟩
  | 15, _ => exact ⟨_, rfl⟩
  | 16, _ => exact ⟨_, rfl⟩
  | 17, _ => exact ⟨_, rfl⟩
  | 18, _ => exact ⟨_, rfl⟩
  | 19, _ => exact ⟨_, rfl⟩
  | 20, _ => exact ⟨_, rfl⟩
  | 21, _ => exact ⟨_, rfl⟩
  | 22, _ => exact ⟨_, rfl⟩
  | 23, _ => exact ⟨_, rfl⟩
  | 24, _ => exact ⟨_, rfl⟩
  | 25, _ => exact ⟨_, rfl⟩
  | 26, _ => exact ⟨_, rfl⟩
  | 27, _ => exact ⟨_, rfl⟩
  | 28, _ => exact ⟨_, rfl⟩
  | 29, _ => exact ⟨_, rfl⟩
  | 30, _ => exact ⟨_, rfl⟩
  | 31, _ => exact ⟨_, rfl⟩
  | 32, _ => exact ⟨_, rfl⟩
  | 33, _ => exact ⟨_, rfl⟩
  | 34, _ => exact ⟨_, rfl⟩
  | 35, _ => exact ⟨_, rfl⟩
  | 36, _ => exact ⟨_, rfl⟩
  | 37, _ => exact ⟨_, rfl⟩
  | 38, _ => exact ⟨_, rfl⟩
  | 39, _ => exact ⟨_, rfl⟩
  | 40, _ => exact ⟨_, rfl⟩
  | 41, _ => exact ⟨_, rfl⟩
  | 42, _ => exact ⟨_, rfl⟩
  | 43, _ => exact ⟨_, rfl⟩
  | 44, _ => exact ⟨_, rfl⟩
  | 45, _ => exact ⟨_, rfl⟩
  | 46, _ => exact ⟨_, rfl⟩
  | _ + 47, h9 => exact absurd h9 (by omega)
theorem zPm_inj : ∀ i, i < 47 → ∀ j, j < 47 → zPm.getD i 0 = zPm.getD j 0 → i = j := by decide +kernel
theorem zPm_lt : ∀ i, i < 47 → zPm.getD i 0 < 47 := by decide +kernel
theorem zconvD {A : Nat → Prop} {c4 : Nat → ClassId} {h0 : Nat} {f : Nat → Nat} (hD : va_D A (zW1 c4 h0 f)) : va_D A (cW c4 (Zf (gad h0 f)) u00) := by
  have hg := zW1_inj hD
  refine ⟨fun i j p q h1 h2 e => ?_, fun k q h => ?_⟩
  · have hi : i < 47 := (List.getElem?_eq_some_iff.mp h1).1
    have hj : j < 47 := (List.getElem?_eq_some_iff.mp h2).1
    obtain ⟨e1, q1⟩ := zcW_at (c4 := c4) (u := u00) (g := gad h0 f) rfl i hi
    obtain ⟨e2, q2⟩ := zcW_at (c4 := c4) (u := u00) (g := gad h0 f) rfl j hj
    cases Option.some.inj (h1.symm.trans q1)
    cases Option.some.inj (h2.symm.trans q2)
    exact zPm_inj i hi j hj (hg _ _ (zPm_lt i hi) (zPm_lt j hj) e)
  · have hk : k < 47 := (List.getElem?_eq_some_iff.mp h).1
    obtain ⟨e1, q1⟩ := zcW_at (c4 := c4) (u := u00) (g := gad h0 f) rfl k hk
    cases Option.some.inj (h.symm.trans q1)
    obtain ⟨e2, q2⟩ := zW1_at (c4 := c4) (h0 := h0) (f := f) _ (zPm_lt k hk)
    have q3 := hD.2 _ _ q2
    exact q3
theorem Zf_F {g : Nat → Nat} (hg : ginj g) {i : Nat} (hi : i < 47) (hk : zkd i = 1) (hm : i ∈ zP41) : isF (Zf g) (g i) := ⟨List.mem_map.mpr ⟨i, hm, rfl⟩, by show zkd (zix g (g i) 47) = 1; rw [zix_eq hg hi, hk]⟩
theorem Zf_R {g : Nat → Nat} (hg : ginj g) {i : Nat} (hi : i + 1 < 47) (hk : zkd i = 3) (hm : i ∈ zP41) (hk1 : zkd (i + 1) = 7) (hm1 : i + 1 ∈ zP41) : isR (Zf g) (g i) := by
  have e2 : Zc (Zf g) (g i) = g (i + 1) := by show g (zix g (g i) 47 + 1) = _; rw [zix_eq hg (by omega)]
  refine ⟨⟨List.mem_map.mpr ⟨i, hm, rfl⟩, by show zkd (zix g (g i) 47) = 3; rw [zix_eq hg (by omega), hk]⟩, ?_⟩
  rw [e2]
  exact ⟨List.mem_map.mpr ⟨i + 1, hm1, rfl⟩, by show zkd (zix g (g (i + 1)) 47) = 7; rw [zix_eq hg hi, hk1]⟩
theorem Zf_ok {g : Nat → Nat} (hg : ginj g) : cok (Zf g) := by
  refine ⟨fun k hk => ?_, fun k hk => ?_, fun k hk => ?_, ?_, ?_, ?_, ?_⟩
  · match k, hk with
    | 0, _ => exact Zf_R hg (i := 3) (by decide) (by decide) (by decide) (by decide) (by decide)
    | 1, _ => exact Zf_R hg (i := 5) (by decide) (by decide) (by decide) (by decide) (by decide)
    | 2, _ => exact Zf_R hg (i := 7) (by decide) (by decide) (by decide) (by decide) (by decide)
    | 3, _ => exact Zf_R hg (i := 9) (by decide) (by decide) (by decide) (by decide) (by decide)
  · exact Zf_F hg (i := 26 + k) (by omega) (by unfold zkd; rw [if_pos (by omega)]) (by have : ∀ k, k < 16 → 26 + k ∈ zP41 := by decide
                                                                                       exact this k hk)
  · exact Zf_F hg (i := 15 + k) (by omega) (by unfold zkd; rw [if_pos (by omega)]) (by have : ∀ k, k < 10 → 15 + k ∈ zP41 := by decide
                                                                                       exact this k hk)
  · exact Zf_F hg (i := 42) (by decide) (by decide) (by decide)
  · exact Zf_R hg (i := 43) (by decide) (by decide) (by decide) (by decide) (by decide)
  · exact Zf_R hg (i := 45) (by decide) (by decide) (by decide) (by decide) (by decide)
  · exact Zf_R hg (i := 12) (by decide) (by decide) (by decide) (by decide) (by decide)
def v00 : MS := (mu (mu (mu (fun _ => 0) 3 63) 23 (-1)) 25 (-1), fun _ => 0, fun _ _ => 0, fun _ _ => 0)
def zmz (h0 : Nat) (f : Nat → Nat) : Nat → Nat := fun k => match k with | 0 => h0 | 1 => f 0 | 2 => f 1 | 14 => f 2 | 15 => f 3 | 16 => f 4 | 17 => f 5 | 18 => f 6 | 19 => f 7 | 20 => f 8 | 22 => f 9 | 24 => f 10 | 26 => f 11 | 29 => f 12 | 30 => f 13 | 31 => f 14 | _ => f 15
theorem zmW_eq (c4 : Nat → ClassId) (h0 : Nat) (f : Nat → Nat) : ([(h0, .inr (5, [.int 0, .ref (f 0), .ref (f 1), .int (63 : Int32), .int 0, .int 0, .int 0, .int 0, .long 0, .int 0, .int 0, .long 0, .long 0, .int 0, .ref (f 2), .ref (f 3), .ref (f 4), .ref (f 5), .ref (f 6), .ref (f 7), .ref (f 8), .int 0, .ref (f 9), .int (-1 : Int32), .ref (f 10), .int (-1 : Int32), .ref (f 11), .int 0, .int 0, .ref (f 12), .ref (f 13), .ref (f 14), .ref (f 15)])), ((f 0), .inl (c4 0, 256, .inr (.inl (fun _ => 0)))), ((f 1), .inl (c4 3, 4, .inl (fun _ => 0))), ((f 2), .inl (c4 3, 16, .inl (fun _ => 0))), ((f 3), .inl (c4 3, 16, .inl (fun _ => 0))), ((f 4), .inl (c4 3, 16, .inl (fun _ => 0))), ((f 5), .inl (c4 3, 16, .inl (fun _ => 0))), ((f 6), .inl (c4 3, 16, .inl (fun _ => 0))), ((f 7), .inl (c4 3, 16, .inl (fun _ => 0))), ((f 8), .inl (c4 3, 16, .inl (fun _ => 0))), ((f 9), .inl (c4 0, 160, .inr (.inl (fun _ => 0)))), ((f 10), .inl (c4 0, 160, .inr (.inl (fun _ => 0)))), ((f 11), .inl (c4 0, 160, .inr (.inl (fun _ => 0)))), ((f 12), .inl (c4 3, 200, .inl (fun _ => 0))), ((f 13), .inl (c4 3, 200, .inl (fun _ => 0))), ((f 14), .inl (c4 3, 200, .inl (fun _ => 0))), ((f 15), .inl (c4 3, 200, .inl (fun _ => 0)))] : va_W) = mW c4 (zmz h0 f) v00 := rfl
