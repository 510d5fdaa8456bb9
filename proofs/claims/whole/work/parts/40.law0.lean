/-! ===== worlds side by side ===== -/
theorem va_P_l {D : va_G} {cl : List vw_C} {a b : va_W} {H : Heap} (h : va_P D cl (a ++ b) H) : va_P D cl a H := fun k q hk => h k q (by rw [List.getElem?_append_left (List.getElem?_eq_some_iff.mp hk).1]; exact hk)
theorem va_P_r {D : va_G} {cl : List vw_C} {a b : va_W} {H : Heap} (h : va_P D cl (a ++ b) H) : va_P D cl b H := fun k q hk => h (a.length + k) q (by rw [List.getElem?_append_right (by omega), Nat.add_sub_cancel_left]; exact hk)
theorem va_D_l {A : Nat → Prop} {a b : va_W} (h : va_D A (a ++ b)) : va_D A a :=
  ⟨fun i j p q h1 h2 e => h.1 i j p q (by rw [List.getElem?_append_left (List.getElem?_eq_some_iff.mp h1).1]; exact h1) (by rw [List.getElem?_append_left (List.getElem?_eq_some_iff.mp h2).1]; exact h2) e,
   fun k q hk => h.2 k q (by rw [List.getElem?_append_left (List.getElem?_eq_some_iff.mp hk).1]; exact hk)⟩
theorem va_D_r {A : Nat → Prop} {a b : va_W} (h : va_D A (a ++ b)) : va_D A b :=
  ⟨fun i j p q h1 h2 e => by
    have := h.1 (a.length + i) (a.length + j) p q (by rw [List.getElem?_append_right (by omega), Nat.add_sub_cancel_left]; exact h1) (by rw [List.getElem?_append_right (by omega), Nat.add_sub_cancel_left]; exact h2) e
    omega,
   fun k q hk => h.2 (a.length + k) q (by rw [List.getElem?_append_right (by omega), Nat.add_sub_cancel_left]; exact hk)⟩
theorem va_D_x {A : Nat → Prop} {a b : va_W} (h : va_D A (a ++ b)) {i j : Nat} {p q : Nat × va_E} (h1 : a[i]? = some p) (h2 : b[j]? = some q) : p.1 ≠ q.1 := fun e => by
  have hi := (List.getElem?_eq_some_iff.mp h1).1
  have := h.1 i (a.length + j) p q (by rw [List.getElem?_append_left hi]; exact h1) (by rw [List.getElem?_append_right (by omega), Nat.add_sub_cancel_left]; exact h2) e
  omega
theorem zfreeR {A : Nat → Prop} {a b : va_W} {H0 H : Heap} {locs : List Loc} (hD : va_D A (a ++ b)) (hS : va_S A H0 H locs) (hA : ∀ q, H0.size ≤ q → A q) : ∀ q, va_A b H.size q → A q := fun q h => by
  rcases h with ⟨k, e, h⟩ | h
  · exact (va_D_r hD).2 k _ h
  · exact hA q (Nat.le_trans hS.1 h)
theorem zfreeL {A : Nat → Prop} {a b : va_W} {H0 H : Heap} {locs : List Loc} (hD : va_D A (a ++ b)) (hS : va_S A H0 H locs) (hA : ∀ q, H0.size ≤ q → A q) : ∀ q, va_A a H.size q → A q := fun q h => by
  rcases h with ⟨k, e, h⟩ | h
  · exact (va_D_l hD).2 k _ h
  · exact hA q (Nat.le_trans hS.1 h)
theorem zjoinR {D : va_G} {cl : List vw_C} {A : Nat → Prop} {a b b' : va_W} {H H1 : Heap} (hP : va_P D cl (a ++ b) H) (hD : va_D A (a ++ b)) (hk : ∀ q : Nat, q < H.size → ¬ va_A b H.size q → H1[q]? = H[q]?) (hF : ∀ q, va_A b H.size q → A q) (hP1 : va_P D cl b' H1) (hD1 : va_D (va_A b H.size) b') : va_P D cl (a ++ b') H1 ∧ va_D A (a ++ b') := by
  have hlt : ∀ (k : Nat) (q : Nat × va_E), a[k]? = some q → q.1 < H.size ∧ ¬ va_A b H.size q.1 := fun k q hq => by
    have h1 := vx_lt (va_P_l hP) hq
    refine ⟨h1, fun h => ?_⟩
    rcases h with ⟨j, e, h⟩ | h
    · exact va_D_x hD hq h rfl
    · omega
  refine ⟨((va_P_l hP).kept fun k q hq => hk _ (hlt k q hq).1 (hlt k q hq).2).app hP1, (va_D_l hD).app (hD1.weaken fun k q hq h => hF _ h) fun i j p q h1 h2 e => ?_⟩
  have h3 := hD1.2 j q h2
  rw [← e] at h3
  exact (hlt i p h1).2 h3
theorem zjoinL {D : va_G} {cl : List vw_C} {A : Nat → Prop} {a b a' : va_W} {H H1 : Heap} (hP : va_P D cl (a ++ b) H) (hD : va_D A (a ++ b)) (hk : ∀ q : Nat, q < H.size → ¬ va_A a H.size q → H1[q]? = H[q]?) (hF : ∀ q, va_A a H.size q → A q) (hP1 : va_P D cl a' H1) (hD1 : va_D (va_A a H.size) a') : va_P D cl (a' ++ b) H1 ∧ va_D A (a' ++ b) := by
  have hlt : ∀ (k : Nat) (q : Nat × va_E), b[k]? = some q → q.1 < H.size ∧ ¬ va_A a H.size q.1 := fun k q hq => by
    have h1 := vx_lt (va_P_r hP) hq
    refine ⟨h1, fun h => ?_⟩
    rcases h with ⟨j, e, h⟩ | h
    · exact va_D_x hD h hq rfl
    · omega
  refine ⟨hP1.app ((va_P_r hP).kept fun k q hq => hk _ (hlt k q hq).1 (hlt k q hq).2), (hD1.weaken fun k q hq h => hF _ h).app (va_D_r hD) fun i j p q h1 h2 e => ?_⟩
  have h3 := hD1.2 i p h1
  rw [e] at h3
  exact (hlt j q h2).2 h3
theorem cEv_nar {A B : Nat → Prop} {U : State} {H : Heap} (h : cEv A U H) (hAB : ∀ q, B q → A q) : cEv B U H := by
  obtain ⟨h1, h2, ⟨te, h3, h4⟩, h5, h6, h7, h8⟩ := h
  exact ⟨h1.narrow hAB, h2.narrow hAB, ⟨te, h3.narrow hAB, h4.narrow hAB⟩, h5, h6, h7, h8⟩
/-- a call of the class's method in a world a ++ (the class's) -/
theorem goC2 {D : va_G} {c4 : Nat → ClassId} {A : Nat → Prop} {Z : CZ} {u : CS} {a : va_W} {s U : State} {H : Heap} {locs : List Loc} (hP : va_P D vwCl (a ++ cW c4 Z u) H) (hD : va_D A (a ++ cW c4 Z u)) (hK : va_K D vwCl (cT c4) s) (hA : ∀ q, s.heap.size ≤ q → A q) (hE : cEv A s s.heap) (hS : va_S A s.heap H locs) (hU : U.heap = H) (hW : s.WarmedH U.vm) : cPre D c4 (va_A (cW c4 Z u) H.size) Z u U :=
  ⟨⟨by rw [hU]; exact va_P_r hP, (va_D_r hD).self, va_K.moved hW.alike hK, fun q h => Or.inr (by rw [hU] at h; exact h)⟩, by rw [hU]; exact cEv_nar (cEv_go hE hS hW) (zfreeR hD hS hA)⟩
def zNc (U : State) : Prop := ∀ a ∈ zCst, ∀ b ∈ zCst, a ≠ b → va_Nc a b U
theorem zNc.moved {u U : State} (hvm : u.vm.Alike U.vm) (h : zNc u) : zNc U := fun a ha b hb e => by
  obtain ⟨c, t, h1, h2, h3⟩ := h a ha b hb e
  exact ⟨c, t, by rw [hvm.findClass]; exact h1, by rw [hvm.findClass]; exact h2, by rw [hvm.assignable]; exact h3⟩
abbrev wO (c4 : Nat → ClassId) (o : Nat) (g : Nat → Int64) : va_W := [(o, .inl (c4 0, 1, .inr (.inl g)))]
abbrev lPre (D : va_G) (c4 : Nat → ClassId) (A : Nat → Prop) (Z : CZ) (u : CS) (o : Nat) (g : Nat → Int64) (U : State) : Prop := wPre D c4 A (wO c4 o g ++ cW c4 Z u) U ∧ cEv A U U.heap ∧ zNc U
theorem fbL {D : va_G} {c4 : Nat → ClassId} {A : Nat → Prop} {Z : CZ} {u : CS} {o : Nat} {g : Nat → Int64} {av : List Value} : FrameBlind (va_Pc av (fun U => lPre D c4 A Z u o g U)) := fun _ U g mk q => ⟨q.1, wPre_call q.2.1, cEv_call q.2.2.1, zNc.moved (U := U.calling g mk _) (Vm.Alike.refl U.vm) q.2.2.2⟩
/-- what a helper of the law says of the class's answer -/
def lAns {α : Type} (tl : α → Int64) (co : Nat → Int32) (g : Nat → Int64) (res : CS × (Nat ⊕ α)) (r : Int32) (w : CS × (Nat → Int64)) : Prop :=
  (∃ x, res = (w.1, .inr x) ∧ r = 0 ∧ w.2 0 = tl x) ∨ (∃ k, res = (w.1, .inl k) ∧ r = co k)
def lco1 : Nat → Int32 := fun k => match k with | 1 => 1 | 2 => 2 | 3 => 3 | _ => 4
def lco2 : Nat → Int32 := fun k => match k with | 1 => 3 | 2 => 1 | 3 => 5 | 4 => 4 | _ => 2
def lco3 : Nat → Int32 := fun k => match k with | 1 => 2 | _ => 1
