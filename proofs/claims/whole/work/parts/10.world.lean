/-! ===== the words that every method here takes: all good words of the tables ===== -/
def WG : List Cond := lw_tbl.filter goodWord
theorem wg_0 {w : Cond} (h : w ∈ k2_sels lw_privs) (g : goodWord w = true) : w ∈ WG := List.mem_filter.mpr ⟨List.mem_append_left _ h, g⟩
theorem wg_1 {w : Cond} (h : w ∈ tables_1_1) (g : goodWord w = true) : w ∈ WG := List.mem_filter.mpr ⟨List.mem_append_right _ (List.mem_append_left _ h), g⟩
theorem wg_2 {w : Cond} (h : w ∈ tables_1_2) (g : goodWord w = true) : w ∈ WG := List.mem_filter.mpr ⟨List.mem_append_right _ (List.mem_append_right _ (List.mem_append_left _ h)), g⟩
theorem wg_3 {w : Cond} (h : w ∈ tables_1_3) (g : goodWord w = true) : w ∈ WG := List.mem_filter.mpr ⟨List.mem_append_right _ (List.mem_append_right _ (List.mem_append_right _ (List.mem_append_left _ h))), g⟩
theorem wg_4 {w : Cond} (h : w ∈ tables_1_4) (g : goodWord w = true) : w ∈ WG := List.mem_filter.mpr ⟨List.mem_append_right _ (List.mem_append_right _ (List.mem_append_right _ (List.mem_append_right _ h))), g⟩
abbrev wz (y : MethodName) (b : ByteArray) (n : Nat) (r : Option FieldType) : List Cond := .code y b n r :: WG
theorem wm {a w : Cond} (h : w ∈ WG) : w ∈ a :: WG := List.mem_cons_of_mem _ h
theorem wz_good {a b : Cond} (hb : b ∈ WG) : GoodIn (a :: WG) (b :: WG) := fun w h => by
  have hm : w ∈ WG := (List.mem_cons.mp h).elim (fun e => by rw [e]; exact hb) id
  exact ⟨List.mem_cons_of_mem _ hm, good_of_word (List.mem_filter.mp hm).2⟩
theorem wz_app {a b : Cond} {l : List Cond} (hb : b ∈ WG) (h : ∀ w ∈ l, w ∈ WG) : GoodIn (a :: WG) (l ++ (b :: WG)) := fun w hw => (List.mem_append.mp hw).elim (fun q => ⟨List.mem_cons_of_mem _ (h w q), good_of_word (List.mem_filter.mp (h w q)).2⟩) (wz_good hb w)
theorem wl_0 : ∀ w ∈ ([] : List Cond), w ∈ WG := fun _ h => nomatch h
theorem wl_c {a : Cond} {l : List Cond} (h : a ∈ WG) (t : ∀ w ∈ l, w ∈ WG) : ∀ w ∈ a :: l, w ∈ WG := fun w hw => (List.mem_cons.mp hw).elim (fun e => by rw [e]; exact h) (t w)
theorem wz_V {a b : Cond} {own C : String} {idx : Nat} {y : MethodName} (h1 : .methodLink own idx y ∈ WG) (h2 : .instanceMethod y ∈ WG) (h3 : .selects C y y ∈ WG) (h4 : .initialized C ∈ WG) (hb : b ∈ WG) : GoodIn (a :: WG) (wsV own idx C y (b :: WG)) := wz_app hb (wl_c h1 (wl_c h2 (wl_c h3 (wl_c h4 wl_0))))
theorem wz_S {a b : Cond} {own : String} {idx : Nat} {y : MethodName} (h1 : .methodLink own idx y ∈ WG) (h2 : .static y ∈ WG) (h3 : .initialized y.cls ∈ WG) (hb : b ∈ WG) : GoodIn (a :: WG) (va_wsS own idx y (b :: WG)) := wz_app hb (wl_c h1 (wl_c h2 (wl_c h3 wl_0)))
/-! ===== partial answers ===== -/
theorem zb_bind {α β : Type} {o : Option α} {f : α → Option β} {r : β} (h : o.bind f = some r) : ∃ x, o = some x ∧ f x = some r := by
  cases o with
  | none => cases h
  | some x => exact ⟨x, rfl, h⟩
theorem zb_if {β : Type} {c : Prop} [d : Decidable c] {a : Option β} {r : β} (h : (if c then a else none) = some r) : c ∧ a = some r := by
  by_cases q : c
  · rw [if_pos q] at h; exact ⟨q, h⟩
  · rw [if_neg q] at h; cases h
def inb (i : Int32) (n : Nat) : Bool := decide (¬ (i < 0 ∨ n ≤ i.toNatClampNeg))
theorem inb_in {i : Int32} {n : Nat} (h : inb i n = true) : vp_in i n := of_decide_eq_true (p := ¬ (i < 0 ∨ n ≤ i.toNatClampNeg)) h
theorem inb_lt {i : Int32} {n : Nat} (h : inb i n = true) : i.toNatClampNeg < n := Nat.not_le.mp fun q => inb_in h (Or.inr q)
/-! ===== the class's world: addresses (z, handles, levels, segments, a row's cells, the pool's addresses and kinds) and state ===== -/
abbrev CZ : Type := (Nat → Nat) × (Nat → Nat) × (Nat → Nat) × (Nat → Nat) × (Nat → Nat) × List Nat × (Nat → Nat)
abbrev Zz (Z : CZ) : Nat → Nat := Z.1
abbrev Zh (Z : CZ) : Nat → Nat := Z.2.1
abbrev Zl (Z : CZ) : Nat → Nat := Z.2.2.1
abbrev Zs (Z : CZ) : Nat → Nat := Z.2.2.2.1
abbrev Zc (Z : CZ) : Nat → Nat := Z.2.2.2.2.1
abbrev ZL (Z : CZ) : List Nat := Z.2.2.2.2.2.1
abbrev ZK (Z : CZ) : Nat → Nat := Z.2.2.2.2.2.2
abbrev CS : Type := (Nat → Nat → Int32) × (Nat → Int32) × (Nat → Nat → Int64) × (Nat → Int32)
abbrev Uf (u : CS) : Nat → Nat → Int32 := u.1
abbrev Us (u : CS) : Nat → Int32 := u.2.1
abbrev Uc (u : CS) : Nat → Nat → Int64 := u.2.2.1
abbrev Ui (u : CS) : Nat → Int32 := u.2.2.2
def mu {α : Type} (f : Nat → α) (k : Nat) (v : α) : Nat → α := fun j => bif Nat.beq j k then v else f j
theorem mu_eq {α : Type} (f : Nat → α) (k : Nat) (v : α) : mu f k v k = v := by simp [mu, Nat.beq_eq]
theorem mu_ne {α : Type} (f : Nat → α) {k j : Nat} (v : α) (h : j ≠ k) : mu f k v j = f j := by
  have q : Nat.beq j k = false := by
    cases hb : Nat.beq j k with
    | true => exact absurd (Nat.eq_of_beq_eq_true hb) h
    | false => rfl
  simp [mu, q]
theorem mu_up {α : Type} (f : Nat → α) (k : Nat) (v : α) (j : Nat) : va_up f k v j = mu f k v j := by
  by_cases h : j = k
  · rw [h, mu_eq, va_up_self]
  · rw [mu_ne _ _ h, va_up_ne _ _ h]
def sF (u : CS) (k a : Nat) (v : Int32) : CS := (mu u.1 k (mu (u.1 k) a v), u.2)
def sS (u : CS) (a : Nat) (v : Int32) : CS := (u.1, mu u.2.1 a v, u.2.2)
def sC (u : CS) (b : Nat) (f : Nat → Int64) : CS := (u.1, u.2.1, mu u.2.2.1 b f, u.2.2.2)
def sI (u : CS) (k : Nat) (v : Int32) : CS := (u.1, u.2.1, u.2.2.1, mu u.2.2.2 k v)
abbrev cF (u : CS) (a : Nat) : List Value := [.int (Uf u 0 a), .int (Uf u 1 a), .int (Uf u 2 a), .int (Uf u 3 a), .int (Uf u 4 a), .int (Uf u 5 a), .int (Uf u 6 a)]
def cE (c4 : Nat → ClassId) (Z : CZ) (u : CS) (a : Nat) : va_E := if ZK Z a = 1 then .inr (1, cF u a) else if ZK Z a = 3 then .inr (3, [.ref (Zc Z a), .int (Us u a)]) else .inl (c4 0, 64, .inr (.inl (Uc u a)))
abbrev cX (c4 : Nat → ClassId) (Z : CZ) (u : CS) : va_W := [(Zz Z 0, .inr (4, [.ref (Zz Z 1), .ref (Zz Z 3), .ref (Zz Z 4), .ref (Zz Z 6), .ref (Zz Z 7), .ref (Zz Z 8), .int (Ui u 1), .int (Ui u 2), .int (Ui u 3)])), (Zz Z 1, .inr (2, [.ref (Zz Z 2)])), (Zz Z 2, .inl (c4 2, 4, .inr (.inr (.inr (.inr (fun k => some (Zs Z k))))))), (Zz Z 3, .inr (0, [.ref (Zz Z 9), .int (Ui u 0), .ref (Zz Z 5)])), (Zz Z 4, .inl (c4 1, 16, .inr (.inr (.inr (.inr (fun k => some (Zh Z k))))))), (Zz Z 5, .inl (c4 1, 10, .inr (.inr (.inr (.inr (fun k => some (Zl Z k)))))))]
abbrev cW (c4 : Nat → ClassId) (Z : CZ) (u : CS) : va_W := cX c4 Z u ++ va_pl (ZL Z) (cE c4 Z u)
def isF (Z : CZ) (a : Nat) : Prop := a ∈ ZL Z ∧ ZK Z a = 1
def isR (Z : CZ) (a : Nat) : Prop := (a ∈ ZL Z ∧ ZK Z a = 3) ∧ (Zc Z a ∈ ZL Z ∧ ZK Z (Zc Z a) = 7)
def cok (Z : CZ) : Prop := (∀ k, k < 4 → isR Z (Zs Z k)) ∧ (∀ k, k < 16 → isF Z (Zh Z k)) ∧ (∀ k, k < 10 → isF Z (Zl Z k)) ∧ isF Z (Zz Z 6) ∧ isR Z (Zz Z 7) ∧ isR Z (Zz Z 8) ∧ isR Z (Zz Z 9)
theorem cok_s {Z : CZ} (h : cok Z) {i : Int32} (hi : inb i 4 = true) : isR Z (Zs Z i.toNatClampNeg) := h.1 _ (inb_lt hi)
theorem cok_h {Z : CZ} (h : cok Z) {i : Int32} (hi : inb i 16 = true) : isF Z (Zh Z i.toNatClampNeg) := h.2.1 _ (inb_lt hi)
theorem cok_l {Z : CZ} (h : cok Z) {i : Int32} (hi : inb i 10 = true) : isF Z (Zl Z i.toNatClampNeg) := h.2.2.1 _ (inb_lt hi)
theorem cW_F {c4 : Nat → ClassId} {Z : CZ} {u : CS} {a : Nat} (h : isF Z a) : ∃ n : Nat, (cW c4 Z u)[n]? = some ((a, .inr (1, cF u a)) : Nat × va_E) := by
  obtain ⟨k, hk⟩ := va_pl_get (X := cX c4 Z u) (f := cE c4 Z u) h.1
  exact ⟨k, hk.trans (by simp [cE, h.2])⟩
theorem cW_R {c4 : Nat → ClassId} {Z : CZ} {u : CS} {a : Nat} (h : isR Z a) : ∃ n : Nat, (cW c4 Z u)[n]? = some ((a, .inr (3, [.ref (Zc Z a), .int (Us u a)])) : Nat × va_E) := by
  obtain ⟨k, hk⟩ := va_pl_get (X := cX c4 Z u) (f := cE c4 Z u) h.1.1
  exact ⟨k, hk.trans (by simp [cE, h.1.2])⟩
theorem cW_C {c4 : Nat → ClassId} {Z : CZ} {u : CS} {a : Nat} (h : isR Z a) : ∃ n : Nat, (cW c4 Z u)[n]? = some ((Zc Z a, .inl (c4 0, 64, .inr (.inl (Uc u (Zc Z a))))) : Nat × va_E) := by
  obtain ⟨k, hk⟩ := va_pl_get (X := cX c4 Z u) (f := cE c4 Z u) h.2.1
  exact ⟨k, hk.trans (by simp [cE, h.2.2])⟩
theorem cW_setF {A : Nat → Prop} {c4 : Nat → ClassId} {Z : CZ} {u : CS} {a n k : Nat} {v : Int32} (hD : va_D A (cW c4 Z u)) (h : isF Z a) (hn : (cW c4 Z u)[n]? = some ((a, .inr (1, cF u a)) : Nat × va_E)) (hk : k < 7) : (cW c4 Z u).set n (a, .inr (1, (cF u a).set k (.int v))) = cW c4 Z (sF u k a v) := by
  rw [va_pl_set (X := cX c4 Z u) hD h.1 (hn.trans (by simp [cE, h.2]))]
  refine congrArg (fun l => cX c4 Z u ++ l) (va_pl_congr fun b => ?_)
  by_cases hb : b = a
  · rw [hb, va_up_self]
    have q : ∀ j, (sF u k a v).1 j a = if j = k then v else u.1 j a := fun j => by
      show mu u.1 k (mu (u.1 k) a v) j a = _
      by_cases hj : j = k
      · rw [hj, mu_eq, mu_eq, if_pos rfl]
      · rw [mu_ne _ _ hj, if_neg hj]
    simp only [cE, h.2, if_pos, cF, Uf, q]
    match k, hk with
    | 0, _ => simp
    | 1, _ => simp
    | 2, _ => simp
    | 3, _ => simp
    | 4, _ => simp
    | 5, _ => simp
    | 6, _ => simp
  · rw [va_up_ne _ _ hb]
    have q : ∀ j, (sF u k a v).1 j b = u.1 j b := fun j => by
      show mu u.1 k (mu (u.1 k) a v) j b = _
      by_cases hj : j = k
      · rw [hj, mu_eq, mu_ne _ _ hb]
      · rw [mu_ne _ _ hj]
    simp only [cE, cF, Uf, q]
    rfl
theorem cW_setS {A : Nat → Prop} {c4 : Nat → ClassId} {Z : CZ} {u : CS} {a n : Nat} {v : Int32} (hD : va_D A (cW c4 Z u)) (h : isR Z a) (hn : (cW c4 Z u)[n]? = some ((a, .inr (3, [.ref (Zc Z a), .int (Us u a)])) : Nat × va_E)) : (cW c4 Z u).set n (a, .inr (3, [.ref (Zc Z a), .int v])) = cW c4 Z (sS u a v) := by
  rw [va_pl_set (X := cX c4 Z u) hD h.1.1 (hn.trans (by simp [cE, h.1.2]))]
  refine congrArg (fun l => cX c4 Z u ++ l) (va_pl_congr fun b => ?_)
  by_cases hb : b = a
  · rw [hb, va_up_self]
    simp [cE, h.1.2, sS, mu_eq, Us]
  · rw [va_up_ne _ _ hb]
    simp only [cE, sS, Us, mu_ne _ _ hb]
theorem cW_setC {A : Nat → Prop} {c4 : Nat → ClassId} {Z : CZ} {u : CS} {a n : Nat} {f : Nat → Int64} (hD : va_D A (cW c4 Z u)) (h : isR Z a) (hn : (cW c4 Z u)[n]? = some ((Zc Z a, .inl (c4 0, 64, .inr (.inl (Uc u (Zc Z a))))) : Nat × va_E)) : (cW c4 Z u).set n (Zc Z a, .inl (c4 0, 64, .inr (.inl f))) = cW c4 Z (sC u (Zc Z a) f) := by
  rw [va_pl_set (X := cX c4 Z u) hD h.2.1 (hn.trans (by simp [cE, h.2.2]))]
  refine congrArg (fun l => cX c4 Z u ++ l) (va_pl_congr fun b => ?_)
  by_cases hb : b = Zc Z a
  · rw [hb, va_up_self]
    simp [cE, h.2.2, sC, mu_eq, Uc]
  · rw [va_up_ne _ _ hb]
    simp only [cE, sC, Uc, mu_ne _ _ hb]
/-! ===== what holds beside the world: statics, texts, links of nest mates ===== -/
def zEB : Nat → Int32 := fun j => match j with | 0 => 0 | 1 => 1 | 2 => 8 | 3 => 16 | 4 => 32 | _ => 64
def zStr : List (String × Nat × String) := [("PointedWords$Message", 59, "there is no word for the root"), ("PointedWords$Message", 66, "the root is null"), ("PointedWords$Message", 123, "no struct or list pointer"), ("PointedWords$Message", 114, "the pad is not there"), ("PointedWords$Message", 128, "no pad of two words"), ("PointedWords$Message", 160, "a struct that is not within its segment"), ("PointedWords$Message", 171, "a list that is not within its segment"), ("PointedWords$Message", 173, "a tag that is none"), ("PointedWords$Message", 178, "elements that need more words"), ("PointedWords$Message", 79, "the root is a list"), ("PointedWords$Message", 91, "too deep"), ("PointedWords$Message", 94, "the budget does not suffice"), ("PointedWords", 177, "no such handle"), ("PointedWords", 107, "a list without pointers of its own"), ("PointedWords", 185, "no such element"), ("PointedWords", 182, "all handles are in use"), ("PointedWords", 133, "no list of structs"), ("PointedWords", 149, "no such part"), ("PointedWords", 152, "a list without data of its own")]
def zDecl : List MethodName := [⟨"java/lang/RuntimeException", "<init>", "(Ljava/lang/String;)V"⟩, ⟨"java/lang/Exception", "<init>", "(Ljava/lang/String;)V"⟩, ⟨"java/lang/Throwable", "<init>", "(Ljava/lang/String;)V"⟩]
def zCst : List String := ["java/lang/IndexOutOfBoundsException", "java/util/NoSuchElementException", "java/lang/IllegalArgumentException", "java/lang/IllegalStateException", "java/lang/UnsupportedOperationException"]
theorem va_NwC {a b : String} {s U : State} (hW : s.WarmedH U.vm) (hZ : va_Nw (.castable a b) s) : va_Nw (.castable a b) U := va_tabs rfl (rfl : (s.setVm U.vm).vm = U.vm) ((Cond.castable_setVm (args := #[]) hW.alike a b).trans hZ)
def cEv (A : Nat → Prop) (U : State) (H : Heap) : Prop :=
  vx_Zq Bundle.tN "UNASSIGNED_STACK" Bundle.steD A U H ∧ vx_Zq Bundle.tN "SUPPRESSED_SENTINEL" Bundle.listD A U H ∧
  (∃ te : Nat, va_Z RX0 "ELEMENT_BITS" "[I" (.ref te) A U H ∧ va_T .int te 7 (fun j => .int (zEB j)) A U H) ∧
  va_Nw (.fieldLinkNest RX3 22 "PointedWords$Row" "cells" "[J" RX5) U ∧ (∀ q ∈ zStr, ∃ a : Nat, vk_R q.1 q.2.1 q.2.2 a U) ∧ (∀ x ∈ zDecl, va_Nw (.declares x) U) ∧ (∀ x ∈ zCst, va_Nw (.castable x x) U)
theorem cEv_go {A : Nat → Prop} {s U : State} {H0 H : Heap} {locs : List Loc} (h : cEv A s H0) (hS : va_S A H0 H locs) (hW : s.WarmedH U.vm) : cEv A U H := by
  obtain ⟨h1, h2, ⟨te, h3, h4⟩, h5, h6, h7, h8⟩ := h
  exact ⟨(h1.kept hS.2.1).moved hW.alike, (h2.kept hS.2.1).moved hW.alike, ⟨te, (h3.kept hS.2.1).moved hW.alike, (h4.kept hS.2.1).moved hW.alike⟩, va_Nw.warmF hW h5, fun q hq => by
    obtain ⟨a, ha⟩ := h6 q hq
    exact ⟨a, vk_R.warm hW ha⟩, fun x hx => va_Nw.warmD hW (h7 x hx), fun x hx => va_NwC hW (h8 x hx)⟩
theorem cEv_call {A : Nat → Prop} {U : State} {g : JFrame} {mk : MethodId} {a : Array Value} (h : cEv A U U.heap) : cEv A (U.calling g mk a) (U.calling g mk a).heap := cEv_go (U := U.calling g mk a) h (va_S.rf) (State.WarmedH.refl U)
abbrev cT (c4 : Nat → ClassId) : List (ClassId × FieldType) := [(c4 0, .long), (c4 1, .object "PointedWords$Found"), (c4 2, .object "PointedWords$Row"), (c4 3, .int)]
/-- a world: its cells, apart, all that comes later free -/
def wPre (D : va_G) (c4 : Nat → ClassId) (A : Nat → Prop) (ws : va_W) (U : State) : Prop := va_P D vwCl ws U.heap ∧ va_D A ws ∧ va_K D vwCl (cT c4) U ∧ ∀ q, U.heap.size ≤ q → A q
theorem wPre_go {D : va_G} {c4 : Nat → ClassId} {A : Nat → Prop} {ws : va_W} {s U : State} {H0 H : Heap} {locs : List Loc} (hP : va_P D vwCl ws H) (hD : va_D A ws) (hK : va_K D vwCl (cT c4) s) (hA : ∀ q, H0.size ≤ q → A q) (hS : va_S A H0 H locs) (hU : U.heap = H) (hW : s.vm.Alike U.vm) : wPre D c4 A ws U :=
  ⟨by rw [hU]; exact hP, hD, va_K.moved hW hK, fun q h => hA q (by rw [hU] at h; exact Nat.le_trans hS.1 h)⟩
theorem wPre_call {D : va_G} {c4 : Nat → ClassId} {A : Nat → Prop} {ws : va_W} {U : State} {g : JFrame} {mk : MethodId} {a : Array Value} (h : wPre D c4 A ws U) : wPre D c4 A ws (U.calling g mk a) := ⟨h.1, h.2.1, va_K.moved (u := U) (U := U.calling g mk a) (Vm.Alike.refl U.vm) h.2.2.1, h.2.2.2⟩
abbrev cPre (D : va_G) (c4 : Nat → ClassId) (A : Nat → Prop) (Z : CZ) (u : CS) (U : State) : Prop := wPre D c4 A (cW c4 Z u) U ∧ cEv A U U.heap
theorem fbC {D : va_G} {c4 : Nat → ClassId} {A : Nat → Prop} {Z : CZ} {u : CS} {av : List Value} : FrameBlind (va_Pc av (fun U => cPre D c4 A Z u U)) := fun _ _ _ _ q => ⟨q.1, wPre_call q.2.1, cEv_call q.2.2⟩
theorem fbN {av : List Value} : FrameBlind (va_Pc av (fun _ => True)) := fun _ _ _ _ q => q
theorem fbE {A : Nat → Prop} {av : List Value} : FrameBlind (va_Pc av (fun U => cEv A U U.heap)) := fun _ _ _ _ q => ⟨q.1, cEv_call q.2⟩
theorem goC {D : va_G} {c4 : Nat → ClassId} {A : Nat → Prop} {Z : CZ} {u : CS} {s U : State} {H : Heap} {locs : List Loc} (hP : va_P D vwCl (cW c4 Z u) H) (hD : va_D A (cW c4 Z u)) (hK : va_K D vwCl (cT c4) s) (hA : ∀ q, s.heap.size ≤ q → A q) (hE : cEv A s s.heap) (hS : va_S A s.heap H locs) (hU : U.heap = H) (hW : s.WarmedH U.vm) : cPre D c4 A Z u U :=
  ⟨wPre_go hP hD hK hA hS hU hW.alike, by rw [hU]; exact cEv_go hE hS hW⟩
theorem goE {A : Nat → Prop} {s U : State} {H : Heap} {locs : List Loc} (hE : cEv A s s.heap) (hS : va_S A s.heap H locs) (hU : U.heap = H) (hW : s.WarmedH U.vm) : cEv A U U.heap := by rw [hU]; exact cEv_go hE hS hW
/-! ===== the reference's world: ints, longs, int arrays, long arrays, by the fields' places ===== -/
abbrev MS : Type := (Nat → Int32) × (Nat → Int64) × (Nat → Nat → Int32) × (Nat → Nat → Int64)
abbrev Vi (v : MS) : Nat → Int32 := v.1
abbrev Vl (v : MS) : Nat → Int64 := v.2.1
abbrev Va (v : MS) : Nat → Nat → Int32 := v.2.2.1
abbrev Vr (v : MS) : Nat → Nat → Int64 := v.2.2.2
def tI (v : MS) (k : Nat) (x : Int32) : MS := (mu v.1 k x, v.2)
def tL (v : MS) (k : Nat) (x : Int64) : MS := (v.1, mu v.2.1 k x, v.2.2)
def tA (v : MS) (k j : Nat) (x : Int32) : MS := (v.1, v.2.1, mu v.2.2.1 k (upd (v.2.2.1 k) j x), v.2.2.2)
def tR (v : MS) (k j : Nat) (x : Int64) : MS := (v.1, v.2.1, v.2.2.1, mu v.2.2.2 k (vp_updL (v.2.2.2 k) j x))
abbrev mO (z : Nat → Nat) (v : MS) : List Value := [.int (Vi v 0), .ref (z 1), .ref (z 2), .int (Vi v 3), .int (Vi v 4), .int (Vi v 5), .int (Vi v 6), .int (Vi v 7), .long (Vl v 8), .int (Vi v 9), .int (Vi v 10), .long (Vl v 11), .long (Vl v 12), .int (Vi v 13), .ref (z 14), .ref (z 15), .ref (z 16), .ref (z 17), .ref (z 18), .ref (z 19), .ref (z 20), .int (Vi v 21), .ref (z 22), .int (Vi v 23), .ref (z 24), .int (Vi v 25), .ref (z 26), .int (Vi v 27), .int (Vi v 28), .ref (z 29), .ref (z 30), .ref (z 31), .ref (z 32)]
abbrev mW (c4 : Nat → ClassId) (z : Nat → Nat) (v : MS) : va_W := [(z 0, .inr (5, mO z v)), (z 1, .inl (c4 0, 256, .inr (.inl (Vr v 1)))), (z 2, .inl (c4 3, 4, .inl (Va v 2))), (z 14, .inl (c4 3, 16, .inl (Va v 14))), (z 15, .inl (c4 3, 16, .inl (Va v 15))), (z 16, .inl (c4 3, 16, .inl (Va v 16))), (z 17, .inl (c4 3, 16, .inl (Va v 17))), (z 18, .inl (c4 3, 16, .inl (Va v 18))), (z 19, .inl (c4 3, 16, .inl (Va v 19))), (z 20, .inl (c4 3, 16, .inl (Va v 20))), (z 22, .inl (c4 0, 160, .inr (.inl (Vr v 22)))), (z 24, .inl (c4 0, 160, .inr (.inl (Vr v 24)))), (z 26, .inl (c4 0, 160, .inr (.inl (Vr v 26)))), (z 29, .inl (c4 3, 200, .inl (Va v 29))), (z 30, .inl (c4 3, 200, .inl (Va v 30))), (z 31, .inl (c4 3, 200, .inl (Va v 31))), (z 32, .inl (c4 3, 200, .inl (Va v 32)))]
abbrev mPre (D : va_G) (c4 : Nat → ClassId) (A : Nat → Prop) (z : Nat → Nat) (v : MS) (U : State) : Prop := wPre D c4 A (mW c4 z v) U
theorem fbM {D : va_G} {c4 : Nat → ClassId} {A : Nat → Prop} {z : Nat → Nat} {v : MS} {av : List Value} : FrameBlind (va_Pc av (fun U => mPre D c4 A z v U)) := fun _ _ _ _ q => ⟨q.1, wPre_call q.2⟩
/-- .. where only new cells have come -/
theorem wPre_up {D : va_G} {c4 : Nat → ClassId} {A : Nat → Prop} {ws : va_W} {s t : State} {H0 H : Heap} {locs : List Loc} (hP : va_P D vwCl ws H) (hD : va_D A ws) (hK : va_K D vwCl (cT c4) s) (hA : ∀ q, H0.size ≤ q → A q) (hS : va_S A H0 H locs) (hz : H.size ≤ t.heap.size) (hk : ∀ q : Nat, q < H.size → t.heap[q]? = H[q]?) (hal : s.vm.Alike t.vm) : wPre D c4 A ws t :=
  ⟨hP.kept fun k q hq => hk _ (vx_lt hP hq), hD, va_K.moved hal hK, fun q h => hA q (Nat.le_trans hS.1 (Nat.le_trans hz h))⟩
theorem va_S_up {A : Nat → Prop} {s t : State} {H : Heap} {locs : List Loc} (hS : va_S A s.heap H locs) (hz : H.size ≤ t.heap.size) (hk : ∀ q : Nat, q < H.size → t.heap[q]? = H[q]?) : va_F A s t :=
  ⟨Nat.le_trans hS.1 hz, fun q h1 h2 => by rw [hk q (Nat.lt_of_lt_of_le h1 hS.1)]; exact hS.2.1 q h1 h2⟩
def zEx : Nat → String := fun k => match k with | 1 => "java/lang/IndexOutOfBoundsException" | 2 => "java/util/NoSuchElementException" | 3 => "java/lang/IllegalArgumentException" | 4 => "java/lang/IllegalStateException" | _ => "java/lang/UnsupportedOperationException"
theorem zt_out {x : Int32} {lo hi : Int} (h : ∀ j : Int, lo ≤ j → j ≤ hi → ¬ x.toInt = j) : x.toInt < lo ∨ hi < x.toInt := by
  by_cases h1 : x.toInt < lo
  · exact Or.inl h1
  · by_cases h2 : hi < x.toInt
    · exact Or.inr h2
    · exact absurd rfl (h x.toInt (by omega) (by omega))
section ZT
variable {p : Program} {l : Launch} {e : Env} {R : Room} {s : State} {m : MethodId} {args : Array Value} {below : List Frame} {meth : Method} {c : Code} {H : Heap} {locs : List Loc} {cells slots : Nat} {Q : State → Prop} {pc : Nat} {ls : Array Slot} {rest : List Value}
theorem zt_i {x y : Int32} (e9 : x = y) (k : W p l e R s m args below meth c H locs cells slots Q (F0 m pc ls (.int y :: rest))) : W p l e R s m args below meth c H locs cells slots Q (F0 m pc ls (.int x :: rest)) := by rw [e9]; exact k
theorem zt_l {x y : Int64} (e9 : x = y) (k : W p l e R s m args below meth c H locs cells slots Q (F0 m pc ls (.long y :: rest))) : W p l e R s m args below meth c H locs cells slots Q (F0 m pc ls (.long x :: rest)) := by rw [e9]; exact k
end ZT
theorem znb {x : Int32} (h : x = 0 ∨ x = 1) : narrow FieldType.boolean (Value.int x) = Value.int x := by
  rcases h with rfl | rfl <;> rfl
