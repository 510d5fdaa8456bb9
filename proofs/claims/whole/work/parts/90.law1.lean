/-! ===== the law's loop: what holds at its head, and what each case owes ===== -/
theorem wgl {w : Cond} (h : w ∈ WG) : w ∈ lw_tbl := (List.mem_filter.mp h).1
theorem wzl_app {b : Cond} {l : List Cond} (hb : b ∈ WG) (h : ∀ w ∈ l, w ∈ WG) : GoodIn lw_tbl (l ++ (b :: WG)) := fun w hw => by
  have hm : w ∈ WG := (List.mem_append.mp hw).elim (h w) (fun q => (List.mem_cons.mp q).elim (fun e => by rw [e]; exact hb) id)
  exact ⟨wgl hm, good_of_word (List.mem_filter.mp hm).2⟩
theorem wzl_V {b : Cond} {own C : String} {idx : Nat} {y : MethodName} (h1 : .methodLink own idx y ∈ WG) (h2 : .instanceMethod y ∈ WG) (h3 : .selects C y y ∈ WG) (h4 : .initialized C ∈ WG) (hb : b ∈ WG) : GoodIn lw_tbl (wsV own idx C y (b :: WG)) := wzl_app hb (wl_c h1 (wl_c h2 (wl_c h3 (wl_c h4 wl_0))))
theorem wzl_S {b : Cond} {own : String} {idx : Nat} {y : MethodName} (h1 : .methodLink own idx y ∈ WG) (h2 : .static y ∈ WG) (h3 : .initialized y.cls ∈ WG) (hb : b ∈ WG) : GoodIn lw_tbl (va_wsS own idx y (b :: WG)) := wzl_app hb (wl_c h1 (wl_c h2 (wl_c h3 wl_0)))
def LA (s : State) : Nat → Prop := fun q => s.heap.size ≤ q
def LCtx (p : Program) (l : Launch) (s : State) (m : MethodId) (meth : Method) (c : Code) (b L : Nat) (xs : Nat → Int32) (D : va_G) (c4 : Nat → ClassId) : Prop :=
  lw_At p s m meth c b L xs ∧ va_K D vwCl (cT c4) s ∧ cEv (LA s) s s.heap ∧ zNc s ∧ l.stackTraces = false
def lCase (p : Program) (l : Launch) (e : Env) (s : State) (m : MethodId) (below : List Frame) (meth : Method) (c : Code) (D : va_G) (c4 : Nat → ClassId) (b : Nat) (x4 : Int32) (Z : CZ) (z : Nat → Nat) (o i pc : Nat) : Prop :=
  ∀ (H : Heap) (locs : List Loc) (u : CS) (v : MS) (g : Nat → Int64), va_P D vwCl ((mW c4 z v ++ wO c4 o g) ++ cW c4 Z u) H → va_D (LA s) ((mW c4 z v ++ wO c4 o g) ++ cW c4 Z u) → va_S (LA s) s.heap H locs → Rel Z u v → ∀ (ls : Array Slot), lv_has ls 8 [(0, .ref b), (1, .ref (Zz Z 0)), (2, .ref (z 0)), (3, .ref o), (4, .int x4)] → W p l e room_1 s m #[Value.ref b] below meth c H locs (100 + i) (2400 + 6 * i) (lw_Z below #[Value.ref b] s) (F0 m pc ls [])
def lKont (p : Program) (l : Launch) (e : Env) (s : State) (m : MethodId) (below : List Frame) (meth : Method) (c : Code) (D : va_G) (c4 : Nat → ClassId) (b : Nat) (x4 : Int32) (Z : CZ) (z : Nat → Nat) (o i : Nat) : Prop :=
  ∀ (H : Heap) (locs : List Loc) (u : CS) (v : MS) (g : Nat → Int64), va_P D vwCl ((mW c4 z v ++ wO c4 o g) ++ cW c4 Z u) H → va_D (LA s) ((mW c4 z v ++ wO c4 o g) ++ cW c4 Z u) → va_S (LA s) s.heap H locs → Rel Z u v → ∀ (ls : Array Slot), lv_has ls 8 [(0, .ref b), (1, .ref (Zz Z 0)), (2, .ref (z 0)), (3, .ref o), (4, .int x4)] → W p l e room_1 s m #[Value.ref b] below meth c H locs (100 + i + 1) (2400 + 6 * i + 6) (lw_Z below #[Value.ref b] s) (F0 m 832 ls [])
theorem goM2 {D : va_G} {c4 : Nat → ClassId} {A : Nat → Prop} {z : Nat → Nat} {v : MS} {b : va_W} {s U : State} {H : Heap} (hP : va_P D vwCl (mW c4 z v ++ b) H) (hD : va_D A (mW c4 z v ++ b)) (hK : va_K D vwCl (cT c4) s) (hU : U.heap = H) (hW : s.WarmedH U.vm) : mPre D c4 (va_A (mW c4 z v) H.size) z v U :=
  ⟨by rw [hU]; exact va_P_l hP, (va_D_l hD).self, va_K.moved hW.alike hK, fun q h => Or.inr (by rw [hU] at h; exact h)⟩
theorem goL2 {D : va_G} {c4 : Nat → ClassId} {A : Nat → Prop} {Z : CZ} {u : CS} {o : Nat} {g : Nat → Int64} {a : va_W} {s U : State} {H : Heap} {locs : List Loc} (hP : va_P D vwCl (a ++ (wO c4 o g ++ cW c4 Z u)) H) (hD : va_D A (a ++ (wO c4 o g ++ cW c4 Z u))) (hK : va_K D vwCl (cT c4) s) (hA : ∀ q, s.heap.size ≤ q → A q) (hE : cEv A s s.heap) (hN : zNc s) (hS : va_S A s.heap H locs) (hU : U.heap = H) (hW : s.WarmedH U.vm) : lPre D c4 (va_A (wO c4 o g ++ cW c4 Z u) H.size) Z u o g U :=
  ⟨⟨by rw [hU]; exact va_P_r hP, (va_D_r hD).self, va_K.moved hW.alike hK, fun q h => Or.inr (by rw [hU] at h; exact h)⟩, by rw [hU]; exact cEv_nar (cEv_go hE hS hW) (zfreeR hD hS hA), hN.moved hW.alike⟩
theorem zBoth_k {α : Type} {Z : CZ} {co : Nat → Int32} {ks : List Nat} {res : CS × (Nat ⊕ α)} {v' : MS} {b : α} (h : zBoth Z co ks res v' b) {q : Nat → Prop} (hq : ∀ k ∈ ks, q k) : ∀ (w : CS) (k : Nat), res = (w, .inl k) → q k := by
  intro w k e
  rcases h with ⟨w2, k2, e2, hk, -, -⟩ | ⟨w2, e2, -, -⟩
  · rw [e2] at e
    cases e
    exact hq k hk
  · rw [e2] at e
    cases e
theorem lco_ne1 : ∀ k ∈ [1, 2, 3, 4], lco1 k ≠ 0 := by decide
theorem lco_ne2 : ∀ k ∈ [1, 2, 3, 4, 5], lco2 k ≠ 0 := by decide
theorem lco_ne3 : ∀ k ∈ [1, 2], lco3 k ≠ 0 := by decide
theorem zAns_k {α : Type} {Z : CZ} {co : Nat → Int32} {ks : List Nat} {res : CS × (Nat ⊕ α)} {v' : MS} {b : α} {tl : α → Int64} {g : Nat → Int64} {r : Int32} {w : CS × (Nat → Int64)} (h : zBoth Z co ks res v' b) (ha : lAns tl co g res r w) : pX6_thrown v' = r := by
  show Vi v' 0 = r
  rcases h with ⟨w2, k2, e2, hk, hc, -⟩ | ⟨w2, e2, hc, -⟩
  · rcases ha with ⟨x, e3, -, -⟩ | ⟨k, e3, e4⟩
    · rw [e2] at e3; cases e3
    · rw [e2] at e3; cases e3; rw [hc, e4]
  · rcases ha with ⟨x, e3, e4, -⟩ | ⟨k, e3, e4⟩
    · rw [hc, e4]
    · rw [e2] at e3; cases e3
theorem zAns_R {α : Type} {Z : CZ} {co : Nat → Int32} {ks : List Nat} {res : CS × (Nat ⊕ α)} {v' : MS} {b : α} {tl : α → Int64} {g : Nat → Int64} {r : Int32} {w : CS × (Nat → Int64)} (h : zBoth Z co ks res v' b) (ha : lAns tl co g res r w) : Rel Z w.1 v' := by
  rcases h with ⟨w2, k2, e2, hk, hc, hR⟩ | ⟨w2, e2, hc, hR⟩
  · rcases ha with ⟨x, e3, -, -⟩ | ⟨k, e3, e4⟩
    · rw [e2] at e3; cases e3
    · rw [e2] at e3; cases e3; exact hR
  · rcases ha with ⟨x, e3, e4, -⟩ | ⟨k, e3, e4⟩
    · rw [e2] at e3; cases e3; exact hR
    · rw [e2] at e3; cases e3
theorem zAns_v {α : Type} {Z : CZ} {co : Nat → Int32} {ks : List Nat} {res : CS × (Nat ⊕ α)} {v' : MS} {b : α} {tl : α → Int64} {g : Nat → Int64} {r : Int32} {w : CS × (Nat → Int64)} (hne : ∀ k ∈ ks, co k ≠ 0) (h : zBoth Z co ks res v' b) (ha : lAns tl co g res r w) (h0 : r = 0) : w.2 0 = tl b := by
  rcases h with ⟨w2, k2, e2, hk, hc, hR⟩ | ⟨w2, e2, hc, hR⟩
  · rcases ha with ⟨x, e3, -, -⟩ | ⟨k, e3, e4⟩
    · rw [e2] at e3; cases e3
    · rw [e2] at e3; cases e3; rw [e4] at h0; exact absurd h0 (hne _ hk)
  · rcases ha with ⟨x, e3, e4, e5⟩ | ⟨k, e3, e4⟩
    · rw [e2] at e3; cases e3; exact e5
    · rw [e2] at e3; cases e3
