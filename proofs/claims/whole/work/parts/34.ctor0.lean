/-! ===== making arrays of the classes that are known; links of nest mates ===== -/
theorem zwa_l : Cond.arrayClass .long ∈ WG := wg_1 (List.mem_of_getElem? (i := 50) rfl) rfl
theorem zwa_i : Cond.arrayClass .int ∈ WG := wg_4 (List.mem_of_getElem? (i := 17) rfl) rfl
def zNs (U : State) : Prop := va_Nw (.methodLinkNest RX3 17 yX4_init RX5) U ∧ va_Nw (.methodLinkNest RX1 11 yX4_init RX5) U ∧ va_Nw (.methodLinkNest RX1 28 yX2_init RX5) U ∧ va_Nw (.methodLinkNest RX5 29 yX2_init RX5) U ∧ va_Nw (.methodLinkNest RX5 36 yX4_init RX5) U ∧ va_AO "PointedWords$Row" U ∧ va_AO "PointedWords$Found" U
theorem zNs.warm {s U : State} (hW : s.WarmedH U.vm) (h : zNs s) : zNs U := ⟨va_Nw.warmM hW h.1, va_Nw.warmM hW h.2.1, va_Nw.warmM hW h.2.2.1, va_Nw.warmM hW h.2.2.2.1, va_Nw.warmM hW h.2.2.2.2.1, va_AO.moved hW.alike h.2.2.2.2.2.1, va_AO.moved hW.alike h.2.2.2.2.2.2⟩
theorem fbK {D : va_G} {c4 : Nat → ClassId} {A : Nat → Prop} {ws : va_W} {av : List Value} : FrameBlind (va_Pc av (fun U => wPre D c4 A ws U ∧ zNs U)) := fun _ U g mk q => ⟨q.1, wPre_call q.2.1, zNs.warm (U := U.calling g mk _) (State.WarmedH.refl U) q.2.2⟩
section ZN
variable {p : Program} {l : Launch} {e : Env} {R : Room} {s : State} {m : MethodId} {args : Array Value} {below : List Frame} {meth : Method} {c : Code} {H : Heap} {locs : List Loc} {cells slots : Nat} {Q : State → Prop}
variable {cc : ByteArray} {pc : Nat} {ls : Array Slot} {rest : List Value} {D : va_G} {A : Nat → Prop} {c4 : Nat → ClassId} {ws : va_W} {H0 : Heap}
theorem zn_l (hexec : p.tables.exec = Jvm.exec) (hb : c.code = cc) (harr : (Cond.arrayClass .long).before args s = true) (hK : va_K D vwCl (cT c4) s) (hP : va_P D vwCl ws H) (hD : va_D A ws) (hS : va_S A H0 H locs) (hA : ∀ q, H0.size ≤ q → A q)
    {n : Int32} {N' : Nat} (hn : ¬ n < 0) (hN : n.toNatClampNeg = N') (hbytes : N' * componentBytes .long ≤ 536870912) (hcells : cells + 1 ≤ R.cells) (hslots : slots + N' ≤ R.slots) (hdg : decode cc pc = .ok (.newarray .long, 2))
    (kk : ∀ (q : Nat) (H1 : Heap), va_P D vwCl (ws ++ [(q, .inl (c4 0, N', .inr (.inl (fun _ => 0))))]) H1 → va_D A (ws ++ [(q, .inl (c4 0, N', .inr (.inl (fun _ => 0))))]) → va_S A H0 H1 locs →
      W p l e R s m args below meth c H1 locs (cells + 1) (slots + N') Q (F0 m (pc + 2) ls (.ref q :: rest))) : W p l e R s m args below meth c H locs cells slots Q (F0 m pc ls (.int n :: rest)) := by
  refine va_newa (atype := .long) hexec hb harr rfl hK hP hD hS hA (a0 := (N', .inr (.inl (fun _ => 0)))) (fun cA => rfl) hn hN hbytes hcells hslots hdg (fun q cA H1 hK' hP1 hD1 hS1 => ?_)
  have e : cA = c4 0 := Option.some.inj ((va_nm_long (hK'.2 4 (cA, .long) rfl).2).symm.trans (va_nm_long (hK.2 0 (c4 0, .long) rfl).2))
  subst e
  exact kk q H1 hP1 hD1 hS1
theorem zn_i (hexec : p.tables.exec = Jvm.exec) (hb : c.code = cc) (harr : (Cond.arrayClass .int).before args s = true) (hK : va_K D vwCl (cT c4) s) (hP : va_P D vwCl ws H) (hD : va_D A ws) (hS : va_S A H0 H locs) (hA : ∀ q, H0.size ≤ q → A q)
    {n : Int32} {N' : Nat} (hn : ¬ n < 0) (hN : n.toNatClampNeg = N') (hbytes : N' * componentBytes .int ≤ 536870912) (hcells : cells + 1 ≤ R.cells) (hslots : slots + N' ≤ R.slots) (hdg : decode cc pc = .ok (.newarray .int, 2))
    (kk : ∀ (q : Nat) (H1 : Heap), va_P D vwCl (ws ++ [(q, .inl (c4 3, N', .inl (fun _ => 0)))]) H1 → va_D A (ws ++ [(q, .inl (c4 3, N', .inl (fun _ => 0)))]) → va_S A H0 H1 locs →
      W p l e R s m args below meth c H1 locs (cells + 1) (slots + N') Q (F0 m (pc + 2) ls (.ref q :: rest))) : W p l e R s m args below meth c H locs cells slots Q (F0 m pc ls (.int n :: rest)) := by
  refine va_newa (atype := .int) hexec hb harr rfl hK hP hD hS hA (a0 := (N', .inl (fun _ => 0))) (fun cA => rfl) hn hN hbytes hcells hslots hdg (fun q cA H1 hK' hP1 hD1 hS1 => ?_)
  have e : cA = c4 3 := Option.some.inj ((va_nm_int (hK'.2 4 (cA, .int) rfl).2).symm.trans (va_nm_int (hK.2 3 (c4 3, .int) rfl).2))
  subst e
  exact kk q H1 hP1 hD1 hS1
theorem zn_R (hexec : p.tables.exec = Jvm.exec) (hb : c.code = cc) {own : String} {index : Nat} (hown : s.vm.findClass own = some m.cls) (hcl : (Cond.classLink own index "PointedWords$Row").before args s = true) (hover : va_AO "PointedWords$Row" s) (hK : va_K D vwCl (cT c4) s) (hP : va_P D vwCl ws H) (hD : va_D A ws) (hS : va_S A H0 H locs) (hA : ∀ q, H0.size ≤ q → A q)
    {n : Int32} {N' : Nat} (hn : ¬ n < 0) (hN : n.toNatClampNeg = N') (hbytes : N' * 4 ≤ 536870912) (hcells : cells + 1 ≤ R.cells) (hslots : slots + N' ≤ R.slots) (hdg : decode cc pc = .ok (.anewarray index, 3))
    (kk : ∀ (q : Nat) (H1 : Heap), va_P D vwCl (ws ++ [(q, .inl (c4 2, N', .inr (.inr (.inr (.inr (fun _ => none))))))]) H1 → va_D A (ws ++ [(q, .inl (c4 2, N', .inr (.inr (.inr (.inr (fun _ => none))))))]) → va_S A H0 H1 locs →
      W p l e R s m args below meth c H1 locs (cells + 1) (slots + N') Q (F0 m (pc + 3) ls (.ref q :: rest))) : W p l e R s m args below meth c H locs cells slots Q (F0 m pc ls (.int n :: rest)) := by
  refine va_newq hexec hb hown hcl hover hK hP hD hS hA hn hN hbytes hcells hslots hdg (fun q cA H1 hK' hP1 hD1 hS1 => ?_)
  have e : cA = c4 2 := Option.some.inj ((va_nmO (hK'.2 4 (cA, .object "PointedWords$Row") rfl).2 rfl).symm.trans (va_nmO (hK.2 2 (c4 2, .object "PointedWords$Row") rfl).2 rfl))
  subst e
  exact kk q H1 hP1 hD1 hS1
theorem zn_F (hexec : p.tables.exec = Jvm.exec) (hb : c.code = cc) {own : String} {index : Nat} (hown : s.vm.findClass own = some m.cls) (hcl : (Cond.classLink own index "PointedWords$Found").before args s = true) (hover : va_AO "PointedWords$Found" s) (hK : va_K D vwCl (cT c4) s) (hP : va_P D vwCl ws H) (hD : va_D A ws) (hS : va_S A H0 H locs) (hA : ∀ q, H0.size ≤ q → A q)
    {n : Int32} {N' : Nat} (hn : ¬ n < 0) (hN : n.toNatClampNeg = N') (hbytes : N' * 4 ≤ 536870912) (hcells : cells + 1 ≤ R.cells) (hslots : slots + N' ≤ R.slots) (hdg : decode cc pc = .ok (.anewarray index, 3))
    (kk : ∀ (q : Nat) (H1 : Heap), va_P D vwCl (ws ++ [(q, .inl (c4 1, N', .inr (.inr (.inr (.inr (fun _ => none))))))]) H1 → va_D A (ws ++ [(q, .inl (c4 1, N', .inr (.inr (.inr (.inr (fun _ => none))))))]) → va_S A H0 H1 locs →
      W p l e R s m args below meth c H1 locs (cells + 1) (slots + N') Q (F0 m (pc + 3) ls (.ref q :: rest))) : W p l e R s m args below meth c H locs cells slots Q (F0 m pc ls (.int n :: rest)) := by
  refine va_newq hexec hb hown hcl hover hK hP hD hS hA hn hN hbytes hcells hslots hdg (fun q cA H1 hK' hP1 hD1 hS1 => ?_)
  have e : cA = c4 1 := Option.some.inj ((va_nmO (hK'.2 4 (cA, .object "PointedWords$Found") rfl).2 rfl).symm.trans (va_nmO (hK.2 1 (c4 1, .object "PointedWords$Found") rfl).2 rfl))
  subst e
  exact kk q H1 hP1 hD1 hS1
end ZN
