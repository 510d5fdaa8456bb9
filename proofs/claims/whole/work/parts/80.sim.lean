/-! ===== call by call ===== -/
theorem S_add {Z : CZ} {u : CS} {v : MS} (hZ : cok Z) (hR : Rel Z u v) (a1 : Int32) (a2 : Int64) : ∃ u' v' r, pX5_add Z u a1 a2 = some (u', r) ∧ pX6_add v a1 a2 = some (v', r) ∧ Rel Z u' v' := T_add hR a1 a2
theorem S_change {Z : CZ} {u : CS} {v : MS} (hZ : cok Z) (hR : Rel Z u v) (a1 a2 : Int32) (a3 : Int64) : ∃ u' v' r, pX5_change Z u a1 a2 a3 = some (u', r) ∧ pX6_change v a1 a2 a3 = some (v', r) ∧ Rel Z u' v' := T_change hR a1 a2 a3
theorem S_cut {Z : CZ} {u : CS} {v : MS} (hZ : cok Z) (hR : Rel Z u v) (a1 a2 : Int32) : ∃ u' v' r, pX5_cut Z u a1 a2 = some (u', r) ∧ pX6_cut v a1 a2 = some (v', r) ∧ Rel Z u' v' := T_cut hR a1 a2
theorem S_words {Z : CZ} {u : CS} {v : MS} (hZ : cok Z) (hR : Rel Z u v) (a1 : Int32) : ∃ v' r, pX5_words Z u a1 = some r ∧ pX6_words v a1 = some (v', r) ∧ Rel Z u v' := T_words hR a1
theorem S_word {Z : CZ} {u : CS} {v : MS} (hZ : cok Z) (hR : Rel Z u v) (a1 a2 : Int32) : ∃ v' r, pX5_word Z u a1 a2 = some r ∧ pX6_word v a1 a2 = some (v', r) ∧ Rel Z u v' := T_word hR a1 a2
theorem S_budget {Z : CZ} {u : CS} {v : MS} (hZ : cok Z) (hR : Rel Z u v) (a1 : Int32) : ∃ u' v' r, pX5_budget Z u a1 = some (u', r) ∧ pX6_budget v a1 = some (v', r) ∧ Rel Z u' v' := T_budget hR a1
theorem S_left {Z : CZ} {u : CS} {v : MS} (hZ : cok Z) (hR : Rel Z u v) : ∃ v' r, pX5_left Z u = r ∧ pX6_left v = some (v', r) ∧ Rel Z u v' := T_left hR
theorem S_formed {Z : CZ} {u : CS} {v : MS} (hZ : cok Z) (hR : Rel Z u v) (a1 : Int32) : ∃ v' r, pX5_formed Z u a1 = some r ∧ pX6_formed v a1 = some (v', r) ∧ Rel Z u v' := T_formed hR a1
theorem S_adopt {Z : CZ} {u : CS} {v : MS} (hZ : cok Z) (hR : Rel Z u v) : ∃ u' v' r, pX5_adopt Z u = some (u', r) ∧ pX6_adopt v = some (v', r) ∧ Rel Z u' v' := T_adopt hR
theorem S_keep {Z : CZ} {u : CS} {v : MS} (hZ : cok Z) (hR : Rel Z u v) : ∃ u' v' r, pX5_keep Z u = some (u', r) ∧ pX6_keep v = some (v', r) ∧ Rel Z u' v' := T_keep hR
theorem S_same {Z : CZ} {u : CS} {v : MS} (hZ : cok Z) (hR : Rel Z u v) : ∃ v' r, pX5_same Z u = some r ∧ pX6_same v = some (v', r) ∧ Rel Z u v' := T_same hR
theorem S_open {Z : CZ} {u : CS} {v : MS} (hZ : cok Z) (hR : Rel Z u v) : ∃ res v' b, pX5_open Z u = some res ∧ pX6_open v = some (v', b) ∧ zBoth Z lco1 [1, 2, 3, 4] res v' b := T_open hR
theorem S_go {Z : CZ} {u : CS} {v : MS} (hZ : cok Z) (hR : Rel Z u v) (a1 a2 : Int32) : ∃ res v' b, pX5_go Z u a1 a2 = some res ∧ pX6_go v a1 a2 = some (v', b) ∧ zBoth Z lco2 [1, 2, 3, 4, 5] res v' b := T_go hR a1 a2
theorem S_element {Z : CZ} {u : CS} {v : MS} (hZ : cok Z) (hR : Rel Z u v) (a1 a2 : Int32) : ∃ res v' b, pX5_element Z u a1 a2 = some res ∧ pX6_element v a1 a2 = some (v', b) ∧ zBoth Z lco2 [1, 2, 4, 5] res v' b := T_element hR a1 a2
theorem S_about {Z : CZ} {u : CS} {v : MS} (hZ : cok Z) (hR : Rel Z u v) (a1 a2 : Int32) : ∃ res v' b, pX5_about Z u a1 a2 = some res ∧ pX6_about v a1 a2 = some (v', b) ∧ zBoth Z lco3 [1, 2] res v' b := T_about hR a1 a2
theorem S_data {Z : CZ} {u : CS} {v : MS} (hZ : cok Z) (hR : Rel Z u v) (a1 a2 : Int32) : ∃ res v' b, pX5_data Z u a1 a2 = some res ∧ pX6_data v a1 a2 = some (v', b) ∧ zBoth Z lco2 [1, 2, 5] res v' b := T_data hR a1 a2
theorem S_form {Z : CZ} {u : CS} {v : MS} (hZ : cok Z) (hR : Rel Z u v) : ∃ res v' b, pX5_form Z u = some res ∧ pX6_form v = some (v', b) ∧ zBoth Z lco1 [1, 2, 3, 4] res v' b := T_form hR
theorem S_start {h0 : Nat} {f : Nat → Nat} (hg : ginj (gad h0 f)) : Rel (Zf (gad h0 f)) u00 v00 := T_start hg
