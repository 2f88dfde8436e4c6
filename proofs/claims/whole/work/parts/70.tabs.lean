/-! what the tables say of the classes, the arrays and the links of nest mates -/
theorem lw_in {i : Nat} {q : Cond} (h : tables_1[i]? = some q) : q ∈ lw_tbl := List.mem_append_right _ (List.mem_of_getElem? h)
theorem zw_0 : Cond.methodLinkNest RX5 9 yX4_init RX5 ∈ lw_tbl := lw_in (i := 20) (by decide +kernel)
theorem zw_1 : Cond.methodLinkNest RX5 18 yX1_init RX5 ∈ lw_tbl := lw_in (i := 40) (by decide +kernel)
theorem zw_2 : Cond.methodLinkNest RX0 17 yX4_init RX5 ∈ lw_tbl := lw_in (i := 78) (by decide +kernel)
theorem zw_3 : Cond.methodLinkNest RX5 41 yX3_init RX5 ∈ lw_tbl := lw_in (i := 90) (by decide +kernel)
theorem zw_4 : Cond.methodLinkNest RX3 11 yX4_init RX5 ∈ lw_tbl := lw_in (i := 95) (by decide +kernel)
theorem zw_5 : Cond.methodLinkNest RX4 44 yX5_contains RX5 ∈ lw_tbl := lw_in (i := 227) (by decide +kernel)
theorem zw_6 : Cond.methodLinkNest RX4 51 yX5_isSubset RX5 ∈ lw_tbl := lw_in (i := 230) (by decide +kernel)
theorem zw_7 : Cond.methodLinkNest RX1 64 yX5_contains RX5 ∈ lw_tbl := lw_in (i := 265) (by decide +kernel)
theorem zw_8 : Cond.methodLinkNest RX3 77 yX5_isAtom RX5 ∈ lw_tbl := lw_in (i := 445) (by decide +kernel)
theorem zw_9 : Cond.methodLinkNest RX3 69 yX5_contains RX5 ∈ lw_tbl := lw_in (i := 454) (by decide +kernel)
theorem lw_zz {av : Array Value} {s : State} (hts : ∀ w ∈ lw_tbl, w.before av s = true) : zz s := by
  have key : ∀ w ∈ lw_tbl, w.onTables = true → va_Nw w s := fun w h1 h2 => va_Nw.of h2 (hts w h1)
  intro q hq
  have hq : q ∈ [(RX5, 9, yX4_init, RX5), (RX5, 18, yX1_init, RX5), (RX0, 17, yX4_init, RX5), (RX5, 41, yX3_init, RX5), (RX3, 11, yX4_init, RX5), (RX4, 44, yX5_contains, RX5), (RX4, 51, yX5_isSubset, RX5), (RX1, 64, yX5_contains, RX5), (RX3, 77, yX5_isAtom, RX5), (RX3, 69, yX5_contains, RX5)] := hq
  simp only [List.mem_cons, List.not_mem_nil, or_false] at hq
  rcases hq with rfl | rfl | rfl | rfl | rfl | rfl | rfl | rfl | rfl | rfl
  · exact key _ zw_0 rfl
  · exact key _ zw_1 rfl
  · exact key _ zw_2 rfl
  · exact key _ zw_3 rfl
  · exact key _ zw_4 rfl
  · exact key _ zw_5 rfl
  · exact key _ zw_6 rfl
  · exact key _ zw_7 rfl
  · exact key _ zw_8 rfl
  · exact key _ zw_9 rfl
theorem zi_0 : Cond.instantiable RX0 2 ∈ lw_tbl := lw_in (i := 71) (by decide +kernel)
theorem zi_1 : Cond.instantiable RX1 4 ∈ lw_tbl := lw_in (i := 39) (by decide +kernel)
theorem zi_2 : Cond.instantiable RX2 2 ∈ lw_tbl := lw_in (i := 45) (by decide +kernel)
theorem zi_3 : Cond.instantiable RX3 3 ∈ lw_tbl := lw_in (i := 89) (by decide +kernel)
theorem zi_4 : Cond.instantiable RX4 4 ∈ lw_tbl := lw_in (i := 19) (by decide +kernel)
theorem zi_5 : Cond.instantiable RX5 6 ∈ lw_tbl := lw_in (i := 11) (by decide +kernel)
theorem zi_6 : Cond.instantiable RX6 15 ∈ lw_tbl := lw_in (i := 519) (by decide +kernel)
theorem zi_I : Cond.arrayClass .int ∈ lw_tbl := lw_in (i := 37) (by decide +kernel)
theorem zi_B : Cond.arrayOver (.object RX4) ∈ lw_tbl := lw_in (i := 77) (by decide +kernel)
theorem lw_gk {av : Array Value} {s : State} (hts : ∀ w ∈ lw_tbl, w.before av s = true) : ∃ (D : va_G) (cI cB : ClassId), gk D cI cB s := by
  obtain ⟨c0, iS0, hK0⟩ := u_known (C := RX0) (T := TX0) (N := 2) (n := 2) hts inX0 (hts _ zi_0)
  obtain ⟨c1, iS1, hK1⟩ := u_known (C := RX1) (T := TX1) (N := 4) (n := 4) hts inX1 (hts _ zi_1)
  obtain ⟨c2, iS2, hK2⟩ := u_known (C := RX2) (T := TX2) (N := 2) (n := 2) hts inX2 (hts _ zi_2)
  obtain ⟨c3, iS3, hK3⟩ := u_known (C := RX3) (T := TX3) (N := 3) (n := 3) hts inX3 (hts _ zi_3)
  obtain ⟨c4, iS4, hK4⟩ := u_known (C := RX4) (T := TX4) (N := 4) (n := 4) hts inX4 (hts _ zi_4)
  obtain ⟨c5, iS5, hK5⟩ := u_known (C := RX5) (T := TX5) (N := 6) (n := 6) hts inX5 (hts _ zi_5)
  obtain ⟨c6, iS6, hK6⟩ := u_known (C := RX6) (T := TX6) (N := 15) (n := 15) hts inX6 (hts _ zi_6)
  obtain ⟨cI, kI, compI, i1, i2, i3⟩ := Cond.arrayClass_spec (hts _ zi_I)
  obtain ⟨compB, cB, kB, b1, b2, b3, b4, b5⟩ := Cond.arrayOver_spec (hts _ zi_B)
  refine ⟨(fun k => match k with | 0 => c0 | 1 => c1 | 2 => c2 | 3 => c3 | 4 => c4 | 5 => c5 | _ => c6, fun k => match k with | 0 => iS0 | 1 => iS1 | 2 => iS2 | 3 => iS3 | 4 => iS4 | 5 => iS5 | _ => iS6), cI, cB, ⟨fun k q hq => ?_, fun k q hq => ?_⟩, lw_zz hts⟩
  · match k, hq with
    | 0, hq => cases hq; exact hK0
    | 1, hq => cases hq; exact hK1
    | 2, hq => cases hq; exact hK2
    | 3, hq => cases hq; exact hK3
    | 4, hq => cases hq; exact hK4
    | 5, hq => cases hq; exact hK5
    | 6, hq => cases hq; exact hK6
    | k + 7, hq => simp at hq
  · match k, hq with
    | 0, hq => cases hq; exact ⟨fun n z => ⟨fun k h => (by cases h), kI, i2, compI, i3⟩, i1⟩
    | 1, hq => cases hq; exact ⟨fun n z => ⟨fun k h => (by cases h), kB, b3, compB, b4⟩, kB, compB, b3, b4, b1, b5⟩
    | k + 2, hq => simp at hq
