theorem ilX5_rules_5 : ∀ w ∈ u_ws RX5 TX5 6, w ∈ wsX5_rules := by decide +kernel
theorem ilX5_model_5 : ∀ w ∈ u_ws RX5 TX5 6, w ∈ wsX5_model := by decide +kernel
theorem ilX5_modelShareBits_5 : ∀ w ∈ u_ws RX5 TX5 6, w ∈ wsX5_modelShareBits := by decide +kernel
theorem ilX5_cyclicAtoms_5 : ∀ w ∈ u_ws RX5 TX5 6, w ∈ wsX5_cyclicAtoms := by decide +kernel
theorem ilX5_isDerived_5 : ∀ w ∈ u_ws RX5 TX5 6, w ∈ wsX5_isDerived := by decide +kernel
theorem ilX5_fail_5 : ∀ w ∈ u_ws RX5 TX5 6, w ∈ wsX5_fail := by decide +kernel
theorem ilX5_head_5 : ∀ w ∈ u_ws RX5 TX5 6, w ∈ wsX5_head := by decide +kernel
theorem ilX5_body_5 : ∀ w ∈ u_ws RX5 TX5 6, w ∈ wsX5_body := by decide +kernel
theorem ilX5_overDeleted_5 : ∀ w ∈ u_ws RX5 TX5 6, w ∈ wsX5_overDeleted := by decide +kernel
theorem ilX5_lost_5 : ∀ w ∈ u_ws RX5 TX5 6, w ∈ wsX5_lost := by decide +kernel
theorem ilX5_supports_5 : ∀ w ∈ u_ws RX5 TX5 6, w ∈ wsX5_supports := by decide +kernel
theorem ilX5_dependencies_5 : ∀ w ∈ u_ws RX5 TX5 6, w ∈ wsX5_dependencies := by decide +kernel
theorem ilX5_level_5 : ∀ w ∈ u_ws RX5 TX5 6, w ∈ wsX5_level := by decide +kernel
theorem ilX5_reason_5 : ∀ w ∈ u_ws RX5 TX5 6, w ∈ wsX5_reason := by decide +kernel
theorem ilX5_necessary_5 : ∀ w ∈ u_ws RX5 TX5 6, w ∈ wsX5_necessary := by decide +kernel
theorem ilX5_gained_5 : ∀ w ∈ u_ws RX5 TX5 6, w ∈ wsX5_gained := by decide +kernel
theorem ilX5_explanation_5 : ∀ w ∈ u_ws RX5 TX5 6, w ∈ wsX5_explanation := by decide +kernel
theorem ilX5_errorCount_5 : ∀ w ∈ u_ws RX5 TX5 6, w ∈ wsX5_errorCount := by decide +kernel
theorem ilX5_append_5 : ∀ w ∈ u_ws RX5 TX5 6, w ∈ wsX5_append := by decide +kernel
theorem ilX5_clearText_5 : ∀ w ∈ u_ws RX5 TX5 6, w ∈ wsX5_clearText := by decide +kernel
set_option maxHeartbeats 4000000 in
set_option maxRecDepth 100000 in
theorem k_X5_rules (l : Launch) (D : va_G) (cI cB : ClassId) (ob : Nat) (p_ : Nat) (h : Nat) (ro : Nat) (rr : Nat) (qe : Nat) (b : Nat) (qh : Nat) (qb : Nat) (hs : Nat → Int32) (bs : Nat → Int32) (n : Nat) (as_ : Int32) (hn : n ≤ 24) : Rd l yX5_rules wsX5_rules ({ frames := 1, cells := 0, slots := 0, locals := 20 }) D cI cB [.ref ob] [(ob, .inr (5, [.ref b, .ref p_, .ref h, .ref ro, .ref rr, .ref qe])), (b, .inr (4, [.ref qh, .ref qb, .int (nI n), .int as_])), (qh, .inl (cI, 24, .inl hs)), (qb, .inl (cI, 24, .inl bs))] (.int (nI n)) := by
  refine pu_startI (cc := cX5_rules) (maxL := 1) (by decide) rfl (Nat.le_of_ble_eq_true rfl) ?_
  intro p e s m args below meth c Q hx hb hml hown hts hP hG hret ls hl
  have hown : s.vm.findClass RX5 = some m.cls := hown
  have hl : lv_has ls 1 [(0, .ref ob)] := hl
  refine lv_aload_n hx hb dX5_rules_0 rfl (lv_at hl 0 rfl) ?_
  refine va_get (D := D) (ci := 5) (v := .ref b) (C := RX5) (T := TX5) (N := 6) hx hb hts ilX5_rules_5 hown hG.1 hP 0 rfl rfl 0 (by decide) (hts (.fieldLink RX5 10 "HornEngine" "current" "LHornEngine$Rulebook;") (List.mem_of_getElem? (i := 1) rfl)) (fun _ h9 => h9) rfl dX5_rules_1 ?_
  refine pu_V (As := []) (rest := []) ⟨hx, hb, hml, hown, hts⟩ hG hP (k_X4_size l D cI cB b qh qb hs bs n as_ (by omega)) (cwV 0 hts gX5_rules_X4_size rfl rfl rfl (by decide +kernel) ⟨(Nat.le_of_ble_eq_true rfl), (Nat.le_of_ble_eq_true rfl)⟩) [1, 2, 3] rfl 1 rfl rfl rfl rfl hl.1 rfl (Nat.le_of_ble_eq_true rfl) dX5_rules_4 ⟨Nat.zero_le _, Nat.zero_le _⟩ ?_
  exact hret _ _ _ rfl dX5_rules_7
set_option maxHeartbeats 4000000 in
set_option maxRecDepth 100000 in
theorem k_X5_model (l : Launch) (D : va_G) (cI cB : ClassId) (ob : Nat) (p_ : Nat) (h : Nat) (ro : Nat) (rr : Nat) (qe : Nat) (b : Nat) (qh : Nat) (qb : Nat) (hs : Nat → Int32) (bs : Nat → Int32) (n : Nat) (as_ : Int32) (hn : n ≤ 24) : Rd l yX5_model wsX5_model ({ frames := 4, cells := 0, slots := 0, locals := 90 }) D cI cB [.ref ob] [(ob, .inr (5, [.ref b, .ref p_, .ref h, .ref ro, .ref rr, .ref qe])), (b, .inr (4, [.ref qh, .ref qb, .int (nI n), .int as_])), (qh, .inl (cI, 24, .inl hs)), (qb, .inl (cI, 24, .inl bs))] (.int (mdl hs bs n)) := by
  refine pu_startI (cc := cX5_model) (maxL := 1) (by decide) rfl (Nat.le_of_ble_eq_true rfl) ?_
  intro p e s m args below meth c Q hx hb hml hown hts hP hG hret ls hl
  have hown : s.vm.findClass RX5 = some m.cls := hown
  have hl : lv_has ls 1 [(0, .ref ob)] := hl
  refine lv_aload_n hx hb dX5_model_0 rfl (lv_at hl 0 rfl) ?_
  refine va_get (D := D) (ci := 5) (v := .ref b) (C := RX5) (T := TX5) (N := 6) hx hb hts ilX5_model_5 hown hG.1 hP 0 rfl rfl 0 (by decide) (hts (.fieldLink RX5 10 "HornEngine" "current" "LHornEngine$Rulebook;") (List.mem_of_getElem? (i := 1) rfl)) (fun _ h9 => h9) rfl dX5_model_1 ?_
  refine pu_V (As := []) (rest := []) ⟨hx, hb, hml, hown, hts⟩ hG hP (k_X4_leastModel l D cI cB b qh qb hs bs n as_ (by omega)) (cwV 0 hts gX5_model_X4_leastModel rfl rfl rfl (by decide +kernel) ⟨(Nat.le_of_ble_eq_true rfl), (Nat.le_of_ble_eq_true rfl)⟩) [1, 2, 3] rfl 1 rfl rfl rfl rfl hl.1 rfl (Nat.le_of_ble_eq_true rfl) dX5_model_4 ⟨Nat.zero_le _, Nat.zero_le _⟩ ?_
  exact hret _ _ _ rfl dX5_model_7
set_option maxHeartbeats 4000000 in
set_option maxRecDepth 100000 in
theorem k_X5_modelShareBits (l : Launch) (D : va_G) (cI cB : ClassId) (ob : Nat) (p_ : Nat) (h : Nat) (ro : Nat) (rr : Nat) (qe : Nat) (b : Nat) (qh : Nat) (qb : Nat) (hs : Nat → Int32) (bs : Nat → Int32) (n : Nat) (as_ : Int32) (hn : n ≤ 24) : Rd l yX5_modelShareBits wsX5_modelShareBits ({ frames := 4, cells := 0, slots := 0, locals := 90 }) D cI cB [.ref ob] [(ob, .inr (5, [.ref b, .ref p_, .ref h, .ref ro, .ref rr, .ref qe])), (b, .inr (4, [.ref qh, .ref qb, .int (nI n), .int as_])), (qh, .inl (cI, 24, .inl hs)), (qb, .inl (cI, 24, .inl bs))] (.int (bosF (bc (mdl hs bs n)) 5)) := by
  refine pu_startI (cc := cX5_modelShareBits) (maxL := 1) (by decide) rfl (Nat.le_of_ble_eq_true rfl) ?_
  intro p e s m args below meth c Q hx hb hml hown hts hP hG hret ls hl
  have hown : s.vm.findClass RX5 = some m.cls := hown
  have hl : lv_has ls 1 [(0, .ref ob)] := hl
  refine lv_aload_n hx hb dX5_modelShareBits_0 rfl (lv_at hl 0 rfl) ?_
  refine va_get (D := D) (ci := 5) (v := .ref b) (C := RX5) (T := TX5) (N := 6) hx hb hts ilX5_modelShareBits_5 hown hG.1 hP 0 rfl rfl 0 (by decide) (hts (.fieldLink RX5 10 "HornEngine" "current" "LHornEngine$Rulebook;") (List.mem_of_getElem? (i := 1) rfl)) (fun _ h9 => h9) rfl dX5_modelShareBits_1 ?_
  refine pu_V (As := []) (rest := []) ⟨hx, hb, hml, hown, hts⟩ hG hP (k_X4_leastModel l D cI cB b qh qb hs bs n as_ (by omega)) (cwV 0 hts gX5_modelShareBits_X4_leastModel rfl rfl rfl (by decide +kernel) ⟨(Nat.le_of_ble_eq_true rfl), (Nat.le_of_ble_eq_true rfl)⟩) [1, 2, 3] rfl 1 rfl rfl rfl rfl hl.1 rfl (Nat.le_of_ble_eq_true rfl) dX5_modelShareBits_4 ⟨Nat.zero_le _, Nat.zero_le _⟩ ?_
  refine pu_S (As := [.int (mdl hs bs n)]) (rest := []) ⟨hx, hb, hml, hown, hts⟩ hG hP (k_J6_bitCount_0f7a4 l D cI cB (mdl hs bs n) ) (va_cwS 1 hts gX5_modelShareBits_J6_bitCount_0f7a4 rfl rfl rfl (by decide +kernel) ⟨(Nat.le_of_ble_eq_true rfl), (Nat.le_of_ble_eq_true rfl)⟩) [] rfl rfl hl.1 rfl (Nat.le_of_ble_eq_true rfl) dX5_modelShareBits_7 ⟨Nat.zero_le _, Nat.zero_le _⟩ ?_
  refine pu_S (As := [.int (bc (mdl hs bs n))]) (rest := []) ⟨hx, hb, hml, hown, hts⟩ hG hP (k_X5_bitsOfSixteenths l D cI cB (bc (mdl hs bs n)) ) (cwS 1 hts gX5_modelShareBits_X5_bitsOfSixteenths rfl rfl rfl (by decide +kernel) ⟨(Nat.le_of_ble_eq_true rfl), (Nat.le_of_ble_eq_true rfl)⟩) [] rfl rfl hl.1 rfl (Nat.le_of_ble_eq_true rfl) dX5_modelShareBits_10 ⟨Nat.zero_le _, Nat.zero_le _⟩ ?_
  exact hret _ _ _ rfl dX5_modelShareBits_13
set_option maxHeartbeats 4000000 in
set_option maxRecDepth 100000 in
theorem k_X5_cyclicAtoms (l : Launch) (D : va_G) (cI cB : ClassId) (ob : Nat) (p_ : Nat) (h : Nat) (ro : Nat) (rr : Nat) (qe : Nat) (b : Nat) (qh : Nat) (qb : Nat) (hs : Nat → Int32) (bs : Nat → Int32) (n : Nat) (as_ : Int32) (hn : n ≤ 24) : Rd l yX5_cyclicAtoms wsX5_cyclicAtoms ({ frames := 4, cells := 0, slots := 0, locals := 89 }) D cI cB [.ref ob] [(ob, .inr (5, [.ref b, .ref p_, .ref h, .ref ro, .ref rr, .ref qe])), (b, .inr (4, [.ref qh, .ref qb, .int (nI n), .int as_])), (qh, .inl (cI, 24, .inl hs)), (qb, .inl (cI, 24, .inl bs))] (.int (cycF hs bs n 16)) := by
  refine pu_startI (cc := cX5_cyclicAtoms) (maxL := 1) (by decide) rfl (Nat.le_of_ble_eq_true rfl) ?_
  intro p e s m args below meth c Q hx hb hml hown hts hP hG hret ls hl
  have hown : s.vm.findClass RX5 = some m.cls := hown
  have hl : lv_has ls 1 [(0, .ref ob)] := hl
  refine lv_aload_n hx hb dX5_cyclicAtoms_0 rfl (lv_at hl 0 rfl) ?_
  refine va_get (D := D) (ci := 5) (v := .ref b) (C := RX5) (T := TX5) (N := 6) hx hb hts ilX5_cyclicAtoms_5 hown hG.1 hP 0 rfl rfl 0 (by decide) (hts (.fieldLink RX5 10 "HornEngine" "current" "LHornEngine$Rulebook;") (List.mem_of_getElem? (i := 1) rfl)) (fun _ h9 => h9) rfl dX5_cyclicAtoms_1 ?_
  refine pu_V (As := []) (rest := []) ⟨hx, hb, hml, hown, hts⟩ hG hP (k_X4_atomsOnCycles l D cI cB b qh qb hs bs n as_ (by omega)) (cwV 0 hts gX5_cyclicAtoms_X4_atomsOnCycles rfl rfl rfl (by decide +kernel) ⟨(Nat.le_of_ble_eq_true rfl), (Nat.le_of_ble_eq_true rfl)⟩) [1, 2, 3] rfl 1 rfl rfl rfl rfl hl.1 rfl (Nat.le_of_ble_eq_true rfl) dX5_cyclicAtoms_4 ⟨Nat.zero_le _, Nat.zero_le _⟩ ?_
  exact hret _ _ _ rfl dX5_cyclicAtoms_7
set_option maxHeartbeats 4000000 in
set_option maxRecDepth 100000 in
theorem k_X5_isDerived (l : Launch) (D : va_G) (cI cB : ClassId) (ob : Nat) (p_ : Nat) (h : Nat) (ro : Nat) (rr : Nat) (qe : Nat) (b : Nat) (qh : Nat) (qb : Nat) (hs : Nat → Int32) (bs : Nat → Int32) (n : Nat) (as_ : Int32) (at_ : Int32) (hn : n ≤ 24) : Rd l yX5_isDerived wsX5_isDerived ({ frames := 4, cells := 0, slots := 0, locals := 90 }) D cI cB [.ref ob, .int at_] [(ob, .inr (5, [.ref b, .ref p_, .ref h, .ref ro, .ref rr, .ref qe])), (b, .inr (4, [.ref qh, .ref qb, .int (nI n), .int as_])), (qh, .inl (cI, 24, .inl hs)), (qb, .inl (cI, 24, .inl bs))] (.int (bI (has (mdl hs bs n) at_))) := by
  refine pu_startZ (cc := cX5_isDerived) (maxL := 2) (by decide) rfl (Nat.le_of_ble_eq_true rfl) ?_
  intro p e s m args below meth c Q hx hb hml hown hts hP hG hret ls hl
  have hown : s.vm.findClass RX5 = some m.cls := hown
  have hl : lv_has ls 2 [(0, .ref ob), (1, .int at_)] := hl
  refine lv_aload_n hx hb dX5_isDerived_0 rfl (lv_at hl 0 rfl) ?_
  refine va_get (D := D) (ci := 5) (v := .ref b) (C := RX5) (T := TX5) (N := 6) hx hb hts ilX5_isDerived_5 hown hG.1 hP 0 rfl rfl 0 (by decide) (hts (.fieldLink RX5 10 "HornEngine" "current" "LHornEngine$Rulebook;") (List.mem_of_getElem? (i := 1) rfl)) (fun _ h9 => h9) rfl dX5_isDerived_1 ?_
  refine pu_V (As := []) (rest := []) ⟨hx, hb, hml, hown, hts⟩ hG hP (k_X4_leastModel l D cI cB b qh qb hs bs n as_ (by omega)) (cwV 0 hts gX5_isDerived_X4_leastModel rfl rfl rfl (by decide +kernel) ⟨(Nat.le_of_ble_eq_true rfl), (Nat.le_of_ble_eq_true rfl)⟩) [1, 2, 3] rfl 1 rfl rfl rfl rfl hl.1 rfl (Nat.le_of_ble_eq_true rfl) dX5_isDerived_4 ⟨Nat.zero_le _, Nat.zero_le _⟩ ?_
  refine lv_iload_n hx hb dX5_isDerived_7 rfl (lv_at hl 1 rfl) ?_
  refine pu_S (As := [.int (mdl hs bs n), .int at_]) (rest := []) ⟨hx, hb, hml, hown, hts⟩ hG hP (k_X5_contains l D cI cB (mdl hs bs n) at_ ) (cwS 2 hts gX5_isDerived_X5_contains rfl rfl rfl (by decide +kernel) ⟨(Nat.le_of_ble_eq_true rfl), (Nat.le_of_ble_eq_true rfl)⟩) [] rfl rfl hl.1 rfl (Nat.le_of_ble_eq_true rfl) dX5_isDerived_8 ⟨Nat.zero_le _, Nat.zero_le _⟩ ?_
  exact hret _ _ _ rfl dX5_isDerived_11
set_option maxHeartbeats 4000000 in
set_option maxRecDepth 100000 in
theorem k_X5_isErrorCode (l : Launch) (D : va_G) (cI cB : ClassId) (c_ : Int32) : Rd l yX5_isErrorCode wsX5_isErrorCode ({ frames := 0, cells := 0, slots := 0, locals := 0 }) D cI cB [.int c_] [] (.int (bI (isE c_))) := by
  refine pu_startZ (cc := cX5_isErrorCode) (maxL := 1) (by decide) rfl (Nat.le_of_ble_eq_true rfl) ?_
  intro p e s m args below meth c Q hx hb hml hown hts hP hG hret ls hl
  have hown : s.vm.findClass RX5 = some m.cls := hown
  have hl : lv_has ls 1 [(0, .int c_)] := hl
  refine lv_iload_n hx hb dX5_isErrorCode_0 rfl (lv_at hl 0 rfl) ?_
  refine lv_bipush (v := (-5)) hx hb dX5_isErrorCode_1 (by decide) ?_
  refine lv_icmp_lt (tgt := 16) hx hb dX5_isErrorCode_3 (by decide) (fun c_1 => ?_) (fun c_1 => ?_)
  · skip
    refine lv_iconst (v := nI 0) hx hb dX5_isErrorCode_16 (by decide) ?_
    exact hret _ _ _ (bI_0 (decide_eq_false (by simp only [decide_true, decide_false, reduceIte, Bool.false_eq_true, not_true_eq_false, not_false_eq_true, and_self, and_true, true_and, and_false, false_and, c_1]))) dX5_isErrorCode_17
  · skip
    refine lv_iload_n hx hb dX5_isErrorCode_6 rfl (lv_at hl 0 rfl) ?_
    refine lv_bipush (v := (-2)) hx hb dX5_isErrorCode_7 (by decide) ?_
    refine lv_icmp_gt (tgt := 16) hx hb dX5_isErrorCode_9 (by decide) (fun c_2 => ?_) (fun c_2 => ?_)
    · skip
      refine lv_iconst (v := nI 0) hx hb dX5_isErrorCode_16 (by decide) ?_
      exact hret _ _ _ (bI_0 (decide_eq_false (by simp only [decide_true, decide_false, reduceIte, Bool.false_eq_true, not_true_eq_false, not_false_eq_true, and_self, and_true, true_and, and_false, false_and, c_1, c_2]))) dX5_isErrorCode_17
    · skip
      refine lv_iconst (v := nI 1) hx hb dX5_isErrorCode_12 (by decide) ?_
      refine lv_goto (tgt := 17) hx hb dX5_isErrorCode_13 (by decide) ?_
      exact hret _ _ _ (bI_1 (decide_eq_true (by simp only [decide_true, decide_false, reduceIte, Bool.false_eq_true, not_true_eq_false, not_false_eq_true, and_self, and_true, true_and, and_false, false_and, c_1, c_2]))) dX5_isErrorCode_17
set_option maxHeartbeats 4000000 in
set_option maxRecDepth 100000 in
theorem k_X5_fail (l : Launch) (D : va_G) (cI cB : ClassId) (ob : Nat) (p_ : Nat) (h : Nat) (ro : Nat) (rr : Nat) (qe : Nat) (b : Nat) (er : Nat → Int32) (cd : Int32) (j : Nat) (hj : j < 4) (hcd : cd = (-2) - nI j) (sz : Nat) : Wr l yX5_fail wsX5_fail ({ frames := 1, cells := 0, slots := 0, locals := 20 }) D cI cB [.ref ob, .int cd] [(ob, .inr (5, [.ref b, .ref p_, .ref h, .ref ro, .ref rr, .ref qe])), (qe, .inl (cI, 4, .inl er))] sz (S := Unit) (fun v u => v = some (.int cd)) (fun u => [(ob, .inr (5, [.ref b, .ref p_, .ref h, .ref ro, .ref rr, .ref qe])), (qe, .inl (cI, 4, .inl (bad er j)))]) 0 0 := by
  refine ef_startI (cc := cX5_fail) (maxL := 2) (by decide) rfl (Nat.le_of_ble_eq_true rfl) ?_
  intro p e s m args below meth c Q A hx hb hml hown hts hP hG hD hA hret ls hl
  have hown : s.vm.findClass RX5 = some m.cls := hown
  have hl : lv_has ls 2 [(0, .ref ob), (1, .int cd)] := hl
  have hS : va_S A s.heap s.heap [] := va_S.rf
  refine lv_iload_n hx hb dX5_fail_0 rfl (lv_at hl 1 rfl) ?_
  refine pu_S (As := [.int cd]) (rest := []) ⟨hx, hb, hml, hown, hts⟩ hG hP (k_X5_isErrorCode l D cI cB cd ) (cwS 1 hts gX5_fail_X5_isErrorCode rfl rfl rfl (by decide +kernel) ⟨(Nat.le_of_ble_eq_true rfl), (Nat.le_of_ble_eq_true rfl)⟩) [] rfl rfl hl.1 rfl (Nat.le_of_ble_eq_true rfl) dX5_fail_1 ⟨Nat.zero_le _, Nat.zero_le _⟩ ?_
  refine lv_if_eq (tgt := 20) hx hb dX5_fail_4 (by decide) (fun c_1 => ?_) (fun c_1 => ?_)
  · skip
    have c_1 : (isE cd) = false := bI_f.mp c_1
    exact absurd (isE_cd j hj) (by rw [← hcd, c_1]; decide)
  · skip
    have c_1 : (isE cd) = true := bI_t.mp c_1
    refine lv_aload_n hx hb dX5_fail_7 rfl (lv_at hl 0 rfl) ?_
    refine va_get (D := D) (ci := 5) (v := .ref qe) (C := RX5) (T := TX5) (N := 6) hx hb hts ilX5_fail_5 hown hG.1 hP 0 rfl rfl 5 (by decide) (hts (.fieldLink RX5 46 "HornEngine" "errorCounters" "[I") (List.mem_of_getElem? (i := 1) rfl)) (fun _ h9 => h9) rfl dX5_fail_8 ?_
    refine lv_bipush (v := (-2)) hx hb dX5_fail_11 (by decide) ?_
    refine lv_iload_n hx hb dX5_fail_13 rfl (lv_at hl 1 rfl) ?_
    refine lv_isub hx hb dX5_fail_14 ?_
    refine lv_eqi (y := nI j) (by rw [hcd]; exact cd_ix j) ?_
    refine lv_dup2_11 hx hb dX5_fail_15 rfl rfl ?_
    refine ia_ld hx hb hG hP 1 rfl j rfl (by omega) (by decide) dX5_fail_16 ?_
    refine lv_iconst (v := nI 1) hx hb dX5_fail_17 (by decide) ?_
    refine lv_iadd hx hb dX5_fail_18 ?_
    refine ia_st hx hb hG hP hD hS 1 rfl j rfl (by omega) (by decide) dX5_fail_19 (fun H locs hP hD hS => ?_)
    rw [show upd er j ((er j) + (nI 1)) = bad er j from rfl] at hP hD
    have hP : va_P D vwCl [(ob, .inr (5, [.ref b, .ref p_, .ref h, .ref ro, .ref rr, .ref qe])), (qe, .inl (cI, 4, .inl (bad er j)))] H := hP
    have hD : va_D A [(ob, .inr (5, [.ref b, .ref p_, .ref h, .ref ro, .ref rr, .ref qe])), (qe, .inl (cI, 4, .inl (bad er j)))] := hD
    refine lv_iload_n hx hb dX5_fail_20 rfl (lv_at hl 1 rfl) ?_
    exact hret _ () _ _ _ _ (rfl) (hP) (hD) hS dX5_fail_21
set_option maxHeartbeats 4000000 in
set_option maxRecDepth 100000 in
theorem k_X5_head (l : Launch) (D : va_G) (cI cB : ClassId) (ob : Nat) (p_ : Nat) (h : Nat) (ro : Nat) (rr : Nat) (qe : Nat) (b : Nat) (qh : Nat) (qb : Nat) (hs : Nat → Int32) (bs : Nat → Int32) (n : Nat) (as_ : Int32) (er : Nat → Int32) (r_ : Int32) (hn : n ≤ 24) (sz : Nat) : Wr l yX5_head wsX5_head ({ frames := 2, cells := 0, slots := 0, locals := 42 }) D cI cB [.ref ob, .int r_] [(ob, .inr (5, [.ref b, .ref p_, .ref h, .ref ro, .ref rr, .ref qe])), (b, .inr (4, [.ref qh, .ref qb, .int (nI n), .int as_])), (qh, .inl (cI, 24, .inl hs)), (qb, .inl (cI, 24, .inl bs)), (qe, .inl (cI, 4, .inl er))] sz (S := Unit) (fun v u => v = some (.int (cond (hasR r_ n) (hs r_.toNatClampNeg) (-2)))) (fun u => [(ob, .inr (5, [.ref b, .ref p_, .ref h, .ref ro, .ref rr, .ref qe])), (b, .inr (4, [.ref qh, .ref qb, .int (nI n), .int as_])), (qh, .inl (cI, 24, .inl hs)), (qb, .inl (cI, 24, .inl bs)), (qe, .inl (cI, 4, .inl (cond (hasR r_ n) er (bad er 0))))]) 0 0 := by
  refine ef_startI (cc := cX5_head) (maxL := 2) (by decide) rfl (Nat.le_of_ble_eq_true rfl) ?_
  intro p e s m args below meth c Q A hx hb hml hown hts hP hG hD hA hret ls hl
  have hown : s.vm.findClass RX5 = some m.cls := hown
  have hl : lv_has ls 2 [(0, .ref ob), (1, .int r_)] := hl
  have hS : va_S A s.heap s.heap [] := va_S.rf
  refine lv_aload_n hx hb dX5_head_0 rfl (lv_at hl 0 rfl) ?_
  refine va_get (D := D) (ci := 5) (v := .ref b) (C := RX5) (T := TX5) (N := 6) hx hb hts ilX5_head_5 hown hG.1 hP 0 rfl rfl 0 (by decide) (hts (.fieldLink RX5 10 "HornEngine" "current" "LHornEngine$Rulebook;") (List.mem_of_getElem? (i := 1) rfl)) (fun _ h9 => h9) rfl dX5_head_1 ?_
  refine lv_iload_n hx hb dX5_head_4 rfl (lv_at hl 1 rfl) ?_
  refine pu_V (As := [.int r_]) (rest := []) ⟨hx, hb, hml, hown, hts⟩ hG hP (k_X4_hasRule l D cI cB b qh qb hs bs n as_ r_ (by omega)) (cwV 1 hts gX5_head_X4_hasRule rfl rfl rfl (by decide +kernel) ⟨(Nat.le_of_ble_eq_true rfl), (Nat.le_of_ble_eq_true rfl)⟩) [1, 2, 3] rfl 1 rfl rfl rfl rfl hl.1 rfl (Nat.le_of_ble_eq_true rfl) dX5_head_5 ⟨Nat.zero_le _, Nat.zero_le _⟩ ?_
  refine lv_if_eq (tgt := 22) hx hb dX5_head_8 (by decide) (fun c_1 => ?_) (fun c_1 => ?_)
  · skip
    have c_1 : (hasR r_ n) = false := bI_f.mp c_1
    have hc : hasR r_ n = false := c_1
    refine lv_aload_n hx hb dX5_head_22 rfl (lv_at hl 0 rfl) ?_
    refine lv_bipush (v := (-2)) hx hb dX5_head_23 (by decide) ?_
    refine ef_V (As := [.int (-2)]) (rest := []) (wr := [(b, .inr (4, [.ref qh, .ref qb, .int (nI n), .int as_])), (qh, .inl (cI, 24, .inl hs)), (qb, .inl (cI, 24, .inl bs))]) ⟨hx, hb, hml, hown, hts⟩ hG hP hD hS hA (k_X5_fail l D cI cB ob p_ h ro rr qe b er (-2) 0 (by decide) (by decide) _) (cwV 1 hts gX5_head_X5_fail rfl rfl rfl (by decide +kernel) ⟨(Nat.le_of_ble_eq_true rfl), (Nat.le_of_ble_eq_true rfl)⟩) [0, 4] [1, 2, 3] rfl rfl rfl rfl (by decide) 0 rfl rfl rfl rfl hl.1 rfl (Nat.le_of_ble_eq_true rfl) dX5_head_25 ⟨(Nat.le_of_ble_eq_true rfl), (Nat.le_of_ble_eq_true rfl)⟩ (fun v_2 u_2 H locs w_2 hP hD hS => ?_)
    have w_2 : v_2 = some (.int (-2)) := w_2
    subst w_2
    have hP : va_P D vwCl [(ob, .inr (5, [.ref b, .ref p_, .ref h, .ref ro, .ref rr, .ref qe])), (b, .inr (4, [.ref qh, .ref qb, .int (nI n), .int as_])), (qh, .inl (cI, 24, .inl hs)), (qb, .inl (cI, 24, .inl bs)), (qe, .inl (cI, 4, .inl (bad er 0)))] H := hP.sub [3, 0, 1, 2, 4] rfl
    have hD : va_D A [(ob, .inr (5, [.ref b, .ref p_, .ref h, .ref ro, .ref rr, .ref qe])), (b, .inr (4, [.ref qh, .ref qb, .int (nI n), .int as_])), (qh, .inl (cI, 24, .inl hs)), (qb, .inl (cI, 24, .inl bs)), (qe, .inl (cI, 4, .inl (bad er 0)))] := hD.sub [3, 0, 1, 2, 4] rfl rfl
    refine W.eq (g2 := F0 m 28 ls [.int (-2)]) rfl ?_
    exact hret _ () _ _ _ _ (by rw [hc]; rfl) (by rw [hc]; exact hP) (by rw [hc]; exact hD) hS dX5_head_28
  · skip
    have c_1 : (hasR r_ n) = true := bI_t.mp c_1
    obtain ⟨j_, hj_, rfl⟩ := hasR_nat (by omega) c_1
    refine lv_aload_n hx hb dX5_head_11 rfl (lv_at hl 0 rfl) ?_
    refine va_get (D := D) (ci := 5) (v := .ref b) (C := RX5) (T := TX5) (N := 6) hx hb hts ilX5_head_5 hown hG.1 hP 0 rfl rfl 0 (by decide) (hts (.fieldLink RX5 10 "HornEngine" "current" "LHornEngine$Rulebook;") (List.mem_of_getElem? (i := 1) rfl)) (fun _ h9 => h9) rfl dX5_head_12 ?_
    refine lv_iload_n hx hb dX5_head_15 rfl (lv_at hl 1 rfl) ?_
    refine pu_V (As := [.int (nI j_)]) (rest := []) ⟨hx, hb, hml, hown, hts⟩ hG hP (k_X4_headOf l D cI cB b qh qb hs bs n as_ j_ (by omega) (by omega)) (cwV 1 hts gX5_head_X4_headOf rfl rfl rfl (by decide +kernel) ⟨(Nat.le_of_ble_eq_true rfl), (Nat.le_of_ble_eq_true rfl)⟩) [1, 2, 3] rfl 1 rfl rfl rfl rfl hl.1 rfl (Nat.le_of_ble_eq_true rfl) dX5_head_16 ⟨Nat.zero_le _, Nat.zero_le _⟩ ?_
    refine lv_goto (tgt := 28) hx hb dX5_head_19 (by decide) ?_
    exact hret _ () _ _ _ _ (by rw [hasR_of hj_ (by omega), nI_clamp (by omega)]; rfl) (by rw [hasR_of hj_ (by omega)]; exact hP) (by rw [hasR_of hj_ (by omega)]; exact hD) hS dX5_head_28
set_option maxHeartbeats 4000000 in
set_option maxRecDepth 100000 in
theorem k_X5_body (l : Launch) (D : va_G) (cI cB : ClassId) (ob : Nat) (p_ : Nat) (h : Nat) (ro : Nat) (rr : Nat) (qe : Nat) (b : Nat) (qh : Nat) (qb : Nat) (hs : Nat → Int32) (bs : Nat → Int32) (n : Nat) (as_ : Int32) (er : Nat → Int32) (r_ : Int32) (hn : n ≤ 24) (sz : Nat) : Wr l yX5_body wsX5_body ({ frames := 2, cells := 0, slots := 0, locals := 42 }) D cI cB [.ref ob, .int r_] [(ob, .inr (5, [.ref b, .ref p_, .ref h, .ref ro, .ref rr, .ref qe])), (b, .inr (4, [.ref qh, .ref qb, .int (nI n), .int as_])), (qh, .inl (cI, 24, .inl hs)), (qb, .inl (cI, 24, .inl bs)), (qe, .inl (cI, 4, .inl er))] sz (S := Unit) (fun v u => v = some (.int (cond (hasR r_ n) (bs r_.toNatClampNeg) (-2)))) (fun u => [(ob, .inr (5, [.ref b, .ref p_, .ref h, .ref ro, .ref rr, .ref qe])), (b, .inr (4, [.ref qh, .ref qb, .int (nI n), .int as_])), (qh, .inl (cI, 24, .inl hs)), (qb, .inl (cI, 24, .inl bs)), (qe, .inl (cI, 4, .inl (cond (hasR r_ n) er (bad er 0))))]) 0 0 := by
  refine ef_startI (cc := cX5_body) (maxL := 2) (by decide) rfl (Nat.le_of_ble_eq_true rfl) ?_
  intro p e s m args below meth c Q A hx hb hml hown hts hP hG hD hA hret ls hl
  have hown : s.vm.findClass RX5 = some m.cls := hown
  have hl : lv_has ls 2 [(0, .ref ob), (1, .int r_)] := hl
  have hS : va_S A s.heap s.heap [] := va_S.rf
  refine lv_aload_n hx hb dX5_body_0 rfl (lv_at hl 0 rfl) ?_
  refine va_get (D := D) (ci := 5) (v := .ref b) (C := RX5) (T := TX5) (N := 6) hx hb hts ilX5_body_5 hown hG.1 hP 0 rfl rfl 0 (by decide) (hts (.fieldLink RX5 10 "HornEngine" "current" "LHornEngine$Rulebook;") (List.mem_of_getElem? (i := 1) rfl)) (fun _ h9 => h9) rfl dX5_body_1 ?_
  refine lv_iload_n hx hb dX5_body_4 rfl (lv_at hl 1 rfl) ?_
  refine pu_V (As := [.int r_]) (rest := []) ⟨hx, hb, hml, hown, hts⟩ hG hP (k_X4_hasRule l D cI cB b qh qb hs bs n as_ r_ (by omega)) (cwV 1 hts gX5_body_X4_hasRule rfl rfl rfl (by decide +kernel) ⟨(Nat.le_of_ble_eq_true rfl), (Nat.le_of_ble_eq_true rfl)⟩) [1, 2, 3] rfl 1 rfl rfl rfl rfl hl.1 rfl (Nat.le_of_ble_eq_true rfl) dX5_body_5 ⟨Nat.zero_le _, Nat.zero_le _⟩ ?_
  refine lv_if_eq (tgt := 22) hx hb dX5_body_8 (by decide) (fun c_1 => ?_) (fun c_1 => ?_)
  · skip
    have c_1 : (hasR r_ n) = false := bI_f.mp c_1
    have hc : hasR r_ n = false := c_1
    refine lv_aload_n hx hb dX5_body_22 rfl (lv_at hl 0 rfl) ?_
    refine lv_bipush (v := (-2)) hx hb dX5_body_23 (by decide) ?_
    refine ef_V (As := [.int (-2)]) (rest := []) (wr := [(b, .inr (4, [.ref qh, .ref qb, .int (nI n), .int as_])), (qh, .inl (cI, 24, .inl hs)), (qb, .inl (cI, 24, .inl bs))]) ⟨hx, hb, hml, hown, hts⟩ hG hP hD hS hA (k_X5_fail l D cI cB ob p_ h ro rr qe b er (-2) 0 (by decide) (by decide) _) (cwV 1 hts gX5_body_X5_fail rfl rfl rfl (by decide +kernel) ⟨(Nat.le_of_ble_eq_true rfl), (Nat.le_of_ble_eq_true rfl)⟩) [0, 4] [1, 2, 3] rfl rfl rfl rfl (by decide) 0 rfl rfl rfl rfl hl.1 rfl (Nat.le_of_ble_eq_true rfl) dX5_body_25 ⟨(Nat.le_of_ble_eq_true rfl), (Nat.le_of_ble_eq_true rfl)⟩ (fun v_2 u_2 H locs w_2 hP hD hS => ?_)
    have w_2 : v_2 = some (.int (-2)) := w_2
    subst w_2
    have hP : va_P D vwCl [(ob, .inr (5, [.ref b, .ref p_, .ref h, .ref ro, .ref rr, .ref qe])), (b, .inr (4, [.ref qh, .ref qb, .int (nI n), .int as_])), (qh, .inl (cI, 24, .inl hs)), (qb, .inl (cI, 24, .inl bs)), (qe, .inl (cI, 4, .inl (bad er 0)))] H := hP.sub [3, 0, 1, 2, 4] rfl
    have hD : va_D A [(ob, .inr (5, [.ref b, .ref p_, .ref h, .ref ro, .ref rr, .ref qe])), (b, .inr (4, [.ref qh, .ref qb, .int (nI n), .int as_])), (qh, .inl (cI, 24, .inl hs)), (qb, .inl (cI, 24, .inl bs)), (qe, .inl (cI, 4, .inl (bad er 0)))] := hD.sub [3, 0, 1, 2, 4] rfl rfl
    refine W.eq (g2 := F0 m 28 ls [.int (-2)]) rfl ?_
    exact hret _ () _ _ _ _ (by rw [hc]; rfl) (by rw [hc]; exact hP) (by rw [hc]; exact hD) hS dX5_body_28
  · skip
    have c_1 : (hasR r_ n) = true := bI_t.mp c_1
    obtain ⟨j_, hj_, rfl⟩ := hasR_nat (by omega) c_1
    refine lv_aload_n hx hb dX5_body_11 rfl (lv_at hl 0 rfl) ?_
    refine va_get (D := D) (ci := 5) (v := .ref b) (C := RX5) (T := TX5) (N := 6) hx hb hts ilX5_body_5 hown hG.1 hP 0 rfl rfl 0 (by decide) (hts (.fieldLink RX5 10 "HornEngine" "current" "LHornEngine$Rulebook;") (List.mem_of_getElem? (i := 1) rfl)) (fun _ h9 => h9) rfl dX5_body_12 ?_
    refine lv_iload_n hx hb dX5_body_15 rfl (lv_at hl 1 rfl) ?_
    refine pu_V (As := [.int (nI j_)]) (rest := []) ⟨hx, hb, hml, hown, hts⟩ hG hP (k_X4_bodyOf l D cI cB b qh qb hs bs n as_ j_ (by omega) (by omega)) (cwV 1 hts gX5_body_X4_bodyOf rfl rfl rfl (by decide +kernel) ⟨(Nat.le_of_ble_eq_true rfl), (Nat.le_of_ble_eq_true rfl)⟩) [1, 2, 3] rfl 1 rfl rfl rfl rfl hl.1 rfl (Nat.le_of_ble_eq_true rfl) dX5_body_16 ⟨Nat.zero_le _, Nat.zero_le _⟩ ?_
    refine lv_goto (tgt := 28) hx hb dX5_body_19 (by decide) ?_
    exact hret _ () _ _ _ _ (by rw [hasR_of hj_ (by omega), nI_clamp (by omega)]; rfl) (by rw [hasR_of hj_ (by omega)]; exact hP) (by rw [hasR_of hj_ (by omega)]; exact hD) hS dX5_body_28
set_option maxHeartbeats 4000000 in
set_option maxRecDepth 100000 in
theorem k_X5_overDeleted (l : Launch) (D : va_G) (cI cB : ClassId) (ob : Nat) (p_ : Nat) (h : Nat) (ro : Nat) (rr : Nat) (qe : Nat) (b : Nat) (qh : Nat) (qb : Nat) (hs : Nat → Int32) (bs : Nat → Int32) (n : Nat) (as_ : Int32) (er : Nat → Int32) (r_ : Int32) (hn : n ≤ 24) (sz : Nat) : Wr l yX5_overDeleted wsX5_overDeleted ({ frames := 5, cells := 0, slots := 0, locals := 115 }) D cI cB [.ref ob, .int r_] [(ob, .inr (5, [.ref b, .ref p_, .ref h, .ref ro, .ref rr, .ref qe])), (b, .inr (4, [.ref qh, .ref qb, .int (nI n), .int as_])), (qh, .inl (cI, 24, .inl hs)), (qb, .inl (cI, 24, .inl bs)), (qe, .inl (cI, 4, .inl er))] sz (S := Unit) (fun v u => v = some (.int (cond (hasR r_ n) (ovd hs bs n r_.toNatClampNeg) (-2)))) (fun u => [(ob, .inr (5, [.ref b, .ref p_, .ref h, .ref ro, .ref rr, .ref qe])), (b, .inr (4, [.ref qh, .ref qb, .int (nI n), .int as_])), (qh, .inl (cI, 24, .inl hs)), (qb, .inl (cI, 24, .inl bs)), (qe, .inl (cI, 4, .inl (cond (hasR r_ n) er (bad er 0))))]) 0 0 := by
  refine ef_startI (cc := cX5_overDeleted) (maxL := 2) (by decide) rfl (Nat.le_of_ble_eq_true rfl) ?_
  intro p e s m args below meth c Q A hx hb hml hown hts hP hG hD hA hret ls hl
  have hown : s.vm.findClass RX5 = some m.cls := hown
  have hl : lv_has ls 2 [(0, .ref ob), (1, .int r_)] := hl
  have hS : va_S A s.heap s.heap [] := va_S.rf
  refine lv_aload_n hx hb dX5_overDeleted_0 rfl (lv_at hl 0 rfl) ?_
  refine va_get (D := D) (ci := 5) (v := .ref b) (C := RX5) (T := TX5) (N := 6) hx hb hts ilX5_overDeleted_5 hown hG.1 hP 0 rfl rfl 0 (by decide) (hts (.fieldLink RX5 10 "HornEngine" "current" "LHornEngine$Rulebook;") (List.mem_of_getElem? (i := 1) rfl)) (fun _ h9 => h9) rfl dX5_overDeleted_1 ?_
  refine lv_iload_n hx hb dX5_overDeleted_4 rfl (lv_at hl 1 rfl) ?_
  refine pu_V (As := [.int r_]) (rest := []) ⟨hx, hb, hml, hown, hts⟩ hG hP (k_X4_hasRule l D cI cB b qh qb hs bs n as_ r_ (by omega)) (cwV 1 hts gX5_overDeleted_X4_hasRule rfl rfl rfl (by decide +kernel) ⟨(Nat.le_of_ble_eq_true rfl), (Nat.le_of_ble_eq_true rfl)⟩) [1, 2, 3] rfl 1 rfl rfl rfl rfl hl.1 rfl (Nat.le_of_ble_eq_true rfl) dX5_overDeleted_5 ⟨Nat.zero_le _, Nat.zero_le _⟩ ?_
  refine lv_if_eq (tgt := 22) hx hb dX5_overDeleted_8 (by decide) (fun c_1 => ?_) (fun c_1 => ?_)
  · skip
    have c_1 : (hasR r_ n) = false := bI_f.mp c_1
    have hc : hasR r_ n = false := c_1
    refine lv_aload_n hx hb dX5_overDeleted_22 rfl (lv_at hl 0 rfl) ?_
    refine lv_bipush (v := (-2)) hx hb dX5_overDeleted_23 (by decide) ?_
    refine ef_V (As := [.int (-2)]) (rest := []) (wr := [(b, .inr (4, [.ref qh, .ref qb, .int (nI n), .int as_])), (qh, .inl (cI, 24, .inl hs)), (qb, .inl (cI, 24, .inl bs))]) ⟨hx, hb, hml, hown, hts⟩ hG hP hD hS hA (k_X5_fail l D cI cB ob p_ h ro rr qe b er (-2) 0 (by decide) (by decide) _) (cwV 1 hts gX5_overDeleted_X5_fail rfl rfl rfl (by decide +kernel) ⟨(Nat.le_of_ble_eq_true rfl), (Nat.le_of_ble_eq_true rfl)⟩) [0, 4] [1, 2, 3] rfl rfl rfl rfl (by decide) 0 rfl rfl rfl rfl hl.1 rfl (Nat.le_of_ble_eq_true rfl) dX5_overDeleted_25 ⟨(Nat.le_of_ble_eq_true rfl), (Nat.le_of_ble_eq_true rfl)⟩ (fun v_2 u_2 H locs w_2 hP hD hS => ?_)
    have w_2 : v_2 = some (.int (-2)) := w_2
    subst w_2
    have hP : va_P D vwCl [(ob, .inr (5, [.ref b, .ref p_, .ref h, .ref ro, .ref rr, .ref qe])), (b, .inr (4, [.ref qh, .ref qb, .int (nI n), .int as_])), (qh, .inl (cI, 24, .inl hs)), (qb, .inl (cI, 24, .inl bs)), (qe, .inl (cI, 4, .inl (bad er 0)))] H := hP.sub [3, 0, 1, 2, 4] rfl
    have hD : va_D A [(ob, .inr (5, [.ref b, .ref p_, .ref h, .ref ro, .ref rr, .ref qe])), (b, .inr (4, [.ref qh, .ref qb, .int (nI n), .int as_])), (qh, .inl (cI, 24, .inl hs)), (qb, .inl (cI, 24, .inl bs)), (qe, .inl (cI, 4, .inl (bad er 0)))] := hD.sub [3, 0, 1, 2, 4] rfl rfl
    refine W.eq (g2 := F0 m 28 ls [.int (-2)]) rfl ?_
    exact hret _ () _ _ _ _ (by rw [hc]; rfl) (by rw [hc]; exact hP) (by rw [hc]; exact hD) hS dX5_overDeleted_28
  · skip
    have c_1 : (hasR r_ n) = true := bI_t.mp c_1
    obtain ⟨j_, hj_, rfl⟩ := hasR_nat (by omega) c_1
    refine lv_aload_n hx hb dX5_overDeleted_11 rfl (lv_at hl 0 rfl) ?_
    refine va_get (D := D) (ci := 5) (v := .ref b) (C := RX5) (T := TX5) (N := 6) hx hb hts ilX5_overDeleted_5 hown hG.1 hP 0 rfl rfl 0 (by decide) (hts (.fieldLink RX5 10 "HornEngine" "current" "LHornEngine$Rulebook;") (List.mem_of_getElem? (i := 1) rfl)) (fun _ h9 => h9) rfl dX5_overDeleted_12 ?_
    refine lv_iload_n hx hb dX5_overDeleted_15 rfl (lv_at hl 1 rfl) ?_
    refine pu_V (As := [.int (nI j_)]) (rest := []) ⟨hx, hb, hml, hown, hts⟩ hG hP (k_X4_overDeletedBy l D cI cB b qh qb hs bs n as_ j_ (by omega) (by omega)) (cwV 1 hts gX5_overDeleted_X4_overDeletedBy rfl rfl rfl (by decide +kernel) ⟨(Nat.le_of_ble_eq_true rfl), (Nat.le_of_ble_eq_true rfl)⟩) [1, 2, 3] rfl 1 rfl rfl rfl rfl hl.1 rfl (Nat.le_of_ble_eq_true rfl) dX5_overDeleted_16 ⟨Nat.zero_le _, Nat.zero_le _⟩ ?_
    refine lv_goto (tgt := 28) hx hb dX5_overDeleted_19 (by decide) ?_
    exact hret _ () _ _ _ _ (by rw [hasR_of hj_ (by omega), nI_clamp (by omega)]; rfl) (by rw [hasR_of hj_ (by omega)]; exact hP) (by rw [hasR_of hj_ (by omega)]; exact hD) hS dX5_overDeleted_28
set_option maxHeartbeats 4000000 in
set_option maxRecDepth 100000 in
theorem k_X5_lost (l : Launch) (D : va_G) (cI cB : ClassId) (ob : Nat) (p_ : Nat) (h : Nat) (ro : Nat) (rr : Nat) (qe : Nat) (b : Nat) (qh : Nat) (qb : Nat) (hs : Nat → Int32) (bs : Nat → Int32) (n : Nat) (as_ : Int32) (er : Nat → Int32) (r_ : Int32) (hn : n ≤ 24) (sz : Nat) : Wr l yX5_lost wsX5_lost ({ frames := 5, cells := 0, slots := 0, locals := 112 }) D cI cB [.ref ob, .int r_] [(ob, .inr (5, [.ref b, .ref p_, .ref h, .ref ro, .ref rr, .ref qe])), (b, .inr (4, [.ref qh, .ref qb, .int (nI n), .int as_])), (qh, .inl (cI, 24, .inl hs)), (qb, .inl (cI, 24, .inl bs)), (qe, .inl (cI, 4, .inl er))] sz (S := Unit) (fun v u => v = some (.int (cond (hasR r_ n) (lst hs bs n r_.toNatClampNeg) (-2)))) (fun u => [(ob, .inr (5, [.ref b, .ref p_, .ref h, .ref ro, .ref rr, .ref qe])), (b, .inr (4, [.ref qh, .ref qb, .int (nI n), .int as_])), (qh, .inl (cI, 24, .inl hs)), (qb, .inl (cI, 24, .inl bs)), (qe, .inl (cI, 4, .inl (cond (hasR r_ n) er (bad er 0))))]) 0 0 := by
  refine ef_startI (cc := cX5_lost) (maxL := 2) (by decide) rfl (Nat.le_of_ble_eq_true rfl) ?_
  intro p e s m args below meth c Q A hx hb hml hown hts hP hG hD hA hret ls hl
  have hown : s.vm.findClass RX5 = some m.cls := hown
  have hl : lv_has ls 2 [(0, .ref ob), (1, .int r_)] := hl
  have hS : va_S A s.heap s.heap [] := va_S.rf
  refine lv_aload_n hx hb dX5_lost_0 rfl (lv_at hl 0 rfl) ?_
  refine va_get (D := D) (ci := 5) (v := .ref b) (C := RX5) (T := TX5) (N := 6) hx hb hts ilX5_lost_5 hown hG.1 hP 0 rfl rfl 0 (by decide) (hts (.fieldLink RX5 10 "HornEngine" "current" "LHornEngine$Rulebook;") (List.mem_of_getElem? (i := 1) rfl)) (fun _ h9 => h9) rfl dX5_lost_1 ?_
  refine lv_iload_n hx hb dX5_lost_4 rfl (lv_at hl 1 rfl) ?_
  refine pu_V (As := [.int r_]) (rest := []) ⟨hx, hb, hml, hown, hts⟩ hG hP (k_X4_hasRule l D cI cB b qh qb hs bs n as_ r_ (by omega)) (cwV 1 hts gX5_lost_X4_hasRule rfl rfl rfl (by decide +kernel) ⟨(Nat.le_of_ble_eq_true rfl), (Nat.le_of_ble_eq_true rfl)⟩) [1, 2, 3] rfl 1 rfl rfl rfl rfl hl.1 rfl (Nat.le_of_ble_eq_true rfl) dX5_lost_5 ⟨Nat.zero_le _, Nat.zero_le _⟩ ?_
  refine lv_if_eq (tgt := 22) hx hb dX5_lost_8 (by decide) (fun c_1 => ?_) (fun c_1 => ?_)
  · skip
    have c_1 : (hasR r_ n) = false := bI_f.mp c_1
    have hc : hasR r_ n = false := c_1
    refine lv_aload_n hx hb dX5_lost_22 rfl (lv_at hl 0 rfl) ?_
    refine lv_bipush (v := (-2)) hx hb dX5_lost_23 (by decide) ?_
    refine ef_V (As := [.int (-2)]) (rest := []) (wr := [(b, .inr (4, [.ref qh, .ref qb, .int (nI n), .int as_])), (qh, .inl (cI, 24, .inl hs)), (qb, .inl (cI, 24, .inl bs))]) ⟨hx, hb, hml, hown, hts⟩ hG hP hD hS hA (k_X5_fail l D cI cB ob p_ h ro rr qe b er (-2) 0 (by decide) (by decide) _) (cwV 1 hts gX5_lost_X5_fail rfl rfl rfl (by decide +kernel) ⟨(Nat.le_of_ble_eq_true rfl), (Nat.le_of_ble_eq_true rfl)⟩) [0, 4] [1, 2, 3] rfl rfl rfl rfl (by decide) 0 rfl rfl rfl rfl hl.1 rfl (Nat.le_of_ble_eq_true rfl) dX5_lost_25 ⟨(Nat.le_of_ble_eq_true rfl), (Nat.le_of_ble_eq_true rfl)⟩ (fun v_2 u_2 H locs w_2 hP hD hS => ?_)
    have w_2 : v_2 = some (.int (-2)) := w_2
    subst w_2
    have hP : va_P D vwCl [(ob, .inr (5, [.ref b, .ref p_, .ref h, .ref ro, .ref rr, .ref qe])), (b, .inr (4, [.ref qh, .ref qb, .int (nI n), .int as_])), (qh, .inl (cI, 24, .inl hs)), (qb, .inl (cI, 24, .inl bs)), (qe, .inl (cI, 4, .inl (bad er 0)))] H := hP.sub [3, 0, 1, 2, 4] rfl
    have hD : va_D A [(ob, .inr (5, [.ref b, .ref p_, .ref h, .ref ro, .ref rr, .ref qe])), (b, .inr (4, [.ref qh, .ref qb, .int (nI n), .int as_])), (qh, .inl (cI, 24, .inl hs)), (qb, .inl (cI, 24, .inl bs)), (qe, .inl (cI, 4, .inl (bad er 0)))] := hD.sub [3, 0, 1, 2, 4] rfl rfl
    refine W.eq (g2 := F0 m 28 ls [.int (-2)]) rfl ?_
    exact hret _ () _ _ _ _ (by rw [hc]; rfl) (by rw [hc]; exact hP) (by rw [hc]; exact hD) hS dX5_lost_28
  · skip
    have c_1 : (hasR r_ n) = true := bI_t.mp c_1
    obtain ⟨j_, hj_, rfl⟩ := hasR_nat (by omega) c_1
    refine lv_aload_n hx hb dX5_lost_11 rfl (lv_at hl 0 rfl) ?_
    refine va_get (D := D) (ci := 5) (v := .ref b) (C := RX5) (T := TX5) (N := 6) hx hb hts ilX5_lost_5 hown hG.1 hP 0 rfl rfl 0 (by decide) (hts (.fieldLink RX5 10 "HornEngine" "current" "LHornEngine$Rulebook;") (List.mem_of_getElem? (i := 1) rfl)) (fun _ h9 => h9) rfl dX5_lost_12 ?_
    refine lv_iload_n hx hb dX5_lost_15 rfl (lv_at hl 1 rfl) ?_
    refine pu_V (As := [.int (nI j_)]) (rest := []) ⟨hx, hb, hml, hown, hts⟩ hG hP (k_X4_lostWithout l D cI cB b qh qb hs bs n as_ j_ (by omega) (by omega)) (cwV 1 hts gX5_lost_X4_lostWithout rfl rfl rfl (by decide +kernel) ⟨(Nat.le_of_ble_eq_true rfl), (Nat.le_of_ble_eq_true rfl)⟩) [1, 2, 3] rfl 1 rfl rfl rfl rfl hl.1 rfl (Nat.le_of_ble_eq_true rfl) dX5_lost_16 ⟨Nat.zero_le _, Nat.zero_le _⟩ ?_
    refine lv_goto (tgt := 28) hx hb dX5_lost_19 (by decide) ?_
    exact hret _ () _ _ _ _ (by rw [hasR_of hj_ (by omega), nI_clamp (by omega)]; rfl) (by rw [hasR_of hj_ (by omega)]; exact hP) (by rw [hasR_of hj_ (by omega)]; exact hD) hS dX5_lost_28
set_option maxHeartbeats 4000000 in
set_option maxRecDepth 100000 in
theorem k_X5_supports (l : Launch) (D : va_G) (cI cB : ClassId) (ob : Nat) (p_ : Nat) (h : Nat) (ro : Nat) (rr : Nat) (qe : Nat) (b : Nat) (qh : Nat) (qb : Nat) (hs : Nat → Int32) (bs : Nat → Int32) (n : Nat) (as_ : Int32) (er : Nat → Int32) (at_ : Int32) (hn : n ≤ 24) (sz : Nat) : Wr l yX5_supports wsX5_supports ({ frames := 5, cells := 0, slots := 0, locals := 114 }) D cI cB [.ref ob, .int at_] [(ob, .inr (5, [.ref b, .ref p_, .ref h, .ref ro, .ref rr, .ref qe])), (b, .inr (4, [.ref qh, .ref qb, .int (nI n), .int as_])), (qh, .inl (cI, 24, .inl hs)), (qb, .inl (cI, 24, .inl bs)), (qe, .inl (cI, 4, .inl er))] sz (S := Unit) (fun v u => v = some (.int (cond (isA at_) (supF hs bs (mdl hs bs n) at_.toNatClampNeg n) (-2)))) (fun u => [(ob, .inr (5, [.ref b, .ref p_, .ref h, .ref ro, .ref rr, .ref qe])), (b, .inr (4, [.ref qh, .ref qb, .int (nI n), .int as_])), (qh, .inl (cI, 24, .inl hs)), (qb, .inl (cI, 24, .inl bs)), (qe, .inl (cI, 4, .inl (cond (isA at_) er (bad er 0))))]) 0 0 := by
  refine ef_startI (cc := cX5_supports) (maxL := 2) (by decide) rfl (Nat.le_of_ble_eq_true rfl) ?_
  intro p e s m args below meth c Q A hx hb hml hown hts hP hG hD hA hret ls hl
  have hown : s.vm.findClass RX5 = some m.cls := hown
  have hl : lv_has ls 2 [(0, .ref ob), (1, .int at_)] := hl
  have hS : va_S A s.heap s.heap [] := va_S.rf
  refine lv_iload_n hx hb dX5_supports_0 rfl (lv_at hl 1 rfl) ?_
  refine pu_S (As := [.int at_]) (rest := []) ⟨hx, hb, hml, hown, hts⟩ hG hP (k_X5_isAtom l D cI cB at_ ) (cwS 1 hts gX5_supports_X5_isAtom rfl rfl rfl (by decide +kernel) ⟨(Nat.le_of_ble_eq_true rfl), (Nat.le_of_ble_eq_true rfl)⟩) [] rfl rfl hl.1 rfl (Nat.le_of_ble_eq_true rfl) dX5_supports_1 ⟨Nat.zero_le _, Nat.zero_le _⟩ ?_
  refine lv_if_eq (tgt := 18) hx hb dX5_supports_4 (by decide) (fun c_1 => ?_) (fun c_1 => ?_)
  · skip
    have c_1 : (isA at_) = false := bI_f.mp c_1
    have hc : isA at_ = false := c_1
    refine lv_aload_n hx hb dX5_supports_18 rfl (lv_at hl 0 rfl) ?_
    refine lv_bipush (v := (-2)) hx hb dX5_supports_19 (by decide) ?_
    refine ef_V (As := [.int (-2)]) (rest := []) (wr := [(b, .inr (4, [.ref qh, .ref qb, .int (nI n), .int as_])), (qh, .inl (cI, 24, .inl hs)), (qb, .inl (cI, 24, .inl bs))]) ⟨hx, hb, hml, hown, hts⟩ hG hP hD hS hA (k_X5_fail l D cI cB ob p_ h ro rr qe b er (-2) 0 (by decide) (by decide) _) (cwV 1 hts gX5_supports_X5_fail rfl rfl rfl (by decide +kernel) ⟨(Nat.le_of_ble_eq_true rfl), (Nat.le_of_ble_eq_true rfl)⟩) [0, 4] [1, 2, 3] rfl rfl rfl rfl (by decide) 0 rfl rfl rfl rfl hl.1 rfl (Nat.le_of_ble_eq_true rfl) dX5_supports_21 ⟨(Nat.le_of_ble_eq_true rfl), (Nat.le_of_ble_eq_true rfl)⟩ (fun v_2 u_2 H locs w_2 hP hD hS => ?_)
    have w_2 : v_2 = some (.int (-2)) := w_2
    subst w_2
    have hP : va_P D vwCl [(ob, .inr (5, [.ref b, .ref p_, .ref h, .ref ro, .ref rr, .ref qe])), (b, .inr (4, [.ref qh, .ref qb, .int (nI n), .int as_])), (qh, .inl (cI, 24, .inl hs)), (qb, .inl (cI, 24, .inl bs)), (qe, .inl (cI, 4, .inl (bad er 0)))] H := hP.sub [3, 0, 1, 2, 4] rfl
    have hD : va_D A [(ob, .inr (5, [.ref b, .ref p_, .ref h, .ref ro, .ref rr, .ref qe])), (b, .inr (4, [.ref qh, .ref qb, .int (nI n), .int as_])), (qh, .inl (cI, 24, .inl hs)), (qb, .inl (cI, 24, .inl bs)), (qe, .inl (cI, 4, .inl (bad er 0)))] := hD.sub [3, 0, 1, 2, 4] rfl rfl
    refine W.eq (g2 := F0 m 24 ls [.int (-2)]) rfl ?_
    exact hret _ () _ _ _ _ (by rw [hc]; rfl) (by rw [hc]; exact hP) (by rw [hc]; exact hD) hS dX5_supports_24
  · skip
    have c_1 : (isA at_) = true := bI_t.mp c_1
    obtain ⟨a, ha, rfl⟩ := isA_nat c_1
    refine lv_aload_n hx hb dX5_supports_7 rfl (lv_at hl 0 rfl) ?_
    refine va_get (D := D) (ci := 5) (v := .ref b) (C := RX5) (T := TX5) (N := 6) hx hb hts ilX5_supports_5 hown hG.1 hP 0 rfl rfl 0 (by decide) (hts (.fieldLink RX5 10 "HornEngine" "current" "LHornEngine$Rulebook;") (List.mem_of_getElem? (i := 1) rfl)) (fun _ h9 => h9) rfl dX5_supports_8 ?_
    refine lv_iload_n hx hb dX5_supports_11 rfl (lv_at hl 1 rfl) ?_
    refine pu_V (As := [.int (nI a)]) (rest := []) ⟨hx, hb, hml, hown, hts⟩ hG hP (k_X4_supportsOf l D cI cB b qh qb hs bs n as_ a (by omega) (by omega)) (cwV 1 hts gX5_supports_X4_supportsOf rfl rfl rfl (by decide +kernel) ⟨(Nat.le_of_ble_eq_true rfl), (Nat.le_of_ble_eq_true rfl)⟩) [1, 2, 3] rfl 1 rfl rfl rfl rfl hl.1 rfl (Nat.le_of_ble_eq_true rfl) dX5_supports_12 ⟨Nat.zero_le _, Nat.zero_le _⟩ ?_
    refine lv_goto (tgt := 24) hx hb dX5_supports_15 (by decide) ?_
    exact hret _ () _ _ _ _ (by rw [isA_of ha, nI_clamp (by omega)]; rfl) (by rw [isA_of ha]; exact hP) (by rw [isA_of ha]; exact hD) hS dX5_supports_24
set_option maxHeartbeats 4000000 in
set_option maxRecDepth 100000 in
theorem k_X5_dependencies (l : Launch) (D : va_G) (cI cB : ClassId) (ob : Nat) (p_ : Nat) (h : Nat) (ro : Nat) (rr : Nat) (qe : Nat) (b : Nat) (qh : Nat) (qb : Nat) (hs : Nat → Int32) (bs : Nat → Int32) (n : Nat) (as_ : Int32) (er : Nat → Int32) (at_ : Int32) (hn : n ≤ 24) (sz : Nat) : Wr l yX5_dependencies wsX5_dependencies ({ frames := 3, cells := 0, slots := 0, locals := 67 }) D cI cB [.ref ob, .int at_] [(ob, .inr (5, [.ref b, .ref p_, .ref h, .ref ro, .ref rr, .ref qe])), (b, .inr (4, [.ref qh, .ref qb, .int (nI n), .int as_])), (qh, .inl (cI, 24, .inl hs)), (qb, .inl (cI, 24, .inl bs)), (qe, .inl (cI, 4, .inl er))] sz (S := Unit) (fun v u => v = some (.int (cond (isA at_) (depS hs bs n at_.toNatClampNeg) (-2)))) (fun u => [(ob, .inr (5, [.ref b, .ref p_, .ref h, .ref ro, .ref rr, .ref qe])), (b, .inr (4, [.ref qh, .ref qb, .int (nI n), .int as_])), (qh, .inl (cI, 24, .inl hs)), (qb, .inl (cI, 24, .inl bs)), (qe, .inl (cI, 4, .inl (cond (isA at_) er (bad er 0))))]) 0 0 := by
  refine ef_startI (cc := cX5_dependencies) (maxL := 2) (by decide) rfl (Nat.le_of_ble_eq_true rfl) ?_
  intro p e s m args below meth c Q A hx hb hml hown hts hP hG hD hA hret ls hl
  have hown : s.vm.findClass RX5 = some m.cls := hown
  have hl : lv_has ls 2 [(0, .ref ob), (1, .int at_)] := hl
  have hS : va_S A s.heap s.heap [] := va_S.rf
  refine lv_iload_n hx hb dX5_dependencies_0 rfl (lv_at hl 1 rfl) ?_
  refine pu_S (As := [.int at_]) (rest := []) ⟨hx, hb, hml, hown, hts⟩ hG hP (k_X5_isAtom l D cI cB at_ ) (cwS 1 hts gX5_dependencies_X5_isAtom rfl rfl rfl (by decide +kernel) ⟨(Nat.le_of_ble_eq_true rfl), (Nat.le_of_ble_eq_true rfl)⟩) [] rfl rfl hl.1 rfl (Nat.le_of_ble_eq_true rfl) dX5_dependencies_1 ⟨Nat.zero_le _, Nat.zero_le _⟩ ?_
  refine lv_if_eq (tgt := 18) hx hb dX5_dependencies_4 (by decide) (fun c_1 => ?_) (fun c_1 => ?_)
  · skip
    have c_1 : (isA at_) = false := bI_f.mp c_1
    have hc : isA at_ = false := c_1
    refine lv_aload_n hx hb dX5_dependencies_18 rfl (lv_at hl 0 rfl) ?_
    refine lv_bipush (v := (-2)) hx hb dX5_dependencies_19 (by decide) ?_
    refine ef_V (As := [.int (-2)]) (rest := []) (wr := [(b, .inr (4, [.ref qh, .ref qb, .int (nI n), .int as_])), (qh, .inl (cI, 24, .inl hs)), (qb, .inl (cI, 24, .inl bs))]) ⟨hx, hb, hml, hown, hts⟩ hG hP hD hS hA (k_X5_fail l D cI cB ob p_ h ro rr qe b er (-2) 0 (by decide) (by decide) _) (cwV 1 hts gX5_dependencies_X5_fail rfl rfl rfl (by decide +kernel) ⟨(Nat.le_of_ble_eq_true rfl), (Nat.le_of_ble_eq_true rfl)⟩) [0, 4] [1, 2, 3] rfl rfl rfl rfl (by decide) 0 rfl rfl rfl rfl hl.1 rfl (Nat.le_of_ble_eq_true rfl) dX5_dependencies_21 ⟨(Nat.le_of_ble_eq_true rfl), (Nat.le_of_ble_eq_true rfl)⟩ (fun v_2 u_2 H locs w_2 hP hD hS => ?_)
    have w_2 : v_2 = some (.int (-2)) := w_2
    subst w_2
    have hP : va_P D vwCl [(ob, .inr (5, [.ref b, .ref p_, .ref h, .ref ro, .ref rr, .ref qe])), (b, .inr (4, [.ref qh, .ref qb, .int (nI n), .int as_])), (qh, .inl (cI, 24, .inl hs)), (qb, .inl (cI, 24, .inl bs)), (qe, .inl (cI, 4, .inl (bad er 0)))] H := hP.sub [3, 0, 1, 2, 4] rfl
    have hD : va_D A [(ob, .inr (5, [.ref b, .ref p_, .ref h, .ref ro, .ref rr, .ref qe])), (b, .inr (4, [.ref qh, .ref qb, .int (nI n), .int as_])), (qh, .inl (cI, 24, .inl hs)), (qb, .inl (cI, 24, .inl bs)), (qe, .inl (cI, 4, .inl (bad er 0)))] := hD.sub [3, 0, 1, 2, 4] rfl rfl
    refine W.eq (g2 := F0 m 24 ls [.int (-2)]) rfl ?_
    exact hret _ () _ _ _ _ (by rw [hc]; rfl) (by rw [hc]; exact hP) (by rw [hc]; exact hD) hS dX5_dependencies_24
  · skip
    have c_1 : (isA at_) = true := bI_t.mp c_1
    obtain ⟨a, ha, rfl⟩ := isA_nat c_1
    refine lv_aload_n hx hb dX5_dependencies_7 rfl (lv_at hl 0 rfl) ?_
    refine va_get (D := D) (ci := 5) (v := .ref b) (C := RX5) (T := TX5) (N := 6) hx hb hts ilX5_dependencies_5 hown hG.1 hP 0 rfl rfl 0 (by decide) (hts (.fieldLink RX5 10 "HornEngine" "current" "LHornEngine$Rulebook;") (List.mem_of_getElem? (i := 1) rfl)) (fun _ h9 => h9) rfl dX5_dependencies_8 ?_
    refine lv_iload_n hx hb dX5_dependencies_11 rfl (lv_at hl 1 rfl) ?_
    refine pu_V (As := [.int (nI a)]) (rest := []) ⟨hx, hb, hml, hown, hts⟩ hG hP (k_X4_dependenciesOf l D cI cB b qh qb hs bs n as_ a (by omega) (by omega)) (cwV 1 hts gX5_dependencies_X4_dependenciesOf rfl rfl rfl (by decide +kernel) ⟨(Nat.le_of_ble_eq_true rfl), (Nat.le_of_ble_eq_true rfl)⟩) [1, 2, 3] rfl 1 rfl rfl rfl rfl hl.1 rfl (Nat.le_of_ble_eq_true rfl) dX5_dependencies_12 ⟨Nat.zero_le _, Nat.zero_le _⟩ ?_
    refine lv_goto (tgt := 24) hx hb dX5_dependencies_15 (by decide) ?_
    exact hret _ () _ _ _ _ (by rw [isA_of ha, nI_clamp (by omega)]; rfl) (by rw [isA_of ha]; exact hP) (by rw [isA_of ha]; exact hD) hS dX5_dependencies_24
set_option maxHeartbeats 4000000 in
set_option maxRecDepth 100000 in
theorem k_X5_level (l : Launch) (D : va_G) (cI cB : ClassId) (ob : Nat) (p_ : Nat) (h : Nat) (ro : Nat) (rr : Nat) (qe : Nat) (b : Nat) (qh : Nat) (qb : Nat) (hs : Nat → Int32) (bs : Nat → Int32) (n : Nat) (as_ : Int32) (er : Nat → Int32) (at_ : Int32) (hn : n ≤ 24) (sz : Nat) : Wr l yX5_level wsX5_level ({ frames := 5, cells := 0, slots := 0, locals := 111 }) D cI cB [.ref ob, .int at_] [(ob, .inr (5, [.ref b, .ref p_, .ref h, .ref ro, .ref rr, .ref qe])), (b, .inr (4, [.ref qh, .ref qb, .int (nI n), .int as_])), (qh, .inl (cI, 24, .inl hs)), (qb, .inl (cI, 24, .inl bs)), (qe, .inl (cI, 4, .inl er))] sz (S := Unit) (fun v u => v = some (.int (cond (isA at_) (cond (has (mdl hs bs n) at_) (nI (lev hs bs n at_.toNatClampNeg)) (-3)) (-2)))) (fun u => [(ob, .inr (5, [.ref b, .ref p_, .ref h, .ref ro, .ref rr, .ref qe])), (b, .inr (4, [.ref qh, .ref qb, .int (nI n), .int as_])), (qh, .inl (cI, 24, .inl hs)), (qb, .inl (cI, 24, .inl bs)), (qe, .inl (cI, 4, .inl (cond (isA at_) (cond (has (mdl hs bs n) at_) er (bad er 1)) (bad er 0))))]) 0 0 := by
  refine ef_startI (cc := cX5_level) (maxL := 2) (by decide) rfl (Nat.le_of_ble_eq_true rfl) ?_
  intro p e s m args below meth c Q A hx hb hml hown hts hP hG hD hA hret ls hl
  have hown : s.vm.findClass RX5 = some m.cls := hown
  have hl : lv_has ls 2 [(0, .ref ob), (1, .int at_)] := hl
  have hS : va_S A s.heap s.heap [] := va_S.rf
  refine lv_iload_n hx hb dX5_level_0 rfl (lv_at hl 1 rfl) ?_
  refine pu_S (As := [.int at_]) (rest := []) ⟨hx, hb, hml, hown, hts⟩ hG hP (k_X5_isAtom l D cI cB at_ ) (cwS 1 hts gX5_level_X5_isAtom rfl rfl rfl (by decide +kernel) ⟨(Nat.le_of_ble_eq_true rfl), (Nat.le_of_ble_eq_true rfl)⟩) [] rfl rfl hl.1 rfl (Nat.le_of_ble_eq_true rfl) dX5_level_1 ⟨Nat.zero_le _, Nat.zero_le _⟩ ?_
  refine lv_if_ne (tgt := 14) hx hb dX5_level_4 (by decide) (fun c_1 => ?_) (fun c_1 => ?_)
  · skip
    have c_1 : (isA at_) = true := bI_t.mp c_1
    obtain ⟨a, ha, rfl⟩ := isA_nat c_1
    refine lv_aload_n hx hb dX5_level_14 rfl (lv_at hl 0 rfl) ?_
    refine lv_iload_n hx hb dX5_level_15 rfl (lv_at hl 1 rfl) ?_
    refine pu_V (As := [.int (nI a)]) (rest := []) ⟨hx, hb, hml, hown, hts⟩ hG hP (k_X5_isDerived l D cI cB ob p_ h ro rr qe b qh qb hs bs n as_ (nI a) (by omega)) (cwV 1 hts gX5_level_X5_isDerived rfl rfl rfl (by decide +kernel) ⟨(Nat.le_of_ble_eq_true rfl), (Nat.le_of_ble_eq_true rfl)⟩) [0, 1, 2, 3] rfl 0 rfl rfl rfl rfl hl.1 rfl (Nat.le_of_ble_eq_true rfl) dX5_level_16 ⟨Nat.zero_le _, Nat.zero_le _⟩ ?_
    refine lv_if_eq (tgt := 33) hx hb dX5_level_19 (by decide) (fun c_2 => ?_) (fun c_2 => ?_)
    · skip
      have c_2 : (has (mdl hs bs n) (nI a)) = false := bI_f.mp c_2
      have hm : has (mdl hs bs n) (nI a) = false := c_2
      refine lv_aload_n hx hb dX5_level_33 rfl (lv_at hl 0 rfl) ?_
      refine lv_bipush (v := (-3)) hx hb dX5_level_34 (by decide) ?_
      refine ef_V (As := [.int (-3)]) (rest := []) (wr := [(b, .inr (4, [.ref qh, .ref qb, .int (nI n), .int as_])), (qh, .inl (cI, 24, .inl hs)), (qb, .inl (cI, 24, .inl bs))]) ⟨hx, hb, hml, hown, hts⟩ hG hP hD hS hA (k_X5_fail l D cI cB ob p_ h ro rr qe b er (-3) 1 (by decide) (by decide) _) (cwV 1 hts gX5_level_X5_fail rfl rfl rfl (by decide +kernel) ⟨(Nat.le_of_ble_eq_true rfl), (Nat.le_of_ble_eq_true rfl)⟩) [0, 4] [1, 2, 3] rfl rfl rfl rfl (by decide) 0 rfl rfl rfl rfl hl.1 rfl (Nat.le_of_ble_eq_true rfl) dX5_level_36 ⟨(Nat.le_of_ble_eq_true rfl), (Nat.le_of_ble_eq_true rfl)⟩ (fun v_3 u_3 H locs w_3 hP hD hS => ?_)
      have w_3 : v_3 = some (.int (-3)) := w_3
      subst w_3
      have hP : va_P D vwCl [(ob, .inr (5, [.ref b, .ref p_, .ref h, .ref ro, .ref rr, .ref qe])), (b, .inr (4, [.ref qh, .ref qb, .int (nI n), .int as_])), (qh, .inl (cI, 24, .inl hs)), (qb, .inl (cI, 24, .inl bs)), (qe, .inl (cI, 4, .inl (bad er 1)))] H := hP.sub [3, 0, 1, 2, 4] rfl
      have hD : va_D A [(ob, .inr (5, [.ref b, .ref p_, .ref h, .ref ro, .ref rr, .ref qe])), (b, .inr (4, [.ref qh, .ref qb, .int (nI n), .int as_])), (qh, .inl (cI, 24, .inl hs)), (qb, .inl (cI, 24, .inl bs)), (qe, .inl (cI, 4, .inl (bad er 1)))] := hD.sub [3, 0, 1, 2, 4] rfl rfl
      refine W.eq (g2 := F0 m 39 ls [.int (-3)]) rfl ?_
      exact hret _ () _ _ _ _ (by rw [isA_of ha, hm]; rfl) (by rw [isA_of ha, hm]; exact hP) (by rw [isA_of ha, hm]; exact hD) hS dX5_level_39
    · skip
      have c_2 : (has (mdl hs bs n) (nI a)) = true := bI_t.mp c_2
      have hm : has (mdl hs bs n) (nI a) = true := c_2
      have hlv := lev_spec ha hm
      refine lv_aload_n hx hb dX5_level_22 rfl (lv_at hl 0 rfl) ?_
      refine va_get (D := D) (ci := 5) (v := .ref b) (C := RX5) (T := TX5) (N := 6) hx hb hts ilX5_level_5 hown hG.1 hP 0 rfl rfl 0 (by decide) (hts (.fieldLink RX5 10 "HornEngine" "current" "LHornEngine$Rulebook;") (List.mem_of_getElem? (i := 1) rfl)) (fun _ h9 => h9) rfl dX5_level_23 ?_
      refine lv_iload_n hx hb dX5_level_26 rfl (lv_at hl 1 rfl) ?_
      refine pu_V (As := [.int (nI a)]) (rest := []) ⟨hx, hb, hml, hown, hts⟩ hG hP (k_X4_levelOf l D cI cB b qh qb hs bs n as_ a (lev hs bs n a) (by omega) hlv.1 hlv.2.1 hlv.2.2) (cwV 1 hts gX5_level_X4_levelOf rfl rfl rfl (by decide +kernel) ⟨(Nat.le_of_ble_eq_true rfl), (Nat.le_of_ble_eq_true rfl)⟩) [1, 2, 3] rfl 1 rfl rfl rfl rfl hl.1 rfl (Nat.le_of_ble_eq_true rfl) dX5_level_27 ⟨Nat.zero_le _, Nat.zero_le _⟩ ?_
      refine lv_goto (tgt := 39) hx hb dX5_level_30 (by decide) ?_
      exact hret _ () _ _ _ _ (by rw [isA_of ha, hm, nI_clamp (by omega)]; rfl) (by rw [isA_of ha, hm]; exact hP) (by rw [isA_of ha, hm]; exact hD) hS dX5_level_39
  · skip
    have c_1 : (isA at_) = false := bI_f.mp c_1
    have hc : isA at_ = false := c_1
    refine lv_aload_n hx hb dX5_level_7 rfl (lv_at hl 0 rfl) ?_
    refine lv_bipush (v := (-2)) hx hb dX5_level_8 (by decide) ?_
    refine ef_V (As := [.int (-2)]) (rest := []) (wr := [(b, .inr (4, [.ref qh, .ref qb, .int (nI n), .int as_])), (qh, .inl (cI, 24, .inl hs)), (qb, .inl (cI, 24, .inl bs))]) ⟨hx, hb, hml, hown, hts⟩ hG hP hD hS hA (k_X5_fail l D cI cB ob p_ h ro rr qe b er (-2) 0 (by decide) (by decide) _) (cwV 1 hts gX5_level_X5_fail rfl rfl rfl (by decide +kernel) ⟨(Nat.le_of_ble_eq_true rfl), (Nat.le_of_ble_eq_true rfl)⟩) [0, 4] [1, 2, 3] rfl rfl rfl rfl (by decide) 0 rfl rfl rfl rfl hl.1 rfl (Nat.le_of_ble_eq_true rfl) dX5_level_10 ⟨(Nat.le_of_ble_eq_true rfl), (Nat.le_of_ble_eq_true rfl)⟩ (fun v_4 u_4 H locs w_4 hP hD hS => ?_)
    have w_4 : v_4 = some (.int (-2)) := w_4
    subst w_4
    have hP : va_P D vwCl [(ob, .inr (5, [.ref b, .ref p_, .ref h, .ref ro, .ref rr, .ref qe])), (b, .inr (4, [.ref qh, .ref qb, .int (nI n), .int as_])), (qh, .inl (cI, 24, .inl hs)), (qb, .inl (cI, 24, .inl bs)), (qe, .inl (cI, 4, .inl (bad er 0)))] H := hP.sub [3, 0, 1, 2, 4] rfl
    have hD : va_D A [(ob, .inr (5, [.ref b, .ref p_, .ref h, .ref ro, .ref rr, .ref qe])), (b, .inr (4, [.ref qh, .ref qb, .int (nI n), .int as_])), (qh, .inl (cI, 24, .inl hs)), (qb, .inl (cI, 24, .inl bs)), (qe, .inl (cI, 4, .inl (bad er 0)))] := hD.sub [3, 0, 1, 2, 4] rfl rfl
    refine W.eq (g2 := F0 m 13 ls [.int (-2)]) rfl ?_
    exact hret _ () _ _ _ _ (by rw [hc]; rfl) (by rw [hc]; exact hP) (by rw [hc]; exact hD) hS dX5_level_13
set_option maxHeartbeats 4000000 in
set_option maxRecDepth 100000 in
theorem k_X5_reason (l : Launch) (D : va_G) (cI cB : ClassId) (ob : Nat) (p_ : Nat) (h : Nat) (ro : Nat) (rr : Nat) (qe : Nat) (b : Nat) (qh : Nat) (qb : Nat) (hs : Nat → Int32) (bs : Nat → Int32) (n : Nat) (as_ : Int32) (er : Nat → Int32) (at_ : Int32) (hn : n ≤ 24) (sz : Nat) : Wr l yX5_reason wsX5_reason ({ frames := 5, cells := 0, slots := 0, locals := 111 }) D cI cB [.ref ob, .int at_] [(ob, .inr (5, [.ref b, .ref p_, .ref h, .ref ro, .ref rr, .ref qe])), (b, .inr (4, [.ref qh, .ref qb, .int (nI n), .int as_])), (qh, .inl (cI, 24, .inl hs)), (qb, .inl (cI, 24, .inl bs)), (qe, .inl (cI, 4, .inl er))] sz (S := Unit) (fun v u => v = some (.int (cond (isA at_) (cond (has (mdl hs bs n) at_) (reaF hs bs n at_.toNatClampNeg n) (-3)) (-2)))) (fun u => [(ob, .inr (5, [.ref b, .ref p_, .ref h, .ref ro, .ref rr, .ref qe])), (b, .inr (4, [.ref qh, .ref qb, .int (nI n), .int as_])), (qh, .inl (cI, 24, .inl hs)), (qb, .inl (cI, 24, .inl bs)), (qe, .inl (cI, 4, .inl (cond (isA at_) (cond (has (mdl hs bs n) at_) er (bad er 1)) (bad er 0))))]) 0 0 := by
  refine ef_startI (cc := cX5_reason) (maxL := 2) (by decide) rfl (Nat.le_of_ble_eq_true rfl) ?_
  intro p e s m args below meth c Q A hx hb hml hown hts hP hG hD hA hret ls hl
  have hown : s.vm.findClass RX5 = some m.cls := hown
  have hl : lv_has ls 2 [(0, .ref ob), (1, .int at_)] := hl
  have hS : va_S A s.heap s.heap [] := va_S.rf
  refine lv_iload_n hx hb dX5_reason_0 rfl (lv_at hl 1 rfl) ?_
  refine pu_S (As := [.int at_]) (rest := []) ⟨hx, hb, hml, hown, hts⟩ hG hP (k_X5_isAtom l D cI cB at_ ) (cwS 1 hts gX5_reason_X5_isAtom rfl rfl rfl (by decide +kernel) ⟨(Nat.le_of_ble_eq_true rfl), (Nat.le_of_ble_eq_true rfl)⟩) [] rfl rfl hl.1 rfl (Nat.le_of_ble_eq_true rfl) dX5_reason_1 ⟨Nat.zero_le _, Nat.zero_le _⟩ ?_
  refine lv_if_ne (tgt := 14) hx hb dX5_reason_4 (by decide) (fun c_1 => ?_) (fun c_1 => ?_)
  · skip
    have c_1 : (isA at_) = true := bI_t.mp c_1
    obtain ⟨a, ha, rfl⟩ := isA_nat c_1
    refine lv_aload_n hx hb dX5_reason_14 rfl (lv_at hl 0 rfl) ?_
    refine lv_iload_n hx hb dX5_reason_15 rfl (lv_at hl 1 rfl) ?_
    refine pu_V (As := [.int (nI a)]) (rest := []) ⟨hx, hb, hml, hown, hts⟩ hG hP (k_X5_isDerived l D cI cB ob p_ h ro rr qe b qh qb hs bs n as_ (nI a) (by omega)) (cwV 1 hts gX5_reason_X5_isDerived rfl rfl rfl (by decide +kernel) ⟨(Nat.le_of_ble_eq_true rfl), (Nat.le_of_ble_eq_true rfl)⟩) [0, 1, 2, 3] rfl 0 rfl rfl rfl rfl hl.1 rfl (Nat.le_of_ble_eq_true rfl) dX5_reason_16 ⟨Nat.zero_le _, Nat.zero_le _⟩ ?_
    refine lv_if_eq (tgt := 33) hx hb dX5_reason_19 (by decide) (fun c_2 => ?_) (fun c_2 => ?_)
    · skip
      have c_2 : (has (mdl hs bs n) (nI a)) = false := bI_f.mp c_2
      have hm : has (mdl hs bs n) (nI a) = false := c_2
      refine lv_aload_n hx hb dX5_reason_33 rfl (lv_at hl 0 rfl) ?_
      refine lv_bipush (v := (-3)) hx hb dX5_reason_34 (by decide) ?_
      refine ef_V (As := [.int (-3)]) (rest := []) (wr := [(b, .inr (4, [.ref qh, .ref qb, .int (nI n), .int as_])), (qh, .inl (cI, 24, .inl hs)), (qb, .inl (cI, 24, .inl bs))]) ⟨hx, hb, hml, hown, hts⟩ hG hP hD hS hA (k_X5_fail l D cI cB ob p_ h ro rr qe b er (-3) 1 (by decide) (by decide) _) (cwV 1 hts gX5_reason_X5_fail rfl rfl rfl (by decide +kernel) ⟨(Nat.le_of_ble_eq_true rfl), (Nat.le_of_ble_eq_true rfl)⟩) [0, 4] [1, 2, 3] rfl rfl rfl rfl (by decide) 0 rfl rfl rfl rfl hl.1 rfl (Nat.le_of_ble_eq_true rfl) dX5_reason_36 ⟨(Nat.le_of_ble_eq_true rfl), (Nat.le_of_ble_eq_true rfl)⟩ (fun v_3 u_3 H locs w_3 hP hD hS => ?_)
      have w_3 : v_3 = some (.int (-3)) := w_3
      subst w_3
      have hP : va_P D vwCl [(ob, .inr (5, [.ref b, .ref p_, .ref h, .ref ro, .ref rr, .ref qe])), (b, .inr (4, [.ref qh, .ref qb, .int (nI n), .int as_])), (qh, .inl (cI, 24, .inl hs)), (qb, .inl (cI, 24, .inl bs)), (qe, .inl (cI, 4, .inl (bad er 1)))] H := hP.sub [3, 0, 1, 2, 4] rfl
      have hD : va_D A [(ob, .inr (5, [.ref b, .ref p_, .ref h, .ref ro, .ref rr, .ref qe])), (b, .inr (4, [.ref qh, .ref qb, .int (nI n), .int as_])), (qh, .inl (cI, 24, .inl hs)), (qb, .inl (cI, 24, .inl bs)), (qe, .inl (cI, 4, .inl (bad er 1)))] := hD.sub [3, 0, 1, 2, 4] rfl rfl
      refine W.eq (g2 := F0 m 39 ls [.int (-3)]) rfl ?_
      exact hret _ () _ _ _ _ (by rw [isA_of ha, hm]; rfl) (by rw [isA_of ha, hm]; exact hP) (by rw [isA_of ha, hm]; exact hD) hS dX5_reason_39
    · skip
      have c_2 : (has (mdl hs bs n) (nI a)) = true := bI_t.mp c_2
      have hm : has (mdl hs bs n) (nI a) = true := c_2
      have hlv := lev_spec ha hm
      refine lv_aload_n hx hb dX5_reason_22 rfl (lv_at hl 0 rfl) ?_
      refine va_get (D := D) (ci := 5) (v := .ref b) (C := RX5) (T := TX5) (N := 6) hx hb hts ilX5_reason_5 hown hG.1 hP 0 rfl rfl 0 (by decide) (hts (.fieldLink RX5 10 "HornEngine" "current" "LHornEngine$Rulebook;") (List.mem_of_getElem? (i := 1) rfl)) (fun _ h9 => h9) rfl dX5_reason_23 ?_
      refine lv_iload_n hx hb dX5_reason_26 rfl (lv_at hl 1 rfl) ?_
      refine pu_V (As := [.int (nI a)]) (rest := []) ⟨hx, hb, hml, hown, hts⟩ hG hP (k_X4_reasonFor l D cI cB b qh qb hs bs n as_ a (by omega) (by omega)) (cwV 1 hts gX5_reason_X4_reasonFor rfl rfl rfl (by decide +kernel) ⟨(Nat.le_of_ble_eq_true rfl), (Nat.le_of_ble_eq_true rfl)⟩) [1, 2, 3] rfl 1 rfl rfl rfl rfl hl.1 rfl (Nat.le_of_ble_eq_true rfl) dX5_reason_27 ⟨Nat.zero_le _, Nat.zero_le _⟩ ?_
      refine lv_goto (tgt := 39) hx hb dX5_reason_30 (by decide) ?_
      exact hret _ () _ _ _ _ (by rw [isA_of ha, hm, nI_clamp (by omega)]; rfl) (by rw [isA_of ha, hm]; exact hP) (by rw [isA_of ha, hm]; exact hD) hS dX5_reason_39
  · skip
    have c_1 : (isA at_) = false := bI_f.mp c_1
    have hc : isA at_ = false := c_1
    refine lv_aload_n hx hb dX5_reason_7 rfl (lv_at hl 0 rfl) ?_
    refine lv_bipush (v := (-2)) hx hb dX5_reason_8 (by decide) ?_
    refine ef_V (As := [.int (-2)]) (rest := []) (wr := [(b, .inr (4, [.ref qh, .ref qb, .int (nI n), .int as_])), (qh, .inl (cI, 24, .inl hs)), (qb, .inl (cI, 24, .inl bs))]) ⟨hx, hb, hml, hown, hts⟩ hG hP hD hS hA (k_X5_fail l D cI cB ob p_ h ro rr qe b er (-2) 0 (by decide) (by decide) _) (cwV 1 hts gX5_reason_X5_fail rfl rfl rfl (by decide +kernel) ⟨(Nat.le_of_ble_eq_true rfl), (Nat.le_of_ble_eq_true rfl)⟩) [0, 4] [1, 2, 3] rfl rfl rfl rfl (by decide) 0 rfl rfl rfl rfl hl.1 rfl (Nat.le_of_ble_eq_true rfl) dX5_reason_10 ⟨(Nat.le_of_ble_eq_true rfl), (Nat.le_of_ble_eq_true rfl)⟩ (fun v_4 u_4 H locs w_4 hP hD hS => ?_)
    have w_4 : v_4 = some (.int (-2)) := w_4
    subst w_4
    have hP : va_P D vwCl [(ob, .inr (5, [.ref b, .ref p_, .ref h, .ref ro, .ref rr, .ref qe])), (b, .inr (4, [.ref qh, .ref qb, .int (nI n), .int as_])), (qh, .inl (cI, 24, .inl hs)), (qb, .inl (cI, 24, .inl bs)), (qe, .inl (cI, 4, .inl (bad er 0)))] H := hP.sub [3, 0, 1, 2, 4] rfl
    have hD : va_D A [(ob, .inr (5, [.ref b, .ref p_, .ref h, .ref ro, .ref rr, .ref qe])), (b, .inr (4, [.ref qh, .ref qb, .int (nI n), .int as_])), (qh, .inl (cI, 24, .inl hs)), (qb, .inl (cI, 24, .inl bs)), (qe, .inl (cI, 4, .inl (bad er 0)))] := hD.sub [3, 0, 1, 2, 4] rfl rfl
    refine W.eq (g2 := F0 m 13 ls [.int (-2)]) rfl ?_
    exact hret _ () _ _ _ _ (by rw [hc]; rfl) (by rw [hc]; exact hP) (by rw [hc]; exact hD) hS dX5_reason_13
set_option maxHeartbeats 4000000 in
set_option maxRecDepth 100000 in
theorem k_X5_necessary (l : Launch) (D : va_G) (cI cB : ClassId) (ob : Nat) (p_ : Nat) (h : Nat) (ro : Nat) (rr : Nat) (qe : Nat) (b : Nat) (qh : Nat) (qb : Nat) (hs : Nat → Int32) (bs : Nat → Int32) (n : Nat) (as_ : Int32) (er : Nat → Int32) (at_ : Int32) (hn : n ≤ 24) (sz : Nat) : Wr l yX5_necessary wsX5_necessary ({ frames := 5, cells := 0, slots := 0, locals := 114 }) D cI cB [.ref ob, .int at_] [(ob, .inr (5, [.ref b, .ref p_, .ref h, .ref ro, .ref rr, .ref qe])), (b, .inr (4, [.ref qh, .ref qb, .int (nI n), .int as_])), (qh, .inl (cI, 24, .inl hs)), (qb, .inl (cI, 24, .inl bs)), (qe, .inl (cI, 4, .inl er))] sz (S := Unit) (fun v u => v = some (.int (cond (isA at_) (cond (has (mdl hs bs n) at_) (necF hs bs n at_.toNatClampNeg n) (-3)) (-2)))) (fun u => [(ob, .inr (5, [.ref b, .ref p_, .ref h, .ref ro, .ref rr, .ref qe])), (b, .inr (4, [.ref qh, .ref qb, .int (nI n), .int as_])), (qh, .inl (cI, 24, .inl hs)), (qb, .inl (cI, 24, .inl bs)), (qe, .inl (cI, 4, .inl (cond (isA at_) (cond (has (mdl hs bs n) at_) er (bad er 1)) (bad er 0))))]) 0 0 := by
  refine ef_startI (cc := cX5_necessary) (maxL := 2) (by decide) rfl (Nat.le_of_ble_eq_true rfl) ?_
  intro p e s m args below meth c Q A hx hb hml hown hts hP hG hD hA hret ls hl
  have hown : s.vm.findClass RX5 = some m.cls := hown
  have hl : lv_has ls 2 [(0, .ref ob), (1, .int at_)] := hl
  have hS : va_S A s.heap s.heap [] := va_S.rf
  refine lv_iload_n hx hb dX5_necessary_0 rfl (lv_at hl 1 rfl) ?_
  refine pu_S (As := [.int at_]) (rest := []) ⟨hx, hb, hml, hown, hts⟩ hG hP (k_X5_isAtom l D cI cB at_ ) (cwS 1 hts gX5_necessary_X5_isAtom rfl rfl rfl (by decide +kernel) ⟨(Nat.le_of_ble_eq_true rfl), (Nat.le_of_ble_eq_true rfl)⟩) [] rfl rfl hl.1 rfl (Nat.le_of_ble_eq_true rfl) dX5_necessary_1 ⟨Nat.zero_le _, Nat.zero_le _⟩ ?_
  refine lv_if_ne (tgt := 14) hx hb dX5_necessary_4 (by decide) (fun c_1 => ?_) (fun c_1 => ?_)
  · skip
    have c_1 : (isA at_) = true := bI_t.mp c_1
    obtain ⟨a, ha, rfl⟩ := isA_nat c_1
    refine lv_aload_n hx hb dX5_necessary_14 rfl (lv_at hl 0 rfl) ?_
    refine lv_iload_n hx hb dX5_necessary_15 rfl (lv_at hl 1 rfl) ?_
    refine pu_V (As := [.int (nI a)]) (rest := []) ⟨hx, hb, hml, hown, hts⟩ hG hP (k_X5_isDerived l D cI cB ob p_ h ro rr qe b qh qb hs bs n as_ (nI a) (by omega)) (cwV 1 hts gX5_necessary_X5_isDerived rfl rfl rfl (by decide +kernel) ⟨(Nat.le_of_ble_eq_true rfl), (Nat.le_of_ble_eq_true rfl)⟩) [0, 1, 2, 3] rfl 0 rfl rfl rfl rfl hl.1 rfl (Nat.le_of_ble_eq_true rfl) dX5_necessary_16 ⟨Nat.zero_le _, Nat.zero_le _⟩ ?_
    refine lv_if_eq (tgt := 33) hx hb dX5_necessary_19 (by decide) (fun c_2 => ?_) (fun c_2 => ?_)
    · skip
      have c_2 : (has (mdl hs bs n) (nI a)) = false := bI_f.mp c_2
      have hm : has (mdl hs bs n) (nI a) = false := c_2
      refine lv_aload_n hx hb dX5_necessary_33 rfl (lv_at hl 0 rfl) ?_
      refine lv_bipush (v := (-3)) hx hb dX5_necessary_34 (by decide) ?_
      refine ef_V (As := [.int (-3)]) (rest := []) (wr := [(b, .inr (4, [.ref qh, .ref qb, .int (nI n), .int as_])), (qh, .inl (cI, 24, .inl hs)), (qb, .inl (cI, 24, .inl bs))]) ⟨hx, hb, hml, hown, hts⟩ hG hP hD hS hA (k_X5_fail l D cI cB ob p_ h ro rr qe b er (-3) 1 (by decide) (by decide) _) (cwV 1 hts gX5_necessary_X5_fail rfl rfl rfl (by decide +kernel) ⟨(Nat.le_of_ble_eq_true rfl), (Nat.le_of_ble_eq_true rfl)⟩) [0, 4] [1, 2, 3] rfl rfl rfl rfl (by decide) 0 rfl rfl rfl rfl hl.1 rfl (Nat.le_of_ble_eq_true rfl) dX5_necessary_36 ⟨(Nat.le_of_ble_eq_true rfl), (Nat.le_of_ble_eq_true rfl)⟩ (fun v_3 u_3 H locs w_3 hP hD hS => ?_)
      have w_3 : v_3 = some (.int (-3)) := w_3
      subst w_3
      have hP : va_P D vwCl [(ob, .inr (5, [.ref b, .ref p_, .ref h, .ref ro, .ref rr, .ref qe])), (b, .inr (4, [.ref qh, .ref qb, .int (nI n), .int as_])), (qh, .inl (cI, 24, .inl hs)), (qb, .inl (cI, 24, .inl bs)), (qe, .inl (cI, 4, .inl (bad er 1)))] H := hP.sub [3, 0, 1, 2, 4] rfl
      have hD : va_D A [(ob, .inr (5, [.ref b, .ref p_, .ref h, .ref ro, .ref rr, .ref qe])), (b, .inr (4, [.ref qh, .ref qb, .int (nI n), .int as_])), (qh, .inl (cI, 24, .inl hs)), (qb, .inl (cI, 24, .inl bs)), (qe, .inl (cI, 4, .inl (bad er 1)))] := hD.sub [3, 0, 1, 2, 4] rfl rfl
      refine W.eq (g2 := F0 m 39 ls [.int (-3)]) rfl ?_
      exact hret _ () _ _ _ _ (by rw [isA_of ha, hm]; rfl) (by rw [isA_of ha, hm]; exact hP) (by rw [isA_of ha, hm]; exact hD) hS dX5_necessary_39
    · skip
      have c_2 : (has (mdl hs bs n) (nI a)) = true := bI_t.mp c_2
      have hm : has (mdl hs bs n) (nI a) = true := c_2
      have hlv := lev_spec ha hm
      refine lv_aload_n hx hb dX5_necessary_22 rfl (lv_at hl 0 rfl) ?_
      refine va_get (D := D) (ci := 5) (v := .ref b) (C := RX5) (T := TX5) (N := 6) hx hb hts ilX5_necessary_5 hown hG.1 hP 0 rfl rfl 0 (by decide) (hts (.fieldLink RX5 10 "HornEngine" "current" "LHornEngine$Rulebook;") (List.mem_of_getElem? (i := 1) rfl)) (fun _ h9 => h9) rfl dX5_necessary_23 ?_
      refine lv_iload_n hx hb dX5_necessary_26 rfl (lv_at hl 1 rfl) ?_
      refine pu_V (As := [.int (nI a)]) (rest := []) ⟨hx, hb, hml, hown, hts⟩ hG hP (k_X4_necessaryFor l D cI cB b qh qb hs bs n as_ a (by omega) (by omega)) (cwV 1 hts gX5_necessary_X4_necessaryFor rfl rfl rfl (by decide +kernel) ⟨(Nat.le_of_ble_eq_true rfl), (Nat.le_of_ble_eq_true rfl)⟩) [1, 2, 3] rfl 1 rfl rfl rfl rfl hl.1 rfl (Nat.le_of_ble_eq_true rfl) dX5_necessary_27 ⟨Nat.zero_le _, Nat.zero_le _⟩ ?_
      refine lv_goto (tgt := 39) hx hb dX5_necessary_30 (by decide) ?_
      exact hret _ () _ _ _ _ (by rw [isA_of ha, hm, nI_clamp (by omega)]; rfl) (by rw [isA_of ha, hm]; exact hP) (by rw [isA_of ha, hm]; exact hD) hS dX5_necessary_39
  · skip
    have c_1 : (isA at_) = false := bI_f.mp c_1
    have hc : isA at_ = false := c_1
    refine lv_aload_n hx hb dX5_necessary_7 rfl (lv_at hl 0 rfl) ?_
    refine lv_bipush (v := (-2)) hx hb dX5_necessary_8 (by decide) ?_
    refine ef_V (As := [.int (-2)]) (rest := []) (wr := [(b, .inr (4, [.ref qh, .ref qb, .int (nI n), .int as_])), (qh, .inl (cI, 24, .inl hs)), (qb, .inl (cI, 24, .inl bs))]) ⟨hx, hb, hml, hown, hts⟩ hG hP hD hS hA (k_X5_fail l D cI cB ob p_ h ro rr qe b er (-2) 0 (by decide) (by decide) _) (cwV 1 hts gX5_necessary_X5_fail rfl rfl rfl (by decide +kernel) ⟨(Nat.le_of_ble_eq_true rfl), (Nat.le_of_ble_eq_true rfl)⟩) [0, 4] [1, 2, 3] rfl rfl rfl rfl (by decide) 0 rfl rfl rfl rfl hl.1 rfl (Nat.le_of_ble_eq_true rfl) dX5_necessary_10 ⟨(Nat.le_of_ble_eq_true rfl), (Nat.le_of_ble_eq_true rfl)⟩ (fun v_4 u_4 H locs w_4 hP hD hS => ?_)
    have w_4 : v_4 = some (.int (-2)) := w_4
    subst w_4
    have hP : va_P D vwCl [(ob, .inr (5, [.ref b, .ref p_, .ref h, .ref ro, .ref rr, .ref qe])), (b, .inr (4, [.ref qh, .ref qb, .int (nI n), .int as_])), (qh, .inl (cI, 24, .inl hs)), (qb, .inl (cI, 24, .inl bs)), (qe, .inl (cI, 4, .inl (bad er 0)))] H := hP.sub [3, 0, 1, 2, 4] rfl
    have hD : va_D A [(ob, .inr (5, [.ref b, .ref p_, .ref h, .ref ro, .ref rr, .ref qe])), (b, .inr (4, [.ref qh, .ref qb, .int (nI n), .int as_])), (qh, .inl (cI, 24, .inl hs)), (qb, .inl (cI, 24, .inl bs)), (qe, .inl (cI, 4, .inl (bad er 0)))] := hD.sub [3, 0, 1, 2, 4] rfl rfl
    refine W.eq (g2 := F0 m 13 ls [.int (-2)]) rfl ?_
    exact hret _ () _ _ _ _ (by rw [hc]; rfl) (by rw [hc]; exact hP) (by rw [hc]; exact hD) hS dX5_necessary_13
set_option maxHeartbeats 4000000 in
set_option maxRecDepth 100000 in
theorem k_X5_gained (l : Launch) (D : va_G) (cI cB : ClassId) (ob : Nat) (p_ : Nat) (h : Nat) (ro : Nat) (rr : Nat) (qe : Nat) (b : Nat) (qh : Nat) (qb : Nat) (hs : Nat → Int32) (bs : Nat → Int32) (n : Nat) (as_ : Int32) (er : Nat → Int32) (hd_ : Int32) (bd_ : Int32) (hn : n ≤ 24) (sz : Nat) : Wr l yX5_gained wsX5_gained ({ frames := 5, cells := 0, slots := 0, locals := 113 }) D cI cB [.ref ob, .int hd_, .int bd_] [(ob, .inr (5, [.ref b, .ref p_, .ref h, .ref ro, .ref rr, .ref qe])), (b, .inr (4, [.ref qh, .ref qb, .int (nI n), .int as_])), (qh, .inl (cI, 24, .inl hs)), (qb, .inl (cI, 24, .inl bs)), (qe, .inl (cI, 4, .inl er))] sz (S := Unit) (fun v u => v = some (.int (cond (isA hd_ && isS bd_ (nI 4)) (gnd hs bs n hd_ bd_) (-2)))) (fun u => [(ob, .inr (5, [.ref b, .ref p_, .ref h, .ref ro, .ref rr, .ref qe])), (b, .inr (4, [.ref qh, .ref qb, .int (nI n), .int as_])), (qh, .inl (cI, 24, .inl hs)), (qb, .inl (cI, 24, .inl bs)), (qe, .inl (cI, 4, .inl (cond (isA hd_ && isS bd_ (nI 4)) er (bad er 0))))]) 0 0 := by
  refine ef_startI (cc := cX5_gained) (maxL := 3) (by decide) rfl (Nat.le_of_ble_eq_true rfl) ?_
  intro p e s m args below meth c Q A hx hb hml hown hts hP hG hD hA hret ls hl
  have hown : s.vm.findClass RX5 = some m.cls := hown
  have hl : lv_has ls 3 [(0, .ref ob), (1, .int hd_), (2, .int bd_)] := hl
  have hS : va_S A s.heap s.heap [] := va_S.rf
  refine lv_iload_n hx hb dX5_gained_0 rfl (lv_at hl 1 rfl) ?_
  refine pu_S (As := [.int hd_]) (rest := []) ⟨hx, hb, hml, hown, hts⟩ hG hP (k_X5_isAtom l D cI cB hd_ ) (cwS 1 hts gX5_gained_X5_isAtom rfl rfl rfl (by decide +kernel) ⟨(Nat.le_of_ble_eq_true rfl), (Nat.le_of_ble_eq_true rfl)⟩) [] rfl rfl hl.1 rfl (Nat.le_of_ble_eq_true rfl) dX5_gained_1 ⟨Nat.zero_le _, Nat.zero_le _⟩ ?_
  refine lv_if_eq (tgt := 15) hx hb dX5_gained_4 (by decide) (fun c_1 => ?_) (fun c_1 => ?_)
  · skip
    have c_1 : (isA hd_) = false := bI_f.mp c_1
    have hk0 : (isA hd_ && isS bd_ (nI 4)) = false := by rw [c_1]; rfl
    refine lv_aload_n hx hb dX5_gained_15 rfl (lv_at hl 0 rfl) ?_
    refine lv_bipush (v := (-2)) hx hb dX5_gained_16 (by decide) ?_
    refine ef_V (As := [.int (-2)]) (rest := []) (wr := [(b, .inr (4, [.ref qh, .ref qb, .int (nI n), .int as_])), (qh, .inl (cI, 24, .inl hs)), (qb, .inl (cI, 24, .inl bs))]) ⟨hx, hb, hml, hown, hts⟩ hG hP hD hS hA (k_X5_fail l D cI cB ob p_ h ro rr qe b er (-2) 0 (by decide) (by decide) _) (cwV 1 hts gX5_gained_X5_fail rfl rfl rfl (by decide +kernel) ⟨(Nat.le_of_ble_eq_true rfl), (Nat.le_of_ble_eq_true rfl)⟩) [0, 4] [1, 2, 3] rfl rfl rfl rfl (by decide) 0 rfl rfl rfl rfl hl.1 rfl (Nat.le_of_ble_eq_true rfl) dX5_gained_18 ⟨(Nat.le_of_ble_eq_true rfl), (Nat.le_of_ble_eq_true rfl)⟩ (fun v_2 u_2 H locs w_2 hP hD hS => ?_)
    have w_2 : v_2 = some (.int (-2)) := w_2
    subst w_2
    have hP : va_P D vwCl [(ob, .inr (5, [.ref b, .ref p_, .ref h, .ref ro, .ref rr, .ref qe])), (b, .inr (4, [.ref qh, .ref qb, .int (nI n), .int as_])), (qh, .inl (cI, 24, .inl hs)), (qb, .inl (cI, 24, .inl bs)), (qe, .inl (cI, 4, .inl (bad er 0)))] H := hP.sub [3, 0, 1, 2, 4] rfl
    have hD : va_D A [(ob, .inr (5, [.ref b, .ref p_, .ref h, .ref ro, .ref rr, .ref qe])), (b, .inr (4, [.ref qh, .ref qb, .int (nI n), .int as_])), (qh, .inl (cI, 24, .inl hs)), (qb, .inl (cI, 24, .inl bs)), (qe, .inl (cI, 4, .inl (bad er 0)))] := hD.sub [3, 0, 1, 2, 4] rfl rfl
    refine W.eq (g2 := F0 m 21 ls [.int (-2)]) rfl ?_
    exact hret _ () _ _ _ _ (by rw [hk0]; rfl) (by rw [hk0]; exact hP) (by rw [hk0]; exact hD) hS dX5_gained_21
  · skip
    have c_1 : (isA hd_) = true := bI_t.mp c_1
    have hA1 := c_1
    refine lv_iload_n hx hb dX5_gained_7 rfl (lv_at hl 2 rfl) ?_
    refine lv_iconst (v := nI 4) hx hb dX5_gained_8 (by decide) ?_
    refine pu_S (As := [.int bd_, .int (nI 4)]) (rest := []) ⟨hx, hb, hml, hown, hts⟩ hG hP (k_X5_isAtomSet l D cI cB bd_ (nI 4) ) (cwS 2 hts gX5_gained_X5_isAtomSet rfl rfl rfl (by decide +kernel) ⟨(Nat.le_of_ble_eq_true rfl), (Nat.le_of_ble_eq_true rfl)⟩) [] rfl rfl hl.1 rfl (Nat.le_of_ble_eq_true rfl) dX5_gained_9 ⟨Nat.zero_le _, Nat.zero_le _⟩ ?_
    refine lv_if_ne (tgt := 22) hx hb dX5_gained_12 (by decide) (fun c_3 => ?_) (fun c_3 => ?_)
    · skip
      have c_3 : (isS bd_ (nI 4)) = true := bI_t.mp c_3
      have hk1 : (isA hd_ && isS bd_ (nI 4)) = true := by rw [hA1, c_3]; rfl
      refine lv_aload_n hx hb dX5_gained_22 rfl (lv_at hl 0 rfl) ?_
      refine va_get (D := D) (ci := 5) (v := .ref b) (C := RX5) (T := TX5) (N := 6) hx hb hts ilX5_gained_5 hown hG.1 hP 0 rfl rfl 0 (by decide) (hts (.fieldLink RX5 10 "HornEngine" "current" "LHornEngine$Rulebook;") (List.mem_of_getElem? (i := 1) rfl)) (fun _ h9 => h9) rfl dX5_gained_23 ?_
      refine lv_iload_n hx hb dX5_gained_26 rfl (lv_at hl 1 rfl) ?_
      refine lv_iload_n hx hb dX5_gained_27 rfl (lv_at hl 2 rfl) ?_
      refine pu_V (As := [.int hd_, .int bd_]) (rest := []) ⟨hx, hb, hml, hown, hts⟩ hG hP (k_X4_gainedWith l D cI cB b qh qb hs bs n as_ hd_ bd_ (by omega)) (cwV 2 hts gX5_gained_X4_gainedWith rfl rfl rfl (by decide +kernel) ⟨(Nat.le_of_ble_eq_true rfl), (Nat.le_of_ble_eq_true rfl)⟩) [1, 2, 3] rfl 1 rfl rfl rfl rfl hl.1 rfl (Nat.le_of_ble_eq_true rfl) dX5_gained_28 ⟨Nat.zero_le _, Nat.zero_le _⟩ ?_
      exact hret _ () _ _ _ _ (by rw [hk1]; rfl) (by rw [hk1]; exact hP) (by rw [hk1]; exact hD) hS dX5_gained_31
    · skip
      have c_3 : (isS bd_ (nI 4)) = false := bI_f.mp c_3
      have hk0 : (isA hd_ && isS bd_ (nI 4)) = false := by rw [c_3]; exact Bool.and_false _
      refine lv_aload_n hx hb dX5_gained_15 rfl (lv_at hl 0 rfl) ?_
      refine lv_bipush (v := (-2)) hx hb dX5_gained_16 (by decide) ?_
      refine ef_V (As := [.int (-2)]) (rest := []) (wr := [(b, .inr (4, [.ref qh, .ref qb, .int (nI n), .int as_])), (qh, .inl (cI, 24, .inl hs)), (qb, .inl (cI, 24, .inl bs))]) ⟨hx, hb, hml, hown, hts⟩ hG hP hD hS hA (k_X5_fail l D cI cB ob p_ h ro rr qe b er (-2) 0 (by decide) (by decide) _) (cwV 1 hts gX5_gained_X5_fail rfl rfl rfl (by decide +kernel) ⟨(Nat.le_of_ble_eq_true rfl), (Nat.le_of_ble_eq_true rfl)⟩) [0, 4] [1, 2, 3] rfl rfl rfl rfl (by decide) 0 rfl rfl rfl rfl hl.1 rfl (Nat.le_of_ble_eq_true rfl) dX5_gained_18 ⟨(Nat.le_of_ble_eq_true rfl), (Nat.le_of_ble_eq_true rfl)⟩ (fun v_4 u_4 H locs w_4 hP hD hS => ?_)
      have w_4 : v_4 = some (.int (-2)) := w_4
      subst w_4
      have hP : va_P D vwCl [(ob, .inr (5, [.ref b, .ref p_, .ref h, .ref ro, .ref rr, .ref qe])), (b, .inr (4, [.ref qh, .ref qb, .int (nI n), .int as_])), (qh, .inl (cI, 24, .inl hs)), (qb, .inl (cI, 24, .inl bs)), (qe, .inl (cI, 4, .inl (bad er 0)))] H := hP.sub [3, 0, 1, 2, 4] rfl
      have hD : va_D A [(ob, .inr (5, [.ref b, .ref p_, .ref h, .ref ro, .ref rr, .ref qe])), (b, .inr (4, [.ref qh, .ref qb, .int (nI n), .int as_])), (qh, .inl (cI, 24, .inl hs)), (qb, .inl (cI, 24, .inl bs)), (qe, .inl (cI, 4, .inl (bad er 0)))] := hD.sub [3, 0, 1, 2, 4] rfl rfl
      refine W.eq (g2 := F0 m 21 ls [.int (-2)]) rfl ?_
      exact hret _ () _ _ _ _ (by rw [hk0]; rfl) (by rw [hk0]; exact hP) (by rw [hk0]; exact hD) hS dX5_gained_21
set_option maxHeartbeats 4000000 in
set_option maxRecDepth 100000 in
theorem k_X5_explanation (l : Launch) (D : va_G) (cI cB : ClassId) (ob : Nat) (p_ : Nat) (h : Nat) (ro : Nat) (rr : Nat) (qe : Nat) (b : Nat) (qh : Nat) (qb : Nat) (hs : Nat → Int32) (bs : Nat → Int32) (n : Nat) (as_ : Int32) (er : Nat → Int32) (at_ : Int32) (ct : Nat) (hn : n ≤ 24) (hct : nI 1 <<< (bc as_ &&& 31) = nI ct) (hc2 : ct ≤ 256) (sz : Nat) : Wr l yX5_explanation wsX5_explanation ({ frames := 4, cells := 0, slots := 0, locals := 97 }) D cI cB [.ref ob, .int at_] [(ob, .inr (5, [.ref b, .ref p_, .ref h, .ref ro, .ref rr, .ref qe])), (b, .inr (4, [.ref qh, .ref qb, .int (nI n), .int as_])), (qh, .inl (cI, 24, .inl hs)), (qb, .inl (cI, 24, .inl bs)), (qe, .inl (cI, 4, .inl er))] sz (S := Unit) (fun v u => v = some (.int (cond (isA at_) (if expS hs bs n as_ at_.toNatClampNeg ct = -1 then -3 else expS hs bs n as_ at_.toNatClampNeg ct) (-2)))) (fun u => [(ob, .inr (5, [.ref b, .ref p_, .ref h, .ref ro, .ref rr, .ref qe])), (b, .inr (4, [.ref qh, .ref qb, .int (nI n), .int as_])), (qh, .inl (cI, 24, .inl hs)), (qb, .inl (cI, 24, .inl bs)), (qe, .inl (cI, 4, .inl (cond (isA at_) (if expS hs bs n as_ at_.toNatClampNeg ct = -1 then bad er 1 else er) (bad er 0))))]) 0 0 := by
  refine ef_startI (cc := cX5_explanation) (maxL := 3) (by decide) rfl (Nat.le_of_ble_eq_true rfl) ?_
  intro p e s m args below meth c Q A hx hb hml hown hts hP hG hD hA hret ls hl
  have hown : s.vm.findClass RX5 = some m.cls := hown
  have hl : lv_has ls 3 [(0, .ref ob), (1, .int at_)] := hl
  have hS : va_S A s.heap s.heap [] := va_S.rf
  refine lv_iload_n hx hb dX5_explanation_0 rfl (lv_at hl 1 rfl) ?_
  refine pu_S (As := [.int at_]) (rest := []) ⟨hx, hb, hml, hown, hts⟩ hG hP (k_X5_isAtom l D cI cB at_ ) (cwS 1 hts gX5_explanation_X5_isAtom rfl rfl rfl (by decide +kernel) ⟨(Nat.le_of_ble_eq_true rfl), (Nat.le_of_ble_eq_true rfl)⟩) [] rfl rfl hl.1 rfl (Nat.le_of_ble_eq_true rfl) dX5_explanation_1 ⟨Nat.zero_le _, Nat.zero_le _⟩ ?_
  refine lv_if_ne (tgt := 14) hx hb dX5_explanation_4 (by decide) (fun c_1 => ?_) (fun c_1 => ?_)
  · skip
    have c_1 : (isA at_) = true := bI_t.mp c_1
    obtain ⟨a, ha, rfl⟩ := isA_nat c_1
    refine lv_aload_n hx hb dX5_explanation_14 rfl (lv_at hl 0 rfl) ?_
    refine va_get (D := D) (ci := 5) (v := .ref b) (C := RX5) (T := TX5) (N := 6) hx hb hts ilX5_explanation_5 hown hG.1 hP 0 rfl rfl 0 (by decide) (hts (.fieldLink RX5 10 "HornEngine" "current" "LHornEngine$Rulebook;") (List.mem_of_getElem? (i := 1) rfl)) (fun _ h9 => h9) rfl dX5_explanation_15 ?_
    refine lv_iload_n hx hb dX5_explanation_18 rfl (lv_at hl 1 rfl) ?_
    refine pu_V (As := [.int (nI a)]) (rest := []) ⟨hx, hb, hml, hown, hts⟩ hG hP (k_X4_bestExplanation l D cI cB b qh qb hs bs n as_ a ct (by omega) (by omega) hct (by omega)) (cwV 1 hts gX5_explanation_X4_bestExplanation rfl rfl rfl (by decide +kernel) ⟨(Nat.le_of_ble_eq_true rfl), (Nat.le_of_ble_eq_true rfl)⟩) [1, 2, 3] rfl 1 rfl rfl rfl rfl hl.1 rfl (Nat.le_of_ble_eq_true rfl) dX5_explanation_19 ⟨Nat.zero_le _, Nat.zero_le _⟩ ?_
    refine lv_istore_n (lv' := [(2, .int ((exB hs bs n as_ a ct).1)), (0, .ref ob), (1, .int (nI a))]) hx hb dX5_explanation_22 rfl hl (by decide) rfl (fun ls hl => ?_)
    refine lv_iload_n hx hb dX5_explanation_23 rfl (lv_at hl 0 rfl) ?_
    refine lv_iconst (v := (-1)) hx hb dX5_explanation_24 (by decide) ?_
    refine lv_icmp_ne (tgt := 37) hx hb dX5_explanation_25 (by decide) (fun c_2 => ?_) (fun c_2 => ?_)
    · skip
      have hm : ¬ expS hs bs n as_ a ct = -1 := c_2
      refine lv_iload_n hx hb dX5_explanation_37 rfl (lv_at hl 0 rfl) ?_
      exact hret _ () _ _ _ _ (by rw [isA_of ha, nI_clamp (by omega), if_neg hm]; rfl) (by rw [isA_of ha, nI_clamp (by omega), if_neg hm]; exact hP) (by rw [isA_of ha, nI_clamp (by omega), if_neg hm]; exact hD) hS dX5_explanation_38
    · skip
      have hm : expS hs bs n as_ a ct = -1 := c_2
      refine lv_aload_n hx hb dX5_explanation_28 rfl (lv_at hl 1 rfl) ?_
      refine lv_bipush (v := (-3)) hx hb dX5_explanation_29 (by decide) ?_
      refine ef_V (As := [.int (-3)]) (rest := []) (wr := [(b, .inr (4, [.ref qh, .ref qb, .int (nI n), .int as_])), (qh, .inl (cI, 24, .inl hs)), (qb, .inl (cI, 24, .inl bs))]) ⟨hx, hb, hml, hown, hts⟩ hG hP hD hS hA (k_X5_fail l D cI cB ob p_ h ro rr qe b er (-3) 1 (by decide) (by decide) _) (cwV 1 hts gX5_explanation_X5_fail rfl rfl rfl (by decide +kernel) ⟨(Nat.le_of_ble_eq_true rfl), (Nat.le_of_ble_eq_true rfl)⟩) [0, 4] [1, 2, 3] rfl rfl rfl rfl (by decide) 0 rfl rfl rfl rfl hl.1 rfl (Nat.le_of_ble_eq_true rfl) dX5_explanation_31 ⟨(Nat.le_of_ble_eq_true rfl), (Nat.le_of_ble_eq_true rfl)⟩ (fun v_3 u_3 H locs w_3 hP hD hS => ?_)
      have w_3 : v_3 = some (.int (-3)) := w_3
      subst w_3
      have hP : va_P D vwCl [(ob, .inr (5, [.ref b, .ref p_, .ref h, .ref ro, .ref rr, .ref qe])), (b, .inr (4, [.ref qh, .ref qb, .int (nI n), .int as_])), (qh, .inl (cI, 24, .inl hs)), (qb, .inl (cI, 24, .inl bs)), (qe, .inl (cI, 4, .inl (bad er 1)))] H := hP.sub [3, 0, 1, 2, 4] rfl
      have hD : va_D A [(ob, .inr (5, [.ref b, .ref p_, .ref h, .ref ro, .ref rr, .ref qe])), (b, .inr (4, [.ref qh, .ref qb, .int (nI n), .int as_])), (qh, .inl (cI, 24, .inl hs)), (qb, .inl (cI, 24, .inl bs)), (qe, .inl (cI, 4, .inl (bad er 1)))] := hD.sub [3, 0, 1, 2, 4] rfl rfl
      refine W.eq (g2 := F0 m 34 ls [.int (-3)]) rfl ?_
      refine lv_goto (tgt := 38) hx hb dX5_explanation_34 (by decide) ?_
      exact hret _ () _ _ _ _ (by rw [isA_of ha, nI_clamp (by omega), if_pos hm]; rfl) (by rw [isA_of ha, nI_clamp (by omega), if_pos hm]; exact hP) (by rw [isA_of ha, nI_clamp (by omega), if_pos hm]; exact hD) hS dX5_explanation_38
  · skip
    have c_1 : (isA at_) = false := bI_f.mp c_1
    have hc : isA at_ = false := c_1
    refine lv_aload_n hx hb dX5_explanation_7 rfl (lv_at hl 0 rfl) ?_
    refine lv_bipush (v := (-2)) hx hb dX5_explanation_8 (by decide) ?_
    refine ef_V (As := [.int (-2)]) (rest := []) (wr := [(b, .inr (4, [.ref qh, .ref qb, .int (nI n), .int as_])), (qh, .inl (cI, 24, .inl hs)), (qb, .inl (cI, 24, .inl bs))]) ⟨hx, hb, hml, hown, hts⟩ hG hP hD hS hA (k_X5_fail l D cI cB ob p_ h ro rr qe b er (-2) 0 (by decide) (by decide) _) (cwV 1 hts gX5_explanation_X5_fail rfl rfl rfl (by decide +kernel) ⟨(Nat.le_of_ble_eq_true rfl), (Nat.le_of_ble_eq_true rfl)⟩) [0, 4] [1, 2, 3] rfl rfl rfl rfl (by decide) 0 rfl rfl rfl rfl hl.1 rfl (Nat.le_of_ble_eq_true rfl) dX5_explanation_10 ⟨(Nat.le_of_ble_eq_true rfl), (Nat.le_of_ble_eq_true rfl)⟩ (fun v_4 u_4 H locs w_4 hP hD hS => ?_)
    have w_4 : v_4 = some (.int (-2)) := w_4
    subst w_4
    have hP : va_P D vwCl [(ob, .inr (5, [.ref b, .ref p_, .ref h, .ref ro, .ref rr, .ref qe])), (b, .inr (4, [.ref qh, .ref qb, .int (nI n), .int as_])), (qh, .inl (cI, 24, .inl hs)), (qb, .inl (cI, 24, .inl bs)), (qe, .inl (cI, 4, .inl (bad er 0)))] H := hP.sub [3, 0, 1, 2, 4] rfl
    have hD : va_D A [(ob, .inr (5, [.ref b, .ref p_, .ref h, .ref ro, .ref rr, .ref qe])), (b, .inr (4, [.ref qh, .ref qb, .int (nI n), .int as_])), (qh, .inl (cI, 24, .inl hs)), (qb, .inl (cI, 24, .inl bs)), (qe, .inl (cI, 4, .inl (bad er 0)))] := hD.sub [3, 0, 1, 2, 4] rfl rfl
    refine W.eq (g2 := F0 m 13 ls [.int (-2)]) rfl ?_
    exact hret _ () _ _ _ _ (by rw [hc]; rfl) (by rw [hc]; exact hP) (by rw [hc]; exact hD) hS dX5_explanation_13
set_option maxHeartbeats 4000000 in
set_option maxRecDepth 100000 in
theorem k_X5_errorCount (l : Launch) (D : va_G) (cI cB : ClassId) (ob : Nat) (p_ : Nat) (h : Nat) (ro : Nat) (rr : Nat) (qe : Nat) (b : Nat) (er : Nat → Int32) (c_ : Int32) (sz : Nat) : Wr l yX5_errorCount wsX5_errorCount ({ frames := 2, cells := 0, slots := 0, locals := 41 }) D cI cB [.ref ob, .int c_] [(ob, .inr (5, [.ref b, .ref p_, .ref h, .ref ro, .ref rr, .ref qe])), (qe, .inl (cI, 4, .inl er))] sz (S := Unit) (fun v u => v = some (.int (cond (isE c_) (er ((-2) - c_).toNatClampNeg) (-2)))) (fun u => [(ob, .inr (5, [.ref b, .ref p_, .ref h, .ref ro, .ref rr, .ref qe])), (qe, .inl (cI, 4, .inl (cond (isE c_) er (bad er 0))))]) 0 0 := by
  refine ef_startI (cc := cX5_errorCount) (maxL := 2) (by decide) rfl (Nat.le_of_ble_eq_true rfl) ?_
  intro p e s m args below meth c Q A hx hb hml hown hts hP hG hD hA hret ls hl
  have hown : s.vm.findClass RX5 = some m.cls := hown
  have hl : lv_has ls 2 [(0, .ref ob), (1, .int c_)] := hl
  have hS : va_S A s.heap s.heap [] := va_S.rf
  refine lv_iload_n hx hb dX5_errorCount_0 rfl (lv_at hl 1 rfl) ?_
  refine pu_S (As := [.int c_]) (rest := []) ⟨hx, hb, hml, hown, hts⟩ hG hP (k_X5_isErrorCode l D cI cB c_ ) (cwS 1 hts gX5_errorCount_X5_isErrorCode rfl rfl rfl (by decide +kernel) ⟨(Nat.le_of_ble_eq_true rfl), (Nat.le_of_ble_eq_true rfl)⟩) [] rfl rfl hl.1 rfl (Nat.le_of_ble_eq_true rfl) dX5_errorCount_1 ⟨Nat.zero_le _, Nat.zero_le _⟩ ?_
  refine lv_if_eq (tgt := 19) hx hb dX5_errorCount_4 (by decide) (fun c_1 => ?_) (fun c_1 => ?_)
  · skip
    have c_1 : (isE c_) = false := bI_f.mp c_1
    have hc : isE c_ = false := c_1
    refine lv_aload_n hx hb dX5_errorCount_19 rfl (lv_at hl 0 rfl) ?_
    refine lv_bipush (v := (-2)) hx hb dX5_errorCount_20 (by decide) ?_
    refine ef_V (As := [.int (-2)]) (rest := []) (wr := []) ⟨hx, hb, hml, hown, hts⟩ hG hP hD hS hA (k_X5_fail l D cI cB ob p_ h ro rr qe b er (-2) 0 (by decide) (by decide) _) (cwV 1 hts gX5_errorCount_X5_fail rfl rfl rfl (by decide +kernel) ⟨(Nat.le_of_ble_eq_true rfl), (Nat.le_of_ble_eq_true rfl)⟩) [0, 1] [] rfl rfl rfl rfl (by decide) 0 rfl rfl rfl rfl hl.1 rfl (Nat.le_of_ble_eq_true rfl) dX5_errorCount_22 ⟨(Nat.le_of_ble_eq_true rfl), (Nat.le_of_ble_eq_true rfl)⟩ (fun v_2 u_2 H locs w_2 hP hD hS => ?_)
    have w_2 : v_2 = some (.int (-2)) := w_2
    subst w_2
    have hP : va_P D vwCl [(ob, .inr (5, [.ref b, .ref p_, .ref h, .ref ro, .ref rr, .ref qe])), (qe, .inl (cI, 4, .inl (bad er 0)))] H := hP.sub [0, 1] rfl
    have hD : va_D A [(ob, .inr (5, [.ref b, .ref p_, .ref h, .ref ro, .ref rr, .ref qe])), (qe, .inl (cI, 4, .inl (bad er 0)))] := hD.sub [0, 1] rfl rfl
    refine W.eq (g2 := F0 m 25 ls [.int (-2)]) rfl ?_
    exact hret _ () _ _ _ _ (by rw [hc]; rfl) (by rw [hc]; exact hP) (by rw [hc]; exact hD) hS dX5_errorCount_25
  · skip
    have c_1 : (isE c_) = true := bI_t.mp c_1
    obtain ⟨j, hj, rfl⟩ := isE_ix c_1
    refine lv_aload_n hx hb dX5_errorCount_7 rfl (lv_at hl 0 rfl) ?_
    refine va_get (D := D) (ci := 5) (v := .ref qe) (C := RX5) (T := TX5) (N := 6) hx hb hts ilX5_errorCount_5 hown hG.1 hP 0 rfl rfl 5 (by decide) (hts (.fieldLink RX5 46 "HornEngine" "errorCounters" "[I") (List.mem_of_getElem? (i := 1) rfl)) (fun _ h9 => h9) rfl dX5_errorCount_8 ?_
    refine lv_bipush (v := (-2)) hx hb dX5_errorCount_11 (by decide) ?_
    refine lv_iload_n hx hb dX5_errorCount_13 rfl (lv_at hl 1 rfl) ?_
    refine lv_isub hx hb dX5_errorCount_14 ?_
    refine lv_eqi (y := nI j) (cd_ix j) ?_
    refine ia_ld hx hb hG hP 1 rfl j rfl (by omega) (by decide) dX5_errorCount_15 ?_
    refine lv_goto (tgt := 25) hx hb dX5_errorCount_16 (by decide) ?_
    exact hret _ () _ _ _ _ (by rw [isE_cd j hj, cd_ix j, nI_clamp (by omega)]; rfl) (by rw [isE_cd j hj]; exact hP) (by rw [isE_cd j hj]; exact hD) hS dX5_errorCount_25
set_option maxHeartbeats 4000000 in
set_option maxRecDepth 100000 in
theorem k_X5_append (l : Launch) (D : va_G) (cI cB : ClassId) (ob : Nat) (p_ : Nat) (h : Nat) (ro : Nat) (rr : Nat) (qe : Nat) (b : Nat) (ro : Nat) (qi : Nat) (it : Nat → Int32) (cn : Nat) (er : Nat → Int32) (v_ : Int32) (hcn : cn ≤ 120) (sz : Nat) : Wr l yX5_append wsX5_append ({ frames := 2, cells := 0, slots := 0, locals := 41 }) D cI cB [.ref ob, .int v_] [(ob, .inr (5, [.ref b, .ref p_, .ref h, .ref ro, .ref rr, .ref qe])), (ro, .inr (2, [.ref qi, .int (nI cn)])), (qi, .inl (cI, 120, .inl it)), (qe, .inl (cI, 4, .inl er))] sz (S := Unit) (fun v u => v = some (.int (cond (isB v_) (cond (decide (cn < 120)) (nI (cn + 1)) (-4)) (-2)))) (fun u => [(ob, .inr (5, [.ref b, .ref p_, .ref h, .ref ro, .ref rr, .ref qe])), (ro, .inr (2, [.ref qi, .int (nI (cond (isB v_) (cond (decide (cn < 120)) (cn + 1) cn) cn))])), (qi, .inl (cI, 120, .inl (cond (isB v_) (cond (decide (cn < 120)) (upd it cn v_) it) it))), (qe, .inl (cI, 4, .inl (cond (isB v_) (cond (decide (cn < 120)) er (bad er 2)) (bad er 0))))]) 0 0 := by
  refine ef_startI (cc := cX5_append) (maxL := 2) (by decide) rfl (Nat.le_of_ble_eq_true rfl) ?_
  intro p e s m args below meth c Q A hx hb hml hown hts hP hG hD hA hret ls hl
  have hown : s.vm.findClass RX5 = some m.cls := hown
  have hl : lv_has ls 2 [(0, .ref ob), (1, .int v_)] := hl
  have hS : va_S A s.heap s.heap [] := va_S.rf
  refine lv_iload_n hx hb dX5_append_0 rfl (lv_at hl 1 rfl) ?_
  refine lv_if_lt (tgt := 10) hx hb dX5_append_1 (by decide) (fun c_1 => ?_) (fun c_1 => ?_)
  · skip
    have hk : isB v_ = false := decide_eq_false (fun q => q.1 c_1)
    refine lv_aload_n hx hb dX5_append_10 rfl (lv_at hl 0 rfl) ?_
    refine lv_bipush (v := (-2)) hx hb dX5_append_11 (by decide) ?_
    refine ef_V (As := [.int (-2)]) (rest := []) (wr := [(ro, .inr (2, [.ref qi, .int (nI cn)])), (qi, .inl (cI, 120, .inl it))]) ⟨hx, hb, hml, hown, hts⟩ hG hP hD hS hA (k_X5_fail l D cI cB ob p_ h ro rr qe b er (-2) 0 (by decide) (by decide) _) (cwV 1 hts gX5_append_X5_fail rfl rfl rfl (by decide +kernel) ⟨(Nat.le_of_ble_eq_true rfl), (Nat.le_of_ble_eq_true rfl)⟩) [0, 3] [1, 2] rfl rfl rfl rfl (by decide) 0 rfl rfl rfl rfl hl.1 rfl (Nat.le_of_ble_eq_true rfl) dX5_append_13 ⟨(Nat.le_of_ble_eq_true rfl), (Nat.le_of_ble_eq_true rfl)⟩ (fun v_2 u_2 H locs w_2 hP hD hS => ?_)
    have w_2 : v_2 = some (.int (-2)) := w_2
    subst w_2
    have hP : va_P D vwCl [(ob, .inr (5, [.ref b, .ref p_, .ref h, .ref ro, .ref rr, .ref qe])), (ro, .inr (2, [.ref qi, .int (nI cn)])), (qi, .inl (cI, 120, .inl it)), (qe, .inl (cI, 4, .inl (bad er 0)))] H := hP.sub [2, 0, 1, 3] rfl
    have hD : va_D A [(ob, .inr (5, [.ref b, .ref p_, .ref h, .ref ro, .ref rr, .ref qe])), (ro, .inr (2, [.ref qi, .int (nI cn)])), (qi, .inl (cI, 120, .inl it)), (qe, .inl (cI, 4, .inl (bad er 0)))] := hD.sub [2, 0, 1, 3] rfl rfl
    refine W.eq (g2 := F0 m 16 ls [.int (-2)]) rfl ?_
    exact hret _ () _ _ _ _ (by rw [hk]; rfl) (by rw [hk]; exact hP) (by rw [hk]; exact hD) hS dX5_append_16
  · skip
    have hc1 := c_1
    refine lv_iload_n hx hb dX5_append_4 rfl (lv_at hl 1 rfl) ?_
    refine lv_bipush (v := nI 127) hx hb dX5_append_5 (by decide) ?_
    refine lv_icmp_le (tgt := 17) hx hb dX5_append_7 (by decide) (fun c_3 => ?_) (fun c_3 => ?_)
    · skip
      have hk : isB v_ = true := decide_eq_true ⟨hc1, fun q => absurd c_3 (fun q2 => absurd (Int32.lt_of_lt_of_le q q2) (Int32.lt_irrefl))⟩
      refine lv_aload_n hx hb dX5_append_17 rfl (lv_at hl 0 rfl) ?_
      refine va_get (D := D) (ci := 5) (v := .ref ro) (C := RX5) (T := TX5) (N := 6) hx hb hts ilX5_append_5 hown hG.1 hP 0 rfl rfl 3 (by decide) (hts (.fieldLink RX5 35 "HornEngine" "text" "LHornEngine$Row;") (List.mem_of_getElem? (i := 1) rfl)) (fun _ h9 => h9) rfl dX5_append_18 ?_
      refine pu_V (As := []) (rest := []) ⟨hx, hb, hml, hown, hts⟩ hG hP (k_X2_isFull l D cI cB ro qi it cn 120 (by decide) (by omega)) (cwV 0 hts gX5_append_X2_isFull rfl rfl rfl (by decide +kernel) ⟨(Nat.le_of_ble_eq_true rfl), (Nat.le_of_ble_eq_true rfl)⟩) [1, 2] rfl 1 rfl rfl rfl rfl hl.1 rfl (Nat.le_of_ble_eq_true rfl) dX5_append_21 ⟨Nat.zero_le _, Nat.zero_le _⟩ ?_
      refine lv_if_eq (tgt := 34) hx hb dX5_append_24 (by decide) (fun c_4 => ?_) (fun c_4 => ?_)
      · skip
        have c_4 : (decide (120 ≤ cn)) = false := bI_f.mp c_4
        have hf : decide (cn < 120) = true := decide_eq_true (Nat.not_le.mp (of_decide_eq_false c_4))
        refine lv_aload_n hx hb dX5_append_34 rfl (lv_at hl 0 rfl) ?_
        refine va_get (D := D) (ci := 5) (v := .ref ro) (C := RX5) (T := TX5) (N := 6) hx hb hts ilX5_append_5 hown hG.1 hP 0 rfl rfl 3 (by decide) (hts (.fieldLink RX5 35 "HornEngine" "text" "LHornEngine$Row;") (List.mem_of_getElem? (i := 1) rfl)) (fun _ h9 => h9) rfl dX5_append_35 ?_
        refine lv_iload_n hx hb dX5_append_38 rfl (lv_at hl 1 rfl) ?_
        refine ef_V (As := [.int v_]) (rest := []) (wr := [(ob, .inr (5, [.ref b, .ref p_, .ref h, .ref ro, .ref rr, .ref qe])), (qe, .inl (cI, 4, .inl er))]) ⟨hx, hb, hml, hown, hts⟩ hG hP hD hS hA (k_X2_addLast l D cI cB ro qi it cn 120 v_ (by decide) (of_decide_eq_true hf) _) (cwV 1 hts gX5_append_X2_addLast rfl rfl rfl (by decide +kernel) ⟨(Nat.le_of_ble_eq_true rfl), (Nat.le_of_ble_eq_true rfl)⟩) [1, 2] [0, 3] rfl rfl rfl rfl (by decide) 1 rfl rfl rfl rfl hl.1 rfl (Nat.le_of_ble_eq_true rfl) dX5_append_39 ⟨(Nat.le_of_ble_eq_true rfl), (Nat.le_of_ble_eq_true rfl)⟩ (fun v_5 u_5 H locs w_5 hP hD hS => ?_)
        have w_5 : v_5 = none := w_5
        subst w_5
        have hP : va_P D vwCl [(ob, .inr (5, [.ref b, .ref p_, .ref h, .ref ro, .ref rr, .ref qe])), (ro, .inr (2, [.ref qi, .int (nI (cn + 1))])), (qi, .inl (cI, 120, .inl (upd it cn v_))), (qe, .inl (cI, 4, .inl er))] H := hP.sub [0, 2, 3, 1] rfl
        have hD : va_D A [(ob, .inr (5, [.ref b, .ref p_, .ref h, .ref ro, .ref rr, .ref qe])), (ro, .inr (2, [.ref qi, .int (nI (cn + 1))])), (qi, .inl (cI, 120, .inl (upd it cn v_))), (qe, .inl (cI, 4, .inl er))] := hD.sub [0, 2, 3, 1] rfl rfl
        refine W.eq (g2 := F0 m 42 ls []) rfl ?_
        refine lv_aload_n hx hb dX5_append_42 rfl (lv_at hl 0 rfl) ?_
        refine va_get (D := D) (ci := 5) (v := .ref ro) (C := RX5) (T := TX5) (N := 6) hx hb hts ilX5_append_5 hown hG.1 hP 0 rfl rfl 3 (by decide) (hts (.fieldLink RX5 35 "HornEngine" "text" "LHornEngine$Row;") (List.mem_of_getElem? (i := 1) rfl)) (fun _ h9 => h9) rfl dX5_append_43 ?_
        refine pu_V (As := []) (rest := []) ⟨hx, hb, hml, hown, hts⟩ hG hP (k_X2_size l D cI cB ro qi (upd it cn v_) (cn + 1) 120 (by decide) (of_decide_eq_true hf)) (cwV 0 hts gX5_append_X2_size rfl rfl rfl (by decide +kernel) ⟨(Nat.le_of_ble_eq_true rfl), (Nat.le_of_ble_eq_true rfl)⟩) [1, 2] rfl 1 rfl rfl rfl rfl hl.1 rfl (Nat.le_of_ble_eq_true rfl) dX5_append_46 ⟨Nat.zero_le _, Nat.zero_le _⟩ ?_
        exact hret _ () _ _ _ _ (by rw [hk, hf]; rfl) (by rw [hk, hf]; exact hP) (by rw [hk, hf]; exact hD) hS dX5_append_49
      · skip
        have c_4 : (decide (120 ≤ cn)) = true := bI_t.mp c_4
        have hf : decide (cn < 120) = false := decide_eq_false (Nat.not_lt.mpr (of_decide_eq_true c_4))
        refine lv_aload_n hx hb dX5_append_27 rfl (lv_at hl 0 rfl) ?_
        refine lv_bipush (v := (-4)) hx hb dX5_append_28 (by decide) ?_
        refine ef_V (As := [.int (-4)]) (rest := []) (wr := [(ro, .inr (2, [.ref qi, .int (nI cn)])), (qi, .inl (cI, 120, .inl it))]) ⟨hx, hb, hml, hown, hts⟩ hG hP hD hS hA (k_X5_fail l D cI cB ob p_ h ro rr qe b er (-4) 2 (by decide) (by decide) _) (cwV 1 hts gX5_append_X5_fail rfl rfl rfl (by decide +kernel) ⟨(Nat.le_of_ble_eq_true rfl), (Nat.le_of_ble_eq_true rfl)⟩) [0, 3] [1, 2] rfl rfl rfl rfl (by decide) 0 rfl rfl rfl rfl hl.1 rfl (Nat.le_of_ble_eq_true rfl) dX5_append_30 ⟨(Nat.le_of_ble_eq_true rfl), (Nat.le_of_ble_eq_true rfl)⟩ (fun v_6 u_6 H locs w_6 hP hD hS => ?_)
        have w_6 : v_6 = some (.int (-4)) := w_6
        subst w_6
        have hP : va_P D vwCl [(ob, .inr (5, [.ref b, .ref p_, .ref h, .ref ro, .ref rr, .ref qe])), (ro, .inr (2, [.ref qi, .int (nI cn)])), (qi, .inl (cI, 120, .inl it)), (qe, .inl (cI, 4, .inl (bad er 2)))] H := hP.sub [2, 0, 1, 3] rfl
        have hD : va_D A [(ob, .inr (5, [.ref b, .ref p_, .ref h, .ref ro, .ref rr, .ref qe])), (ro, .inr (2, [.ref qi, .int (nI cn)])), (qi, .inl (cI, 120, .inl it)), (qe, .inl (cI, 4, .inl (bad er 2)))] := hD.sub [2, 0, 1, 3] rfl rfl
        refine W.eq (g2 := F0 m 33 ls [.int (-4)]) rfl ?_
        exact hret _ () _ _ _ _ (by rw [hk, hf]; rfl) (by rw [hk, hf]; exact hP) (by rw [hk, hf]; exact hD) hS dX5_append_33
    · skip
      have hk : isB v_ = false := decide_eq_false (fun q => c_3 (Int32.not_lt.mp q.2))
      refine lv_aload_n hx hb dX5_append_10 rfl (lv_at hl 0 rfl) ?_
      refine lv_bipush (v := (-2)) hx hb dX5_append_11 (by decide) ?_
      refine ef_V (As := [.int (-2)]) (rest := []) (wr := [(ro, .inr (2, [.ref qi, .int (nI cn)])), (qi, .inl (cI, 120, .inl it))]) ⟨hx, hb, hml, hown, hts⟩ hG hP hD hS hA (k_X5_fail l D cI cB ob p_ h ro rr qe b er (-2) 0 (by decide) (by decide) _) (cwV 1 hts gX5_append_X5_fail rfl rfl rfl (by decide +kernel) ⟨(Nat.le_of_ble_eq_true rfl), (Nat.le_of_ble_eq_true rfl)⟩) [0, 3] [1, 2] rfl rfl rfl rfl (by decide) 0 rfl rfl rfl rfl hl.1 rfl (Nat.le_of_ble_eq_true rfl) dX5_append_13 ⟨(Nat.le_of_ble_eq_true rfl), (Nat.le_of_ble_eq_true rfl)⟩ (fun v_7 u_7 H locs w_7 hP hD hS => ?_)
      have w_7 : v_7 = some (.int (-2)) := w_7
      subst w_7
      have hP : va_P D vwCl [(ob, .inr (5, [.ref b, .ref p_, .ref h, .ref ro, .ref rr, .ref qe])), (ro, .inr (2, [.ref qi, .int (nI cn)])), (qi, .inl (cI, 120, .inl it)), (qe, .inl (cI, 4, .inl (bad er 0)))] H := hP.sub [2, 0, 1, 3] rfl
      have hD : va_D A [(ob, .inr (5, [.ref b, .ref p_, .ref h, .ref ro, .ref rr, .ref qe])), (ro, .inr (2, [.ref qi, .int (nI cn)])), (qi, .inl (cI, 120, .inl it)), (qe, .inl (cI, 4, .inl (bad er 0)))] := hD.sub [2, 0, 1, 3] rfl rfl
      refine W.eq (g2 := F0 m 16 ls [.int (-2)]) rfl ?_
      exact hret _ () _ _ _ _ (by rw [hk]; rfl) (by rw [hk]; exact hP) (by rw [hk]; exact hD) hS dX5_append_16
set_option maxHeartbeats 4000000 in
set_option maxRecDepth 100000 in
theorem k_X5_clearText (l : Launch) (D : va_G) (cI cB : ClassId) (ob : Nat) (p_ : Nat) (h : Nat) (ro : Nat) (rr : Nat) (qe : Nat) (b : Nat) (ro : Nat) (qi : Nat) (it : Nat → Int32) (cn : Nat) (hcn : cn ≤ 120) (sz : Nat) : Wr l yX5_clearText wsX5_clearText ({ frames := 1, cells := 0, slots := 0, locals := 20 }) D cI cB [.ref ob] [(ob, .inr (5, [.ref b, .ref p_, .ref h, .ref ro, .ref rr, .ref qe])), (ro, .inr (2, [.ref qi, .int (nI cn)])), (qi, .inl (cI, 120, .inl it))] sz (S := Unit) (fun v u => v = some (.int (nI cn))) (fun u => [(ob, .inr (5, [.ref b, .ref p_, .ref h, .ref ro, .ref rr, .ref qe])), (ro, .inr (2, [.ref qi, .int (nI 0)])), (qi, .inl (cI, 120, .inl it))]) 0 0 := by
  refine ef_startI (cc := cX5_clearText) (maxL := 2) (by decide) rfl (Nat.le_of_ble_eq_true rfl) ?_
  intro p e s m args below meth c Q A hx hb hml hown hts hP hG hD hA hret ls hl
  have hown : s.vm.findClass RX5 = some m.cls := hown
  have hl : lv_has ls 2 [(0, .ref ob)] := hl
  have hS : va_S A s.heap s.heap [] := va_S.rf
  refine lv_aload_n hx hb dX5_clearText_0 rfl (lv_at hl 0 rfl) ?_
  refine va_get (D := D) (ci := 5) (v := .ref ro) (C := RX5) (T := TX5) (N := 6) hx hb hts ilX5_clearText_5 hown hG.1 hP 0 rfl rfl 3 (by decide) (hts (.fieldLink RX5 35 "HornEngine" "text" "LHornEngine$Row;") (List.mem_of_getElem? (i := 1) rfl)) (fun _ h9 => h9) rfl dX5_clearText_1 ?_
  refine pu_V (As := []) (rest := []) ⟨hx, hb, hml, hown, hts⟩ hG hP (k_X2_size l D cI cB ro qi it cn 120 (by decide) (by omega)) (cwV 0 hts gX5_clearText_X2_size rfl rfl rfl (by decide +kernel) ⟨(Nat.le_of_ble_eq_true rfl), (Nat.le_of_ble_eq_true rfl)⟩) [1, 2] rfl 1 rfl rfl rfl rfl hl.1 rfl (Nat.le_of_ble_eq_true rfl) dX5_clearText_4 ⟨Nat.zero_le _, Nat.zero_le _⟩ ?_
  refine lv_istore_n (lv' := [(1, .int (nI cn)), (0, .ref ob)]) hx hb dX5_clearText_7 rfl hl (by decide) rfl (fun ls hl => ?_)
  refine lv_aload_n hx hb dX5_clearText_8 rfl (lv_at hl 1 rfl) ?_
  refine va_get (D := D) (ci := 5) (v := .ref ro) (C := RX5) (T := TX5) (N := 6) hx hb hts ilX5_clearText_5 hown hG.1 hP 0 rfl rfl 3 (by decide) (hts (.fieldLink RX5 35 "HornEngine" "text" "LHornEngine$Row;") (List.mem_of_getElem? (i := 1) rfl)) (fun _ h9 => h9) rfl dX5_clearText_9 ?_
  refine ef_V (As := []) (rest := []) (wr := [(ob, .inr (5, [.ref b, .ref p_, .ref h, .ref ro, .ref rr, .ref qe]))]) ⟨hx, hb, hml, hown, hts⟩ hG hP hD hS hA (k_X2_empty l D cI cB ro qi it cn 120 (by decide) (by omega) _) (cwV 0 hts gX5_clearText_X2_empty rfl rfl rfl (by decide +kernel) ⟨(Nat.le_of_ble_eq_true rfl), (Nat.le_of_ble_eq_true rfl)⟩) [1, 2] [0] rfl rfl rfl rfl (by decide) 1 rfl rfl rfl rfl hl.1 rfl (Nat.le_of_ble_eq_true rfl) dX5_clearText_12 ⟨(Nat.le_of_ble_eq_true rfl), (Nat.le_of_ble_eq_true rfl)⟩ (fun v_1 u_1 H locs w_1 hP hD hS => ?_)
  have w_1 : v_1 = none := w_1
  subst w_1
  have hP : va_P D vwCl [(ob, .inr (5, [.ref b, .ref p_, .ref h, .ref ro, .ref rr, .ref qe])), (ro, .inr (2, [.ref qi, .int (nI 0)])), (qi, .inl (cI, 120, .inl it))] H := hP.sub [0, 1, 2] rfl
  have hD : va_D A [(ob, .inr (5, [.ref b, .ref p_, .ref h, .ref ro, .ref rr, .ref qe])), (ro, .inr (2, [.ref qi, .int (nI 0)])), (qi, .inl (cI, 120, .inl it))] := hD.sub [0, 1, 2] rfl rfl
  refine W.eq (g2 := F0 m 15 ls []) rfl ?_
  refine lv_iload_n hx hb dX5_clearText_15 rfl (lv_at hl 0 rfl) ?_
  exact hret _ () _ _ _ _ (rfl) (hP) (hD) hS dX5_clearText_16
