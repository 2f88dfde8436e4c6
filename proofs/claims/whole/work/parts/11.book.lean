theorem ilX4_size_4 : ∀ w ∈ u_ws RX4 TX4 4, w ∈ wsX4_size := by decide +kernel
theorem ilX4_isFull_4 : ∀ w ∈ u_ws RX4 TX4 4, w ∈ wsX4_isFull := by decide +kernel
theorem ilX4_hasRule_4 : ∀ w ∈ u_ws RX4 TX4 4, w ∈ wsX4_hasRule := by decide +kernel
theorem ilX4_headOf_4 : ∀ w ∈ u_ws RX4 TX4 4, w ∈ wsX4_headOf := by decide +kernel
theorem ilX4_bodyOf_4 : ∀ w ∈ u_ws RX4 TX4 4, w ∈ wsX4_bodyOf := by decide +kernel
theorem ilX4_everyRule_4 : ∀ w ∈ u_ws RX4 TX4 4, w ∈ wsX4_everyRule := by decide +kernel
theorem ilX4_afterOneRound_4 : ∀ w ∈ u_ws RX4 TX4 4, w ∈ wsX4_afterOneRound := by decide +kernel
theorem ilX4_assumableAtoms_4 : ∀ w ∈ u_ws RX4 TX4 4, w ∈ wsX4_assumableAtoms := by decide +kernel
theorem ilX4_supportsOf_4 : ∀ w ∈ u_ws RX4 TX4 4, w ∈ wsX4_supportsOf := by decide +kernel
theorem ilX4_reasonFor_4 : ∀ w ∈ u_ws RX4 TX4 4, w ∈ wsX4_reasonFor := by decide +kernel
theorem ilX4_necessaryFor_4 : ∀ w ∈ u_ws RX4 TX4 4, w ∈ wsX4_necessaryFor := by decide +kernel
theorem ilX4_bodiesUnder_4 : ∀ w ∈ u_ws RX4 TX4 4, w ∈ wsX4_bodiesUnder := by decide +kernel
theorem ilX4_overDeletedBy_4 : ∀ w ∈ u_ws RX4 TX4 4, w ∈ wsX4_overDeletedBy := by decide +kernel
set_option maxHeartbeats 4000000 in
set_option maxRecDepth 100000 in
theorem k_X5_contains (l : Launch) (D : va_G) (cI cB : ClassId) (x : Int32) (e_ : Int32) : Rd l yX5_contains wsX5_contains ({ frames := 0, cells := 0, slots := 0, locals := 0 }) D cI cB [.int x, .int e_] [] (.int (bI (has x e_))) := by
  refine pu_startZ (cc := cX5_contains) (maxL := 2) (by decide) rfl (Nat.le_of_ble_eq_true rfl) ?_
  intro p e s m args below meth c Q hx hb hml hown hts hP hG hret ls hl
  have hown : s.vm.findClass RX5 = some m.cls := hown
  have hl : lv_has ls 2 [(0, .int x), (1, .int e_)] := hl
  refine lv_iload_n hx hb dX5_contains_0 rfl (lv_at hl 0 rfl) ?_
  refine lv_iconst (v := nI 1) hx hb dX5_contains_1 (by decide) ?_
  refine lv_iload_n hx hb dX5_contains_2 rfl (lv_at hl 1 rfl) ?_
  refine lv_ishl hx hb dX5_contains_3 ?_
  refine lv_iand hx hb dX5_contains_4 ?_
  refine lv_if_eq (tgt := 12) hx hb dX5_contains_5 (by decide) (fun c_1 => ?_) (fun c_1 => ?_)
  · skip
    refine lv_iconst (v := nI 0) hx hb dX5_contains_12 (by decide) ?_
    exact hret _ _ _ (bI_0 (decide_eq_false (by simp only [decide_true, decide_false, reduceIte, Bool.false_eq_true, not_true_eq_false, not_false_eq_true, and_self, and_true, true_and, and_false, false_and, c_1]))) dX5_contains_13
  · skip
    refine lv_iconst (v := nI 1) hx hb dX5_contains_8 (by decide) ?_
    refine lv_goto (tgt := 13) hx hb dX5_contains_9 (by decide) ?_
    exact hret _ _ _ (bI_1 (decide_eq_true (by simp only [decide_true, decide_false, reduceIte, Bool.false_eq_true, not_true_eq_false, not_false_eq_true, and_self, and_true, true_and, and_false, false_and, c_1]))) dX5_contains_13
set_option maxHeartbeats 4000000 in
set_option maxRecDepth 100000 in
theorem k_X5_isSubset (l : Launch) (D : va_G) (cI cB : ClassId) (x : Int32) (y : Int32) : Rd l yX5_isSubset wsX5_isSubset ({ frames := 0, cells := 0, slots := 0, locals := 0 }) D cI cB [.int x, .int y] [] (.int (bI (sbs x y))) := by
  refine pu_startZ (cc := cX5_isSubset) (maxL := 2) (by decide) rfl (Nat.le_of_ble_eq_true rfl) ?_
  intro p e s m args below meth c Q hx hb hml hown hts hP hG hret ls hl
  have hown : s.vm.findClass RX5 = some m.cls := hown
  have hl : lv_has ls 2 [(0, .int x), (1, .int y)] := hl
  refine lv_iload_n hx hb dX5_isSubset_0 rfl (lv_at hl 0 rfl) ?_
  refine lv_iload_n hx hb dX5_isSubset_1 rfl (lv_at hl 1 rfl) ?_
  refine lv_iconst (v := (-1)) hx hb dX5_isSubset_2 (by decide) ?_
  refine lv_ixor hx hb dX5_isSubset_3 ?_
  refine lv_iand hx hb dX5_isSubset_4 ?_
  refine lv_if_ne (tgt := 12) hx hb dX5_isSubset_5 (by decide) (fun c_1 => ?_) (fun c_1 => ?_)
  · skip
    refine lv_iconst (v := nI 0) hx hb dX5_isSubset_12 (by decide) ?_
    exact hret _ _ _ (bI_0 (decide_eq_false (by simp only [decide_true, decide_false, reduceIte, Bool.false_eq_true, not_true_eq_false, not_false_eq_true, and_self, and_true, true_and, and_false, false_and, c_1]))) dX5_isSubset_13
  · skip
    refine lv_iconst (v := nI 1) hx hb dX5_isSubset_8 (by decide) ?_
    refine lv_goto (tgt := 13) hx hb dX5_isSubset_9 (by decide) ?_
    exact hret _ _ _ (bI_1 (decide_eq_true (by simp only [decide_true, decide_false, reduceIte, Bool.false_eq_true, not_true_eq_false, not_false_eq_true, and_self, and_true, true_and, and_false, false_and, c_1]))) dX5_isSubset_13
set_option maxHeartbeats 4000000 in
set_option maxRecDepth 100000 in
theorem k_X5_isAtom (l : Launch) (D : va_G) (cI cB : ClassId) (a : Int32) : Rd l yX5_isAtom wsX5_isAtom ({ frames := 0, cells := 0, slots := 0, locals := 0 }) D cI cB [.int a] [] (.int (bI (isA a))) := by
  refine pu_startZ (cc := cX5_isAtom) (maxL := 1) (by decide) rfl (Nat.le_of_ble_eq_true rfl) ?_
  intro p e s m args below meth c Q hx hb hml hown hts hP hG hret ls hl
  have hown : s.vm.findClass RX5 = some m.cls := hown
  have hl : lv_has ls 1 [(0, .int a)] := hl
  refine lv_iload_n hx hb dX5_isAtom_0 rfl (lv_at hl 0 rfl) ?_
  refine lv_if_lt (tgt := 14) hx hb dX5_isAtom_1 (by decide) (fun c_1 => ?_) (fun c_1 => ?_)
  · skip
    refine lv_iconst (v := nI 0) hx hb dX5_isAtom_14 (by decide) ?_
    exact hret _ _ _ (bI_0 (decide_eq_false (by simp only [decide_true, decide_false, reduceIte, Bool.false_eq_true, not_true_eq_false, not_false_eq_true, and_self, and_true, true_and, and_false, false_and, c_1]))) dX5_isAtom_15
  · skip
    refine lv_iload_n hx hb dX5_isAtom_4 rfl (lv_at hl 0 rfl) ?_
    refine lv_bipush (v := nI 16) hx hb dX5_isAtom_5 (by decide) ?_
    refine lv_icmp_ge (tgt := 14) hx hb dX5_isAtom_7 (by decide) (fun c_2 => ?_) (fun c_2 => ?_)
    · skip
      refine lv_iconst (v := nI 0) hx hb dX5_isAtom_14 (by decide) ?_
      exact hret _ _ _ (bI_0 (decide_eq_false (by simp only [decide_true, decide_false, reduceIte, Bool.false_eq_true, not_true_eq_false, not_false_eq_true, and_self, and_true, true_and, and_false, false_and, c_1, c_2]))) dX5_isAtom_15
    · skip
      refine lv_iconst (v := nI 1) hx hb dX5_isAtom_10 (by decide) ?_
      refine lv_goto (tgt := 15) hx hb dX5_isAtom_11 (by decide) ?_
      exact hret _ _ _ (bI_1 (decide_eq_true (by simp only [decide_true, decide_false, reduceIte, Bool.false_eq_true, not_true_eq_false, not_false_eq_true, and_self, and_true, true_and, and_false, false_and, c_1, c_2]))) dX5_isAtom_15
set_option maxHeartbeats 4000000 in
set_option maxRecDepth 100000 in
theorem k_X4_size (l : Launch) (D : va_G) (cI cB : ClassId) (b : Nat) (qh : Nat) (qb : Nat) (hs : Nat → Int32) (bs : Nat → Int32) (n : Nat) (as_ : Int32) (hn : n ≤ 24) : Rd l yX4_size wsX4_size ({ frames := 0, cells := 0, slots := 0, locals := 0 }) D cI cB [.ref b] [(b, .inr (4, [.ref qh, .ref qb, .int (nI n), .int as_])), (qh, .inl (cI, 24, .inl hs)), (qb, .inl (cI, 24, .inl bs))] (.int (nI n)) := by
  refine pu_startI (cc := cX4_size) (maxL := 1) (by decide) rfl (Nat.le_of_ble_eq_true rfl) ?_
  intro p e s m args below meth c Q hx hb hml hown hts hP hG hret ls hl
  have hown : s.vm.findClass RX4 = some m.cls := hown
  have hl : lv_has ls 1 [(0, .ref b)] := hl
  refine lv_aload_n hx hb dX4_size_0 rfl (lv_at hl 0 rfl) ?_
  refine va_get (D := D) (ci := 4) (v := .int (nI n)) (C := RX4) (T := TX4) (N := 4) hx hb hts ilX4_size_4 hown hG.1 hP 0 rfl rfl 2 (by decide) (hts (.fieldLink RX4 18 "HornEngine$Rulebook" "count" "I") (List.mem_of_getElem? (i := 1) rfl)) (fun _ h9 => h9) rfl dX4_size_1 ?_
  exact hret _ _ _ rfl dX4_size_4
set_option maxHeartbeats 4000000 in
set_option maxRecDepth 100000 in
theorem k_X4_isFull (l : Launch) (D : va_G) (cI cB : ClassId) (b : Nat) (qh : Nat) (qb : Nat) (hs : Nat → Int32) (bs : Nat → Int32) (n : Nat) (as_ : Int32) (hn : n ≤ 24) : Rd l yX4_isFull wsX4_isFull ({ frames := 0, cells := 0, slots := 0, locals := 0 }) D cI cB [.ref b] [(b, .inr (4, [.ref qh, .ref qb, .int (nI n), .int as_])), (qh, .inl (cI, 24, .inl hs)), (qb, .inl (cI, 24, .inl bs))] (.int (bI (decide (24 ≤ n)))) := by
  refine pu_startZ (cc := cX4_isFull) (maxL := 1) (by decide) rfl (Nat.le_of_ble_eq_true rfl) ?_
  intro p e s m args below meth c Q hx hb hml hown hts hP hG hret ls hl
  have hown : s.vm.findClass RX4 = some m.cls := hown
  have hl : lv_has ls 1 [(0, .ref b)] := hl
  refine lv_aload_n hx hb dX4_isFull_0 rfl (lv_at hl 0 rfl) ?_
  refine va_get (D := D) (ci := 4) (v := .int (nI n)) (C := RX4) (T := TX4) (N := 4) hx hb hts ilX4_isFull_4 hown hG.1 hP 0 rfl rfl 2 (by decide) (hts (.fieldLink RX4 18 "HornEngine$Rulebook" "count" "I") (List.mem_of_getElem? (i := 1) rfl)) (fun _ h9 => h9) rfl dX4_isFull_1 ?_
  refine lv_bipush (v := nI 24) hx hb dX4_isFull_4 (by decide) ?_
  refine lv_icmp_lt (tgt := 13) hx hb dX4_isFull_6 (by decide) (fun c_1 => ?_) (fun c_1 => ?_)
  · skip
    have c_1 : n < 24 := (nI_ltI (by omega) (by omega)).mp (show nI n < nI 24 from c_1)
    refine lv_iconst (v := nI 0) hx hb dX4_isFull_13 (by decide) ?_
    exact hret _ _ _ (bI_0 (decide_eq_false (by omega))) dX4_isFull_14
  · skip
    have c_1 : ¬ (n < 24) := fun h9 => (show ¬ (nI n < nI 24) from c_1) ((nI_ltI (by omega) (by omega)).mpr h9)
    refine lv_iconst (v := nI 1) hx hb dX4_isFull_9 (by decide) ?_
    refine lv_goto (tgt := 14) hx hb dX4_isFull_10 (by decide) ?_
    exact hret _ _ _ (bI_1 (decide_eq_true (by omega))) dX4_isFull_14
set_option maxHeartbeats 4000000 in
set_option maxRecDepth 100000 in
theorem k_X4_hasRule (l : Launch) (D : va_G) (cI cB : ClassId) (b : Nat) (qh : Nat) (qb : Nat) (hs : Nat → Int32) (bs : Nat → Int32) (n : Nat) (as_ : Int32) (r : Int32) (hn : n ≤ 24) : Rd l yX4_hasRule wsX4_hasRule ({ frames := 0, cells := 0, slots := 0, locals := 0 }) D cI cB [.ref b, .int r] [(b, .inr (4, [.ref qh, .ref qb, .int (nI n), .int as_])), (qh, .inl (cI, 24, .inl hs)), (qb, .inl (cI, 24, .inl bs))] (.int (bI (hasR r n))) := by
  refine pu_startZ (cc := cX4_hasRule) (maxL := 2) (by decide) rfl (Nat.le_of_ble_eq_true rfl) ?_
  intro p e s m args below meth c Q hx hb hml hown hts hP hG hret ls hl
  have hown : s.vm.findClass RX4 = some m.cls := hown
  have hl : lv_has ls 2 [(0, .ref b), (1, .int r)] := hl
  refine lv_iload_n hx hb dX4_hasRule_0 rfl (lv_at hl 1 rfl) ?_
  refine lv_if_lt (tgt := 16) hx hb dX4_hasRule_1 (by decide) (fun c_1 => ?_) (fun c_1 => ?_)
  · skip
    refine lv_iconst (v := nI 0) hx hb dX4_hasRule_16 (by decide) ?_
    exact hret _ _ _ (bI_0 (decide_eq_false (by simp only [decide_true, decide_false, reduceIte, Bool.false_eq_true, not_true_eq_false, not_false_eq_true, and_self, and_true, true_and, and_false, false_and, c_1]))) dX4_hasRule_17
  · skip
    refine lv_iload_n hx hb dX4_hasRule_4 rfl (lv_at hl 1 rfl) ?_
    refine lv_aload_n hx hb dX4_hasRule_5 rfl (lv_at hl 0 rfl) ?_
    refine va_get (D := D) (ci := 4) (v := .int (nI n)) (C := RX4) (T := TX4) (N := 4) hx hb hts ilX4_hasRule_4 hown hG.1 hP 0 rfl rfl 2 (by decide) (hts (.fieldLink RX4 18 "HornEngine$Rulebook" "count" "I") (List.mem_of_getElem? (i := 1) rfl)) (fun _ h9 => h9) rfl dX4_hasRule_6 ?_
    refine lv_icmp_ge (tgt := 16) hx hb dX4_hasRule_9 (by decide) (fun c_2 => ?_) (fun c_2 => ?_)
    · skip
      refine lv_iconst (v := nI 0) hx hb dX4_hasRule_16 (by decide) ?_
      exact hret _ _ _ (bI_0 (decide_eq_false (by simp only [decide_true, decide_false, reduceIte, Bool.false_eq_true, not_true_eq_false, not_false_eq_true, and_self, and_true, true_and, and_false, false_and, c_1, c_2]))) dX4_hasRule_17
    · skip
      refine lv_iconst (v := nI 1) hx hb dX4_hasRule_12 (by decide) ?_
      refine lv_goto (tgt := 17) hx hb dX4_hasRule_13 (by decide) ?_
      exact hret _ _ _ (bI_1 (decide_eq_true (by simp only [decide_true, decide_false, reduceIte, Bool.false_eq_true, not_true_eq_false, not_false_eq_true, and_self, and_true, true_and, and_false, false_and, c_1, c_2]))) dX4_hasRule_17
set_option maxHeartbeats 4000000 in
set_option maxRecDepth 100000 in
theorem k_X4_headOf (l : Launch) (D : va_G) (cI cB : ClassId) (b : Nat) (qh : Nat) (qb : Nat) (hs : Nat → Int32) (bs : Nat → Int32) (n : Nat) (as_ : Int32) (r : Nat) (hn : n ≤ 24) (hr : r < n) : Rd l yX4_headOf wsX4_headOf ({ frames := 1, cells := 0, slots := 0, locals := 21 }) D cI cB [.ref b, .int (nI r)] [(b, .inr (4, [.ref qh, .ref qb, .int (nI n), .int as_])), (qh, .inl (cI, 24, .inl hs)), (qb, .inl (cI, 24, .inl bs))] (.int (hs r)) := by
  refine pu_startI (cc := cX4_headOf) (maxL := 2) (by decide) rfl (Nat.le_of_ble_eq_true rfl) ?_
  intro p e s m args below meth c Q hx hb hml hown hts hP hG hret ls hl
  have hown : s.vm.findClass RX4 = some m.cls := hown
  have hl : lv_has ls 2 [(0, .ref b), (1, .int (nI r))] := hl
  refine lv_aload_n hx hb dX4_headOf_0 rfl (lv_at hl 0 rfl) ?_
  refine lv_iload_n hx hb dX4_headOf_1 rfl (lv_at hl 1 rfl) ?_
  refine pu_V (As := [.int (nI r)]) (rest := []) ⟨hx, hb, hml, hown, hts⟩ hG hP (k_X4_hasRule l D cI cB b qh qb hs bs n as_ (nI r) (by omega)) (cwV 1 hts gX4_headOf_X4_hasRule rfl rfl rfl (by decide +kernel) ⟨(Nat.le_of_ble_eq_true rfl), (Nat.le_of_ble_eq_true rfl)⟩) [0, 1, 2] rfl 0 rfl rfl rfl rfl hl.1 rfl (Nat.le_of_ble_eq_true rfl) dX4_headOf_2 ⟨Nat.zero_le _, Nat.zero_le _⟩ ?_
  refine lv_if_eq (tgt := 17) hx hb dX4_headOf_5 (by decide) (fun c_1 => ?_) (fun c_1 => ?_)
  · skip
    have c_1 : (hasR (nI r) n) = false := bI_f.mp c_1
    exact absurd (hasR_of hr (by omega)) (by rw [c_1]; decide)
  · skip
    have c_1 : (hasR (nI r) n) = true := bI_t.mp c_1
    refine lv_aload_n hx hb dX4_headOf_8 rfl (lv_at hl 0 rfl) ?_
    refine va_get (D := D) (ci := 4) (v := .ref qh) (C := RX4) (T := TX4) (N := 4) hx hb hts ilX4_headOf_4 hown hG.1 hP 0 rfl rfl 0 (by decide) (hts (.fieldLink RX4 9 "HornEngine$Rulebook" "heads" "[I") (List.mem_of_getElem? (i := 1) rfl)) (fun _ h9 => h9) rfl dX4_headOf_9 ?_
    refine lv_iload_n hx hb dX4_headOf_12 rfl (lv_at hl 1 rfl) ?_
    refine ia_ld hx hb hG hP 1 rfl r rfl (by omega) (by decide) dX4_headOf_13 ?_
    refine lv_goto (tgt := 18) hx hb dX4_headOf_14 (by decide) ?_
    exact hret _ _ _ rfl dX4_headOf_18
set_option maxHeartbeats 4000000 in
set_option maxRecDepth 100000 in
theorem k_X4_bodyOf (l : Launch) (D : va_G) (cI cB : ClassId) (b : Nat) (qh : Nat) (qb : Nat) (hs : Nat → Int32) (bs : Nat → Int32) (n : Nat) (as_ : Int32) (r : Nat) (hn : n ≤ 24) (hr : r < n) : Rd l yX4_bodyOf wsX4_bodyOf ({ frames := 1, cells := 0, slots := 0, locals := 21 }) D cI cB [.ref b, .int (nI r)] [(b, .inr (4, [.ref qh, .ref qb, .int (nI n), .int as_])), (qh, .inl (cI, 24, .inl hs)), (qb, .inl (cI, 24, .inl bs))] (.int (bs r)) := by
  refine pu_startI (cc := cX4_bodyOf) (maxL := 2) (by decide) rfl (Nat.le_of_ble_eq_true rfl) ?_
  intro p e s m args below meth c Q hx hb hml hown hts hP hG hret ls hl
  have hown : s.vm.findClass RX4 = some m.cls := hown
  have hl : lv_has ls 2 [(0, .ref b), (1, .int (nI r))] := hl
  refine lv_aload_n hx hb dX4_bodyOf_0 rfl (lv_at hl 0 rfl) ?_
  refine lv_iload_n hx hb dX4_bodyOf_1 rfl (lv_at hl 1 rfl) ?_
  refine pu_V (As := [.int (nI r)]) (rest := []) ⟨hx, hb, hml, hown, hts⟩ hG hP (k_X4_hasRule l D cI cB b qh qb hs bs n as_ (nI r) (by omega)) (cwV 1 hts gX4_bodyOf_X4_hasRule rfl rfl rfl (by decide +kernel) ⟨(Nat.le_of_ble_eq_true rfl), (Nat.le_of_ble_eq_true rfl)⟩) [0, 1, 2] rfl 0 rfl rfl rfl rfl hl.1 rfl (Nat.le_of_ble_eq_true rfl) dX4_bodyOf_2 ⟨Nat.zero_le _, Nat.zero_le _⟩ ?_
  refine lv_if_eq (tgt := 17) hx hb dX4_bodyOf_5 (by decide) (fun c_1 => ?_) (fun c_1 => ?_)
  · skip
    have c_1 : (hasR (nI r) n) = false := bI_f.mp c_1
    exact absurd (hasR_of hr (by omega)) (by rw [c_1]; decide)
  · skip
    have c_1 : (hasR (nI r) n) = true := bI_t.mp c_1
    refine lv_aload_n hx hb dX4_bodyOf_8 rfl (lv_at hl 0 rfl) ?_
    refine va_get (D := D) (ci := 4) (v := .ref qb) (C := RX4) (T := TX4) (N := 4) hx hb hts ilX4_bodyOf_4 hown hG.1 hP 0 rfl rfl 1 (by decide) (hts (.fieldLink RX4 15 "HornEngine$Rulebook" "bodies" "[I") (List.mem_of_getElem? (i := 1) rfl)) (fun _ h9 => h9) rfl dX4_bodyOf_9 ?_
    refine lv_iload_n hx hb dX4_bodyOf_12 rfl (lv_at hl 1 rfl) ?_
    refine ia_ld hx hb hG hP 2 rfl r rfl (by omega) (by decide) dX4_bodyOf_13 ?_
    refine lv_goto (tgt := 18) hx hb dX4_bodyOf_14 (by decide) ?_
    exact hret _ _ _ rfl dX4_bodyOf_18
set_option maxHeartbeats 4000000 in
set_option maxRecDepth 100000 in
theorem k_X4_everyRule (l : Launch) (D : va_G) (cI cB : ClassId) (b : Nat) (qh : Nat) (qb : Nat) (hs : Nat → Int32) (bs : Nat → Int32) (n : Nat) (as_ : Int32) (hn : n ≤ 24) : Rd l yX4_everyRule wsX4_everyRule ({ frames := 0, cells := 0, slots := 0, locals := 0 }) D cI cB [.ref b] [(b, .inr (4, [.ref qh, .ref qb, .int (nI n), .int as_])), (qh, .inl (cI, 24, .inl hs)), (qb, .inl (cI, 24, .inl bs))] (.int (evr n)) := by
  refine pu_startI (cc := cX4_everyRule) (maxL := 1) (by decide) rfl (Nat.le_of_ble_eq_true rfl) ?_
  intro p e s m args below meth c Q hx hb hml hown hts hP hG hret ls hl
  have hown : s.vm.findClass RX4 = some m.cls := hown
  have hl : lv_has ls 1 [(0, .ref b)] := hl
  refine lv_iconst (v := nI 1) hx hb dX4_everyRule_0 (by decide) ?_
  refine lv_aload_n hx hb dX4_everyRule_1 rfl (lv_at hl 0 rfl) ?_
  refine va_get (D := D) (ci := 4) (v := .int (nI n)) (C := RX4) (T := TX4) (N := 4) hx hb hts ilX4_everyRule_4 hown hG.1 hP 0 rfl rfl 2 (by decide) (hts (.fieldLink RX4 18 "HornEngine$Rulebook" "count" "I") (List.mem_of_getElem? (i := 1) rfl)) (fun _ h9 => h9) rfl dX4_everyRule_2 ?_
  refine lv_ishl hx hb dX4_everyRule_5 ?_
  refine lv_iconst (v := nI 1) hx hb dX4_everyRule_6 (by decide) ?_
  refine lv_isub hx hb dX4_everyRule_7 ?_
  exact hret _ _ _ rfl dX4_everyRule_8
set_option maxHeartbeats 4000000 in
set_option maxRecDepth 100000 in
theorem k_X4_afterOneRound (l : Launch) (D : va_G) (cI cB : ClassId) (b : Nat) (qh : Nat) (qb : Nat) (hs : Nat → Int32) (bs : Nat → Int32) (n : Nat) (as_ : Int32) (R : Int32) (K : Int32) (hn : n ≤ 24) : Rd l yX4_afterOneRound wsX4_afterOneRound ({ frames := 1, cells := 0, slots := 0, locals := 21 }) D cI cB [.ref b, .int R, .int K] [(b, .inr (4, [.ref qh, .ref qb, .int (nI n), .int as_])), (qh, .inl (cI, 24, .inl hs)), (qb, .inl (cI, 24, .inl bs))] (.int (rnd hs bs R K n)) := by
  refine pu_startI (cc := cX4_afterOneRound) (maxL := 5) (by decide) rfl (Nat.le_of_ble_eq_true rfl) ?_
  intro p e s m args below meth c Q hx hb hml hown hts hP hG hret ls hl
  have hown : s.vm.findClass RX4 = some m.cls := hown
  have hl : lv_has ls 5 [(0, .ref b), (1, .int R), (2, .int K)] := hl
  refine lv_iload_n hx hb dX4_afterOneRound_0 rfl (lv_at hl 2 rfl) ?_
  refine lv_istore_n (lv' := [(3, .int K), (0, .ref b), (1, .int R), (2, .int K)]) hx hb dX4_afterOneRound_1 rfl hl (by decide) rfl (fun ls hl => ?_)
  refine lv_iconst (v := nI 0) hx hb dX4_afterOneRound_2 (by decide) ?_
  refine lv_istore (lv' := [(4, .int (nI 0)), (3, .int K), (0, .ref b), (1, .int R), (2, .int K)]) hx hb dX4_afterOneRound_3 hl (by decide) rfl (fun ls hl => ?_)
  have lp_5_1 : ∀ (fu_5 : Nat) (r : Nat) (x3 : Int32) (hr : r ≤ n) (e3 : x3 = rnd hs bs R K r) (hfu_5 : n - r < fu_5) (ls : Array Slot) (hl : lv_has ls 5 [(0, .ref b), (1, .int R), (2, .int K), (3, .int x3), (4, .int (nI r))]), W p l e ({ frames := 1, cells := 0, slots := 0, locals := 21 }) s m args below meth c s.heap [] 0 0 Q (F0 m 5 ls []) := by
    intro fu_5
    induction fu_5 with
    | zero => intro r x3 hr e3 hfu; exact absurd hfu (Nat.not_lt_zero _)
    | succ fu_5 ih_5 =>
      intro r x3 hr e3 hfu_5 ls hl
      refine lv_iload hx hb dX4_afterOneRound_5 (lv_at hl 4 rfl) ?_
      refine lv_aload_n hx hb dX4_afterOneRound_7 rfl (lv_at hl 0 rfl) ?_
      refine va_get (D := D) (ci := 4) (v := .int (nI n)) (C := RX4) (T := TX4) (N := 4) hx hb hts ilX4_afterOneRound_4 hown hG.1 hP 0 rfl rfl 2 (by decide) (hts (.fieldLink RX4 18 "HornEngine$Rulebook" "count" "I") (List.mem_of_getElem? (i := 1) rfl)) (fun _ h9 => h9) rfl dX4_afterOneRound_8 ?_
      refine lv_icmp_ge (tgt := 55) hx hb dX4_afterOneRound_11 (by decide) (fun c_2 => ?_) (fun c_2 => ?_)
      · skip
        have c_2 : n ≤ r := (nI_leI (by omega) (by omega)).mp (show nI n ≤ nI r from c_2)
        refine lv_iload_n hx hb dX4_afterOneRound_55 rfl (lv_at hl 3 rfl) ?_
        exact hret _ _ _ (by rw [e3, show r = n from by omega]) dX4_afterOneRound_56
      · skip
        have c_2 : ¬ (n ≤ r) := fun h9 => (show ¬ (nI n ≤ nI r) from c_2) ((nI_leI (by omega) (by omega)).mpr h9)
        refine lv_iload_n hx hb dX4_afterOneRound_14 rfl (lv_at hl 1 rfl) ?_
        refine lv_iload hx hb dX4_afterOneRound_15 (lv_at hl 4 rfl) ?_
        refine pu_SN (As := [.int R, .int (nI r)]) (rest := []) ⟨hx, hb, hml, hown, hts⟩ hG hP (k_X5_contains l D cI cB R (nI r) ) (va_cnB 2 hts gX4_afterOneRound_X5_contains_n44 rfl rfl rfl (hG.2 _ (List.mem_of_getElem? (i := 5) rfl)) (hts (.initialized RX5) (List.mem_of_getElem? (i := 5) rfl)) (by decide +kernel) ⟨(Nat.le_of_ble_eq_true rfl), (Nat.le_of_ble_eq_true rfl)⟩) (hts (.static yX5_contains) (List.mem_of_getElem? (i := 4) rfl)) [] rfl rfl hl.1 rfl (Nat.le_of_ble_eq_true rfl) dX4_afterOneRound_17 ⟨Nat.zero_le _, Nat.zero_le _⟩ ?_
        refine lv_if_eq (tgt := 49) hx hb dX4_afterOneRound_20 (by decide) (fun c_3 => ?_) (fun c_3 => ?_)
        · skip
          have c_3 : (has R (nI r)) = false := bI_f.mp c_3
          refine lv_iinc (v := nI (r + 1)) (lv' := [(4, .int (nI (r + 1))), (0, .ref b), (1, .int R), (2, .int K), (3, .int x3)]) hx hb dX4_afterOneRound_49 hl (k := 4) rfl (nI_s1 r) (by decide) rfl (fun ls hl => ?_)
          refine lv_goto (tgt := 5) hx hb dX4_afterOneRound_52 (by decide) ?_
          exact ih_5 (r + 1) x3 (by omega) (by subst e3; simp [rnd, c_2, c_3]) (by omega) ls (lv_sub hl [1, 2, 3, 4, 0] rfl)
        · skip
          have c_3 : (has R (nI r)) = true := bI_t.mp c_3
          refine lv_aload_n hx hb dX4_afterOneRound_23 rfl (lv_at hl 0 rfl) ?_
          refine va_get (D := D) (ci := 4) (v := .ref qb) (C := RX4) (T := TX4) (N := 4) hx hb hts ilX4_afterOneRound_4 hown hG.1 hP 0 rfl rfl 1 (by decide) (hts (.fieldLink RX4 15 "HornEngine$Rulebook" "bodies" "[I") (List.mem_of_getElem? (i := 2) rfl)) (fun _ h9 => h9) rfl dX4_afterOneRound_24 ?_
          refine lv_iload hx hb dX4_afterOneRound_27 (lv_at hl 4 rfl) ?_
          refine ia_ld hx hb hG hP 2 rfl r rfl (by omega) (by decide) dX4_afterOneRound_29 ?_
          refine lv_iload_n hx hb dX4_afterOneRound_30 rfl (lv_at hl 2 rfl) ?_
          refine pu_SN (As := [.int (bs r), .int K]) (rest := []) ⟨hx, hb, hml, hown, hts⟩ hG hP (k_X5_isSubset l D cI cB (bs r) K ) (va_cnB 2 hts gX4_afterOneRound_X5_isSubset_n51 rfl rfl rfl (hG.2 _ (List.mem_of_getElem? (i := 6) rfl)) (hts (.initialized RX5) (List.mem_of_getElem? (i := 5) rfl)) (by decide +kernel) ⟨(Nat.le_of_ble_eq_true rfl), (Nat.le_of_ble_eq_true rfl)⟩) (hts (.static yX5_isSubset) (List.mem_of_getElem? (i := 7) rfl)) [] rfl rfl hl.1 rfl (Nat.le_of_ble_eq_true rfl) dX4_afterOneRound_31 ⟨Nat.zero_le _, Nat.zero_le _⟩ ?_
          refine lv_if_eq (tgt := 49) hx hb dX4_afterOneRound_34 (by decide) (fun c_4 => ?_) (fun c_4 => ?_)
          · skip
            have c_4 : (sbs (bs r) K) = false := bI_f.mp c_4
            refine lv_iinc (v := nI (r + 1)) (lv' := [(4, .int (nI (r + 1))), (0, .ref b), (1, .int R), (2, .int K), (3, .int x3)]) hx hb dX4_afterOneRound_49 hl (k := 4) rfl (nI_s1 r) (by decide) rfl (fun ls hl => ?_)
            refine lv_goto (tgt := 5) hx hb dX4_afterOneRound_52 (by decide) ?_
            exact ih_5 (r + 1) x3 (by omega) (by subst e3; simp [rnd, c_2, c_3, c_4]) (by omega) ls (lv_sub hl [1, 2, 3, 4, 0] rfl)
          · skip
            have c_4 : (sbs (bs r) K) = true := bI_t.mp c_4
            refine lv_iload_n hx hb dX4_afterOneRound_37 rfl (lv_at hl 3 rfl) ?_
            refine lv_iconst (v := nI 1) hx hb dX4_afterOneRound_38 (by decide) ?_
            refine lv_aload_n hx hb dX4_afterOneRound_39 rfl (lv_at hl 0 rfl) ?_
            refine va_get (D := D) (ci := 4) (v := .ref qh) (C := RX4) (T := TX4) (N := 4) hx hb hts ilX4_afterOneRound_4 hown hG.1 hP 0 rfl rfl 0 (by decide) (hts (.fieldLink RX4 9 "HornEngine$Rulebook" "heads" "[I") (List.mem_of_getElem? (i := 3) rfl)) (fun _ h9 => h9) rfl dX4_afterOneRound_40 ?_
            refine lv_iload hx hb dX4_afterOneRound_43 (lv_at hl 4 rfl) ?_
            refine ia_ld hx hb hG hP 1 rfl r rfl (by omega) (by decide) dX4_afterOneRound_45 ?_
            refine lv_ishl hx hb dX4_afterOneRound_46 ?_
            refine lv_ior hx hb dX4_afterOneRound_47 ?_
            refine lv_istore_n (lv' := [(3, .int (x3 ||| ((nI 1) <<< ((hs r) &&& 31)))), (0, .ref b), (1, .int R), (2, .int K), (4, .int (nI r))]) hx hb dX4_afterOneRound_48 rfl hl (by decide) rfl (fun ls hl => ?_)
            refine lv_iinc (v := nI (r + 1)) (lv' := [(4, .int (nI (r + 1))), (3, .int (x3 ||| ((nI 1) <<< ((hs r) &&& 31)))), (0, .ref b), (1, .int R), (2, .int K)]) hx hb dX4_afterOneRound_49 hl (k := 4) rfl (nI_s1 r) (by decide) rfl (fun ls hl => ?_)
            refine lv_goto (tgt := 5) hx hb dX4_afterOneRound_52 (by decide) ?_
            exact ih_5 (r + 1) (x3 ||| ((nI 1) <<< ((hs r) &&& 31))) (by omega) (by subst e3; simp [rnd, c_2, c_3, c_4]) (by omega) ls (lv_sub hl [2, 3, 4, 1, 0] rfl)
  exact lp_5_1 (n - 0 + 1) 0 K (Nat.zero_le _) rfl (Nat.lt_succ_self _) ls (lv_sub hl [2, 3, 4, 1, 0] rfl)
set_option maxHeartbeats 4000000 in
set_option maxRecDepth 100000 in
theorem k_X4_closure (l : Launch) (D : va_G) (cI cB : ClassId) (b : Nat) (qh : Nat) (qb : Nat) (hs : Nat → Int32) (bs : Nat → Int32) (n : Nat) (as_ : Int32) (R : Int32) (F : Int32) (hn : n ≤ 24) : Rd l yX4_closure wsX4_closure ({ frames := 2, cells := 0, slots := 0, locals := 45 }) D cI cB [.ref b, .int R, .int F] [(b, .inr (4, [.ref qh, .ref qb, .int (nI n), .int as_])), (qh, .inl (cI, 24, .inl hs)), (qb, .inl (cI, 24, .inl bs))] (.int (clo hs bs n R F)) := by
  refine pu_startI (cc := cX4_closure) (maxL := 6) (by decide) rfl (Nat.le_of_ble_eq_true rfl) ?_
  intro p e s m args below meth c Q hx hb hml hown hts hP hG hret ls hl
  have hown : s.vm.findClass RX4 = some m.cls := hown
  have hl : lv_has ls 6 [(0, .ref b), (1, .int R), (2, .int F)] := hl
  refine lv_iload_n hx hb dX4_closure_0 rfl (lv_at hl 2 rfl) ?_
  refine lv_istore_n (lv' := [(3, .int F), (0, .ref b), (1, .int R), (2, .int F)]) hx hb dX4_closure_1 rfl hl (by decide) rfl (fun ls hl => ?_)
  refine lv_iconst (v := nI 0) hx hb dX4_closure_2 (by decide) ?_
  refine lv_istore (lv' := [(4, .int (nI 0)), (3, .int F), (0, .ref b), (1, .int R), (2, .int F)]) hx hb dX4_closure_3 hl (by decide) rfl (fun ls hl => ?_)
  have lp_5_1 : ∀ (fu_5 : Nat) (k : Nat) (x3 : Int32) (hk : k ≤ 16) (e3 : x3 = pw (fun K => rnd hs bs R K n) k F) (hfu_5 : 16 - k < fu_5) (ls : Array Slot) (hl : lv_has ls 6 [(0, .ref b), (1, .int R), (2, .int F), (3, .int x3), (4, .int (nI k))]), W p l e ({ frames := 2, cells := 0, slots := 0, locals := 45 }) s m args below meth c s.heap [] 0 0 Q (F0 m 5 ls []) := by
    intro fu_5
    induction fu_5 with
    | zero => intro k x3 hk e3 hfu; exact absurd hfu (Nat.not_lt_zero _)
    | succ fu_5 ih_5 =>
      intro k x3 hk e3 hfu_5 ls hl
      refine lv_iload hx hb dX4_closure_5 (lv_at hl 4 rfl) ?_
      refine lv_bipush (v := nI 16) hx hb dX4_closure_7 (by decide) ?_
      refine lv_icmp_ge (tgt := 37) hx hb dX4_closure_9 (by decide) (fun c_2 => ?_) (fun c_2 => ?_)
      · skip
        have c_2 : 16 ≤ k := (nI_leI (by omega) (by omega)).mp (show nI 16 ≤ nI k from c_2)
        refine lv_iload_n hx hb dX4_closure_37 rfl (lv_at hl 3 rfl) ?_
        exact hret _ _ _ (by rw [e3, show k = 16 from by omega]; rfl) dX4_closure_38
      · skip
        have c_2 : ¬ (16 ≤ k) := fun h9 => (show ¬ (nI 16 ≤ nI k) from c_2) ((nI_leI (by omega) (by omega)).mpr h9)
        refine lv_aload_n hx hb dX4_closure_12 rfl (lv_at hl 0 rfl) ?_
        refine lv_iload_n hx hb dX4_closure_13 rfl (lv_at hl 1 rfl) ?_
        refine lv_iload_n hx hb dX4_closure_14 rfl (lv_at hl 3 rfl) ?_
        refine pu_V (As := [.int R, .int x3]) (rest := []) ⟨hx, hb, hml, hown, hts⟩ hG hP (k_X4_afterOneRound l D cI cB b qh qb hs bs n as_ R x3 (by omega)) (cwV 2 hts gX4_closure_X4_afterOneRound rfl rfl rfl (by decide +kernel) ⟨(Nat.le_of_ble_eq_true rfl), (Nat.le_of_ble_eq_true rfl)⟩) [0, 1, 2] rfl 0 rfl rfl rfl rfl hl.1 rfl (Nat.le_of_ble_eq_true rfl) dX4_closure_15 ⟨Nat.zero_le _, Nat.zero_le _⟩ ?_
        refine lv_istore (lv' := [(5, .int (rnd hs bs R x3 n)), (0, .ref b), (1, .int R), (2, .int F), (3, .int x3), (4, .int (nI k))]) hx hb dX4_closure_18 hl (by decide) rfl (fun ls hl => ?_)
        refine lv_iload hx hb dX4_closure_20 (lv_at hl 0 rfl) ?_
        refine lv_iload_n hx hb dX4_closure_22 rfl (lv_at hl 4 rfl) ?_
        refine lv_icmp_ne (tgt := 28) hx hb dX4_closure_23 (by decide) (fun c_3 => ?_) (fun c_3 => ?_)
        · skip
          refine lv_iload hx hb dX4_closure_28 (lv_at hl 0 rfl) ?_
          refine lv_istore_n (lv' := [(3, .int (rnd hs bs R x3 n)), (5, .int (rnd hs bs R x3 n)), (0, .ref b), (1, .int R), (2, .int F), (4, .int (nI k))]) hx hb dX4_closure_30 rfl hl (by decide) rfl (fun ls hl => ?_)
          refine lv_iinc (v := nI (k + 1)) (lv' := [(4, .int (nI (k + 1))), (3, .int (rnd hs bs R x3 n)), (5, .int (rnd hs bs R x3 n)), (0, .ref b), (1, .int R), (2, .int F)]) hx hb dX4_closure_31 hl (k := 5) rfl (nI_s1 k) (by decide) rfl (fun ls hl => ?_)
          refine lv_goto (tgt := 5) hx hb dX4_closure_34 (by decide) ?_
          exact ih_5 (k + 1) (rnd hs bs R x3 n) (by omega) (by subst e3; rfl) (by omega) ls (lv_sub hl [3, 4, 5, 1, 0] rfl)
        · skip
          refine lv_iload_n hx hb dX4_closure_26 rfl (lv_at hl 4 rfl) ?_
          exact hret _ _ _ (by subst e3; have h9 := pw_fix (f := fun K => rnd hs bs R K n) (k := k) c_3 (16 - k); rw [show k + (16 - k) = 16 from by omega] at h9; exact h9.symm) dX4_closure_27
  exact lp_5_1 (16 - 0 + 1) 0 F (Nat.zero_le _) rfl (Nat.lt_succ_self _) ls (lv_sub hl [2, 3, 4, 1, 0] rfl)
set_option maxHeartbeats 4000000 in
set_option maxRecDepth 100000 in
theorem k_X4_leastModel (l : Launch) (D : va_G) (cI cB : ClassId) (b : Nat) (qh : Nat) (qb : Nat) (hs : Nat → Int32) (bs : Nat → Int32) (n : Nat) (as_ : Int32) (hn : n ≤ 24) : Rd l yX4_leastModel wsX4_leastModel ({ frames := 3, cells := 0, slots := 0, locals := 70 }) D cI cB [.ref b] [(b, .inr (4, [.ref qh, .ref qb, .int (nI n), .int as_])), (qh, .inl (cI, 24, .inl hs)), (qb, .inl (cI, 24, .inl bs))] (.int (mdl hs bs n)) := by
  refine pu_startI (cc := cX4_leastModel) (maxL := 1) (by decide) rfl (Nat.le_of_ble_eq_true rfl) ?_
  intro p e s m args below meth c Q hx hb hml hown hts hP hG hret ls hl
  have hown : s.vm.findClass RX4 = some m.cls := hown
  have hl : lv_has ls 1 [(0, .ref b)] := hl
  refine lv_aload_n hx hb dX4_leastModel_0 rfl (lv_at hl 0 rfl) ?_
  refine lv_aload_n hx hb dX4_leastModel_1 rfl (lv_at hl 0 rfl) ?_
  refine pu_V (As := []) (rest := [.ref b]) ⟨hx, hb, hml, hown, hts⟩ hG hP (k_X4_everyRule l D cI cB b qh qb hs bs n as_ (by omega)) (cwV 0 hts gX4_leastModel_X4_everyRule rfl rfl rfl (by decide +kernel) ⟨(Nat.le_of_ble_eq_true rfl), (Nat.le_of_ble_eq_true rfl)⟩) [0, 1, 2] rfl 0 rfl rfl rfl rfl hl.1 rfl (Nat.le_of_ble_eq_true rfl) dX4_leastModel_2 ⟨Nat.zero_le _, Nat.zero_le _⟩ ?_
  refine lv_iconst (v := nI 0) hx hb dX4_leastModel_5 (by decide) ?_
  refine pu_V (As := [.int (evr n), .int (nI 0)]) (rest := []) ⟨hx, hb, hml, hown, hts⟩ hG hP (k_X4_closure l D cI cB b qh qb hs bs n as_ (evr n) (nI 0) (by omega)) (cwV 2 hts gX4_leastModel_X4_closure rfl rfl rfl (by decide +kernel) ⟨(Nat.le_of_ble_eq_true rfl), (Nat.le_of_ble_eq_true rfl)⟩) [0, 1, 2] rfl 0 rfl rfl rfl rfl hl.1 rfl (Nat.le_of_ble_eq_true rfl) dX4_leastModel_6 ⟨Nat.zero_le _, Nat.zero_le _⟩ ?_
  exact hret _ _ _ rfl dX4_leastModel_9
set_option maxHeartbeats 4000000 in
set_option maxRecDepth 100000 in
theorem k_X4_assumableAtoms (l : Launch) (D : va_G) (cI cB : ClassId) (b : Nat) (qh : Nat) (qb : Nat) (hs : Nat → Int32) (bs : Nat → Int32) (n : Nat) (as_ : Int32) (hn : n ≤ 24) : Rd l yX4_assumableAtoms wsX4_assumableAtoms ({ frames := 0, cells := 0, slots := 0, locals := 0 }) D cI cB [.ref b] [(b, .inr (4, [.ref qh, .ref qb, .int (nI n), .int as_])), (qh, .inl (cI, 24, .inl hs)), (qb, .inl (cI, 24, .inl bs))] (.int as_) := by
  refine pu_startI (cc := cX4_assumableAtoms) (maxL := 1) (by decide) rfl (Nat.le_of_ble_eq_true rfl) ?_
  intro p e s m args below meth c Q hx hb hml hown hts hP hG hret ls hl
  have hown : s.vm.findClass RX4 = some m.cls := hown
  have hl : lv_has ls 1 [(0, .ref b)] := hl
  refine lv_aload_n hx hb dX4_assumableAtoms_0 rfl (lv_at hl 0 rfl) ?_
  refine va_get (D := D) (ci := 4) (v := .int as_) (C := RX4) (T := TX4) (N := 4) hx hb hts ilX4_assumableAtoms_4 hown hG.1 hP 0 rfl rfl 3 (by decide) (hts (.fieldLink RX4 26 "HornEngine$Rulebook" "assumable" "I") (List.mem_of_getElem? (i := 1) rfl)) (fun _ h9 => h9) rfl dX4_assumableAtoms_1 ?_
  exact hret _ _ _ rfl dX4_assumableAtoms_4
set_option maxHeartbeats 4000000 in
set_option maxRecDepth 100000 in
theorem k_X4_modelWithout (l : Launch) (D : va_G) (cI cB : ClassId) (b : Nat) (qh : Nat) (qb : Nat) (hs : Nat → Int32) (bs : Nat → Int32) (n : Nat) (as_ : Int32) (r : Nat) (hn : n ≤ 24) (hr : r < n) : Rd l yX4_modelWithout wsX4_modelWithout ({ frames := 3, cells := 0, slots := 0, locals := 70 }) D cI cB [.ref b, .int (nI r)] [(b, .inr (4, [.ref qh, .ref qb, .int (nI n), .int as_])), (qh, .inl (cI, 24, .inl hs)), (qb, .inl (cI, 24, .inl bs))] (.int (clo hs bs n (less (evr n) r) (nI 0))) := by
  refine pu_startI (cc := cX4_modelWithout) (maxL := 2) (by decide) rfl (Nat.le_of_ble_eq_true rfl) ?_
  intro p e s m args below meth c Q hx hb hml hown hts hP hG hret ls hl
  have hown : s.vm.findClass RX4 = some m.cls := hown
  have hl : lv_has ls 2 [(0, .ref b), (1, .int (nI r))] := hl
  refine lv_aload_n hx hb dX4_modelWithout_0 rfl (lv_at hl 0 rfl) ?_
  refine lv_aload_n hx hb dX4_modelWithout_1 rfl (lv_at hl 0 rfl) ?_
  refine pu_V (As := []) (rest := [.ref b]) ⟨hx, hb, hml, hown, hts⟩ hG hP (k_X4_everyRule l D cI cB b qh qb hs bs n as_ (by omega)) (cwV 0 hts gX4_modelWithout_X4_everyRule rfl rfl rfl (by decide +kernel) ⟨(Nat.le_of_ble_eq_true rfl), (Nat.le_of_ble_eq_true rfl)⟩) [0, 1, 2] rfl 0 rfl rfl rfl rfl hl.1 rfl (Nat.le_of_ble_eq_true rfl) dX4_modelWithout_2 ⟨Nat.zero_le _, Nat.zero_le _⟩ ?_
  refine lv_iconst (v := nI 1) hx hb dX4_modelWithout_5 (by decide) ?_
  refine lv_iload_n hx hb dX4_modelWithout_6 rfl (lv_at hl 1 rfl) ?_
  refine lv_ishl hx hb dX4_modelWithout_7 ?_
  refine lv_iconst (v := (-1)) hx hb dX4_modelWithout_8 (by decide) ?_
  refine lv_ixor hx hb dX4_modelWithout_9 ?_
  refine lv_iand hx hb dX4_modelWithout_10 ?_
  refine lv_iconst (v := nI 0) hx hb dX4_modelWithout_11 (by decide) ?_
  refine pu_V (As := [.int ((evr n) &&& (((nI 1) <<< ((nI r) &&& 31)) ^^^ (-1))), .int (nI 0)]) (rest := []) ⟨hx, hb, hml, hown, hts⟩ hG hP (k_X4_closure l D cI cB b qh qb hs bs n as_ ((evr n) &&& (((nI 1) <<< ((nI r) &&& 31)) ^^^ (-1))) (nI 0) (by omega)) (cwV 2 hts gX4_modelWithout_X4_closure rfl rfl rfl (by decide +kernel) ⟨(Nat.le_of_ble_eq_true rfl), (Nat.le_of_ble_eq_true rfl)⟩) [0, 1, 2] rfl 0 rfl rfl rfl rfl hl.1 rfl (Nat.le_of_ble_eq_true rfl) dX4_modelWithout_12 ⟨Nat.zero_le _, Nat.zero_le _⟩ ?_
  exact hret _ _ _ rfl dX4_modelWithout_15
set_option maxHeartbeats 4000000 in
set_option maxRecDepth 100000 in
theorem k_X4_levelOf (l : Launch) (D : va_G) (cI cB : ClassId) (b : Nat) (qh : Nat) (qb : Nat) (hs : Nat → Int32) (bs : Nat → Int32) (n : Nat) (as_ : Int32) (a : Nat) (lv : Nat) (hn : n ≤ 24) (hlv : lv < 16) (h1 : ∀ i, i < lv → has (pw (fun K => rnd hs bs (evr n) K n) (i + 1) (nI 0)) (nI a) = false) (h2 : has (pw (fun K => rnd hs bs (evr n) K n) (lv + 1) (nI 0)) (nI a) = true) : Rd l yX4_levelOf wsX4_levelOf ({ frames := 2, cells := 0, slots := 0, locals := 45 }) D cI cB [.ref b, .int (nI a)] [(b, .inr (4, [.ref qh, .ref qb, .int (nI n), .int as_])), (qh, .inl (cI, 24, .inl hs)), (qb, .inl (cI, 24, .inl bs))] (.int (nI lv)) := by
  refine pu_startI (cc := cX4_levelOf) (maxL := 4) (by decide) rfl (Nat.le_of_ble_eq_true rfl) ?_
  intro p e s m args below meth c Q hx hb hml hown hts hP hG hret ls hl
  have hown : s.vm.findClass RX4 = some m.cls := hown
  have hl : lv_has ls 4 [(0, .ref b), (1, .int (nI a))] := hl
  refine lv_iconst (v := nI 0) hx hb dX4_levelOf_0 (by decide) ?_
  refine lv_istore_n (lv' := [(2, .int (nI 0)), (0, .ref b), (1, .int (nI a))]) hx hb dX4_levelOf_1 rfl hl (by decide) rfl (fun ls hl => ?_)
  refine lv_iconst (v := nI 0) hx hb dX4_levelOf_2 (by decide) ?_
  refine lv_istore_n (lv' := [(3, .int (nI 0)), (2, .int (nI 0)), (0, .ref b), (1, .int (nI a))]) hx hb dX4_levelOf_3 rfl hl (by decide) rfl (fun ls hl => ?_)
  have lp_4_1 : ∀ (fu_4 : Nat) (k : Nat) (x2 : Int32) (hk : k ≤ lv) (e2 : x2 = pw (fun K => rnd hs bs (evr n) K n) k (nI 0)) (hfu_4 : 16 - k < fu_4) (ls : Array Slot) (hl : lv_has ls 4 [(0, .ref b), (1, .int (nI a)), (2, .int x2), (3, .int (nI k))]), W p l e ({ frames := 2, cells := 0, slots := 0, locals := 45 }) s m args below meth c s.heap [] 0 0 Q (F0 m 4 ls []) := by
    intro fu_4
    induction fu_4 with
    | zero => intro k x2 hk e2 hfu; exact absurd hfu (Nat.not_lt_zero _)
    | succ fu_4 ih_4 =>
      intro k x2 hk e2 hfu_4 ls hl
      refine lv_iload_n hx hb dX4_levelOf_4 rfl (lv_at hl 3 rfl) ?_
      refine lv_bipush (v := nI 16) hx hb dX4_levelOf_5 (by decide) ?_
      refine lv_icmp_ge (tgt := 36) hx hb dX4_levelOf_7 (by decide) (fun c_2 => ?_) (fun c_2 => ?_)
      · skip
        have c_2 : 16 ≤ k := (nI_leI (by omega) (by omega)).mp (show nI 16 ≤ nI k from c_2)
        exact absurd c_2 (by omega)
      · skip
        have c_2 : ¬ (16 ≤ k) := fun h9 => (show ¬ (nI 16 ≤ nI k) from c_2) ((nI_leI (by omega) (by omega)).mpr h9)
        refine lv_aload_n hx hb dX4_levelOf_10 rfl (lv_at hl 0 rfl) ?_
        refine lv_aload_n hx hb dX4_levelOf_11 rfl (lv_at hl 0 rfl) ?_
        refine pu_V (As := []) (rest := [.ref b]) ⟨hx, hb, hml, hown, hts⟩ hG hP (k_X4_everyRule l D cI cB b qh qb hs bs n as_ (by omega)) (cwV 0 hts gX4_levelOf_X4_everyRule rfl rfl rfl (by decide +kernel) ⟨(Nat.le_of_ble_eq_true rfl), (Nat.le_of_ble_eq_true rfl)⟩) [0, 1, 2] rfl 0 rfl rfl rfl rfl hl.1 rfl (Nat.le_of_ble_eq_true rfl) dX4_levelOf_12 ⟨Nat.zero_le _, Nat.zero_le _⟩ ?_
        refine lv_iload_n hx hb dX4_levelOf_15 rfl (lv_at hl 2 rfl) ?_
        refine pu_V (As := [.int (evr n), .int x2]) (rest := []) ⟨hx, hb, hml, hown, hts⟩ hG hP (k_X4_afterOneRound l D cI cB b qh qb hs bs n as_ (evr n) x2 (by omega)) (cwV 2 hts gX4_levelOf_X4_afterOneRound rfl rfl rfl (by decide +kernel) ⟨(Nat.le_of_ble_eq_true rfl), (Nat.le_of_ble_eq_true rfl)⟩) [0, 1, 2] rfl 0 rfl rfl rfl rfl hl.1 rfl (Nat.le_of_ble_eq_true rfl) dX4_levelOf_16 ⟨Nat.zero_le _, Nat.zero_le _⟩ ?_
        refine lv_istore_n (lv' := [(2, .int (rnd hs bs (evr n) x2 n)), (0, .ref b), (1, .int (nI a)), (3, .int (nI k))]) hx hb dX4_levelOf_19 rfl hl (by decide) rfl (fun ls hl => ?_)
        refine lv_iload_n hx hb dX4_levelOf_20 rfl (lv_at hl 0 rfl) ?_
        refine lv_iload_n hx hb dX4_levelOf_21 rfl (lv_at hl 2 rfl) ?_
        refine pu_SN (As := [.int (rnd hs bs (evr n) x2 n), .int (nI a)]) (rest := []) ⟨hx, hb, hml, hown, hts⟩ hG hP (k_X5_contains l D cI cB (rnd hs bs (evr n) x2 n) (nI a) ) (va_cnB 2 hts gX4_levelOf_X5_contains_n44 rfl rfl rfl (hG.2 _ (List.mem_of_getElem? (i := 5) rfl)) (hts (.initialized RX5) (List.mem_of_getElem? (i := 14) rfl)) (by decide +kernel) ⟨(Nat.le_of_ble_eq_true rfl), (Nat.le_of_ble_eq_true rfl)⟩) (hts (.static yX5_contains) (List.mem_of_getElem? (i := 13) rfl)) [] rfl rfl hl.1 rfl (Nat.le_of_ble_eq_true rfl) dX4_levelOf_22 ⟨Nat.zero_le _, Nat.zero_le _⟩ ?_
        refine lv_if_eq (tgt := 30) hx hb dX4_levelOf_25 (by decide) (fun c_3 => ?_) (fun c_3 => ?_)
        · skip
          have c_3 : (has (rnd hs bs (evr n) x2 n) (nI a)) = false := bI_f.mp c_3
          refine lv_iinc (v := nI (k + 1)) (lv' := [(3, .int (nI (k + 1))), (2, .int (rnd hs bs (evr n) x2 n)), (0, .ref b), (1, .int (nI a))]) hx hb dX4_levelOf_30 hl (k := 3) rfl (nI_s1 k) (by decide) rfl (fun ls hl => ?_)
          refine lv_goto (tgt := 4) hx hb dX4_levelOf_33 (by decide) ?_
          exact ih_4 (k + 1) (rnd hs bs (evr n) x2 n) (by have h9 : k ≠ lv := fun h9 => (by subst h9; subst e2; exact absurd h2 (by rw [show pw (fun K => rnd hs bs (evr n) K n) (k + 1) (nI 0) = rnd hs bs (evr n) (pw (fun K => rnd hs bs (evr n) K n) k (nI 0)) n from rfl, c_3]; decide)); omega) (by subst e2; rfl) (by omega) ls (lv_sub hl [2, 3, 1, 0] rfl)
        · skip
          have c_3 : (has (rnd hs bs (evr n) x2 n) (nI a)) = true := bI_t.mp c_3
          refine lv_iload_n hx hb dX4_levelOf_28 rfl (lv_at hl 3 rfl) ?_
          exact hret _ _ _ (by have h9 : ¬ k < lv := fun h9 => (by have h8 := h1 k h9; subst e2; rw [show pw (fun K => rnd hs bs (evr n) K n) (k + 1) (nI 0) = rnd hs bs (evr n) (pw (fun K => rnd hs bs (evr n) K n) k (nI 0)) n from rfl, c_3] at h8; cases h8); rw [show k = lv from by omega]) dX4_levelOf_29
  exact lp_4_1 (16 - 0 + 1) 0 (nI 0) (Nat.zero_le _) rfl (Nat.lt_succ_self _) ls (lv_sub hl [2, 3, 1, 0] rfl)
set_option maxHeartbeats 4000000 in
set_option maxRecDepth 100000 in
theorem k_X4_supportsOf (l : Launch) (D : va_G) (cI cB : ClassId) (b : Nat) (qh : Nat) (qb : Nat) (hs : Nat → Int32) (bs : Nat → Int32) (n : Nat) (as_ : Int32) (a : Nat) (hn : n ≤ 24) (ha : a < 16) : Rd l yX4_supportsOf wsX4_supportsOf ({ frames := 4, cells := 0, slots := 0, locals := 90 }) D cI cB [.ref b, .int (nI a)] [(b, .inr (4, [.ref qh, .ref qb, .int (nI n), .int as_])), (qh, .inl (cI, 24, .inl hs)), (qb, .inl (cI, 24, .inl bs))] (.int (supF hs bs (mdl hs bs n) a n)) := by
  refine pu_startI (cc := cX4_supportsOf) (maxL := 5) (by decide) rfl (Nat.le_of_ble_eq_true rfl) ?_
  intro p e s m args below meth c Q hx hb hml hown hts hP hG hret ls hl
  have hown : s.vm.findClass RX4 = some m.cls := hown
  have hl : lv_has ls 5 [(0, .ref b), (1, .int (nI a))] := hl
  refine lv_aload_n hx hb dX4_supportsOf_0 rfl (lv_at hl 0 rfl) ?_
  refine pu_V (As := []) (rest := []) ⟨hx, hb, hml, hown, hts⟩ hG hP (k_X4_leastModel l D cI cB b qh qb hs bs n as_ (by omega)) (cwV 0 hts gX4_supportsOf_X4_leastModel rfl rfl rfl (by decide +kernel) ⟨(Nat.le_of_ble_eq_true rfl), (Nat.le_of_ble_eq_true rfl)⟩) [0, 1, 2] rfl 0 rfl rfl rfl rfl hl.1 rfl (Nat.le_of_ble_eq_true rfl) dX4_supportsOf_1 ⟨Nat.zero_le _, Nat.zero_le _⟩ ?_
  refine lv_istore_n (lv' := [(2, .int (mdl hs bs n)), (0, .ref b), (1, .int (nI a))]) hx hb dX4_supportsOf_4 rfl hl (by decide) rfl (fun ls hl => ?_)
  refine lv_iconst (v := nI 0) hx hb dX4_supportsOf_5 (by decide) ?_
  refine lv_istore_n (lv' := [(3, .int (nI 0)), (2, .int (mdl hs bs n)), (0, .ref b), (1, .int (nI a))]) hx hb dX4_supportsOf_6 rfl hl (by decide) rfl (fun ls hl => ?_)
  refine lv_iconst (v := nI 0) hx hb dX4_supportsOf_7 (by decide) ?_
  refine lv_istore (lv' := [(4, .int (nI 0)), (3, .int (nI 0)), (2, .int (mdl hs bs n)), (0, .ref b), (1, .int (nI a))]) hx hb dX4_supportsOf_8 hl (by decide) rfl (fun ls hl => ?_)
  have lp_10_1 : ∀ (fu_10 : Nat) (r : Nat) (x3 : Int32) (hr : r ≤ n) (e3 : x3 = supF hs bs (mdl hs bs n) a r) (hfu_10 : n - r < fu_10) (ls : Array Slot) (hl : lv_has ls 5 [(0, .ref b), (1, .int (nI a)), (2, .int (mdl hs bs n)), (3, .int x3), (4, .int (nI r))]), W p l e ({ frames := 4, cells := 0, slots := 0, locals := 90 }) s m args below meth c s.heap [] 0 0 Q (F0 m 10 ls []) := by
    intro fu_10
    induction fu_10 with
    | zero => intro r x3 hr e3 hfu; exact absurd hfu (Nat.not_lt_zero _)
    | succ fu_10 ih_10 =>
      intro r x3 hr e3 hfu_10 ls hl
      refine lv_iload hx hb dX4_supportsOf_10 (lv_at hl 4 rfl) ?_
      refine lv_aload_n hx hb dX4_supportsOf_12 rfl (lv_at hl 0 rfl) ?_
      refine va_get (D := D) (ci := 4) (v := .int (nI n)) (C := RX4) (T := TX4) (N := 4) hx hb hts ilX4_supportsOf_4 hown hG.1 hP 0 rfl rfl 2 (by decide) (hts (.fieldLink RX4 18 "HornEngine$Rulebook" "count" "I") (List.mem_of_getElem? (i := 1) rfl)) (fun _ h9 => h9) rfl dX4_supportsOf_13 ?_
      refine lv_icmp_ge (tgt := 57) hx hb dX4_supportsOf_16 (by decide) (fun c_2 => ?_) (fun c_2 => ?_)
      · skip
        have c_2 : n ≤ r := (nI_leI (by omega) (by omega)).mp (show nI n ≤ nI r from c_2)
        refine lv_iload_n hx hb dX4_supportsOf_57 rfl (lv_at hl 3 rfl) ?_
        exact hret _ _ _ (by rw [e3, show r = n from by omega]) dX4_supportsOf_58
      · skip
        have c_2 : ¬ (n ≤ r) := fun h9 => (show ¬ (nI n ≤ nI r) from c_2) ((nI_leI (by omega) (by omega)).mpr h9)
        refine lv_aload_n hx hb dX4_supportsOf_19 rfl (lv_at hl 0 rfl) ?_
        refine va_get (D := D) (ci := 4) (v := .ref qh) (C := RX4) (T := TX4) (N := 4) hx hb hts ilX4_supportsOf_4 hown hG.1 hP 0 rfl rfl 0 (by decide) (hts (.fieldLink RX4 9 "HornEngine$Rulebook" "heads" "[I") (List.mem_of_getElem? (i := 2) rfl)) (fun _ h9 => h9) rfl dX4_supportsOf_20 ?_
        refine lv_iload hx hb dX4_supportsOf_23 (lv_at hl 4 rfl) ?_
        refine ia_ld hx hb hG hP 1 rfl r rfl (by omega) (by decide) dX4_supportsOf_25 ?_
        refine lv_iload_n hx hb dX4_supportsOf_26 rfl (lv_at hl 1 rfl) ?_
        refine lv_icmp_ne (tgt := 51) hx hb dX4_supportsOf_27 (by decide) (fun c_3 => ?_) (fun c_3 => ?_)
        · skip
          refine lv_iinc (v := nI (r + 1)) (lv' := [(4, .int (nI (r + 1))), (0, .ref b), (1, .int (nI a)), (2, .int (mdl hs bs n)), (3, .int x3)]) hx hb dX4_supportsOf_51 hl (k := 4) rfl (nI_s1 r) (by decide) rfl (fun ls hl => ?_)
          refine lv_goto (tgt := 10) hx hb dX4_supportsOf_54 (by decide) ?_
          exact ih_10 (r + 1) x3 (by omega) (by subst e3; simp only [supF, decide_true, decide_false, reduceIte, Bool.false_eq_true, not_true_eq_false, not_false_eq_true, and_self, and_true, true_and, and_false, false_and, c_2, c_3]) (by omega) ls (lv_sub hl [1, 2, 3, 4, 0] rfl)
        · skip
          refine lv_aload_n hx hb dX4_supportsOf_30 rfl (lv_at hl 0 rfl) ?_
          refine va_get (D := D) (ci := 4) (v := .ref qb) (C := RX4) (T := TX4) (N := 4) hx hb hts ilX4_supportsOf_4 hown hG.1 hP 0 rfl rfl 1 (by decide) (hts (.fieldLink RX4 15 "HornEngine$Rulebook" "bodies" "[I") (List.mem_of_getElem? (i := 3) rfl)) (fun _ h9 => h9) rfl dX4_supportsOf_31 ?_
          refine lv_iload hx hb dX4_supportsOf_34 (lv_at hl 4 rfl) ?_
          refine ia_ld hx hb hG hP 2 rfl r rfl (by omega) (by decide) dX4_supportsOf_36 ?_
          refine lv_iload_n hx hb dX4_supportsOf_37 rfl (lv_at hl 2 rfl) ?_
          refine pu_SN (As := [.int (bs r), .int (mdl hs bs n)]) (rest := []) ⟨hx, hb, hml, hown, hts⟩ hG hP (k_X5_isSubset l D cI cB (bs r) (mdl hs bs n) ) (va_cnB 2 hts gX4_supportsOf_X5_isSubset_n51 rfl rfl rfl (hG.2 _ (List.mem_of_getElem? (i := 6) rfl)) (hts (.initialized RX5) (List.mem_of_getElem? (i := 22) rfl)) (by decide +kernel) ⟨(Nat.le_of_ble_eq_true rfl), (Nat.le_of_ble_eq_true rfl)⟩) (hts (.static yX5_isSubset) (List.mem_of_getElem? (i := 24) rfl)) [] rfl rfl hl.1 rfl (Nat.le_of_ble_eq_true rfl) dX4_supportsOf_38 ⟨Nat.zero_le _, Nat.zero_le _⟩ ?_
          refine lv_if_eq (tgt := 51) hx hb dX4_supportsOf_41 (by decide) (fun c_4 => ?_) (fun c_4 => ?_)
          · skip
            have c_4 : (sbs (bs r) (mdl hs bs n)) = false := bI_f.mp c_4
            refine lv_iinc (v := nI (r + 1)) (lv' := [(4, .int (nI (r + 1))), (0, .ref b), (1, .int (nI a)), (2, .int (mdl hs bs n)), (3, .int x3)]) hx hb dX4_supportsOf_51 hl (k := 4) rfl (nI_s1 r) (by decide) rfl (fun ls hl => ?_)
            refine lv_goto (tgt := 10) hx hb dX4_supportsOf_54 (by decide) ?_
            exact ih_10 (r + 1) x3 (by omega) (by subst e3; simp only [supF, decide_true, decide_false, reduceIte, Bool.false_eq_true, not_true_eq_false, not_false_eq_true, and_self, and_true, true_and, and_false, false_and, c_2, c_3, c_4]) (by omega) ls (lv_sub hl [1, 2, 3, 4, 0] rfl)
          · skip
            have c_4 : (sbs (bs r) (mdl hs bs n)) = true := bI_t.mp c_4
            refine lv_iload_n hx hb dX4_supportsOf_44 rfl (lv_at hl 3 rfl) ?_
            refine lv_iconst (v := nI 1) hx hb dX4_supportsOf_45 (by decide) ?_
            refine lv_iload hx hb dX4_supportsOf_46 (lv_at hl 4 rfl) ?_
            refine lv_ishl hx hb dX4_supportsOf_48 ?_
            refine lv_ior hx hb dX4_supportsOf_49 ?_
            refine lv_istore_n (lv' := [(3, .int (x3 ||| ((nI 1) <<< ((nI r) &&& 31)))), (0, .ref b), (1, .int (nI a)), (2, .int (mdl hs bs n)), (4, .int (nI r))]) hx hb dX4_supportsOf_50 rfl hl (by decide) rfl (fun ls hl => ?_)
            refine lv_iinc (v := nI (r + 1)) (lv' := [(4, .int (nI (r + 1))), (3, .int (x3 ||| ((nI 1) <<< ((nI r) &&& 31)))), (0, .ref b), (1, .int (nI a)), (2, .int (mdl hs bs n))]) hx hb dX4_supportsOf_51 hl (k := 4) rfl (nI_s1 r) (by decide) rfl (fun ls hl => ?_)
            refine lv_goto (tgt := 10) hx hb dX4_supportsOf_54 (by decide) ?_
            exact ih_10 (r + 1) (x3 ||| ((nI 1) <<< ((nI r) &&& 31))) (by omega) (by subst e3; simp only [supF, decide_true, decide_false, reduceIte, Bool.false_eq_true, not_true_eq_false, not_false_eq_true, and_self, and_true, true_and, and_false, false_and, c_2, c_3, c_4]) (by omega) ls (lv_sub hl [2, 3, 4, 1, 0] rfl)
  exact lp_10_1 (n - 0 + 1) 0 (nI 0) (by omega) rfl (Nat.lt_succ_self _) ls (lv_sub hl [3, 4, 2, 1, 0] rfl)
set_option maxHeartbeats 4000000 in
set_option maxRecDepth 100000 in
theorem k_X4_reasonFor (l : Launch) (D : va_G) (cI cB : ClassId) (b : Nat) (qh : Nat) (qb : Nat) (hs : Nat → Int32) (bs : Nat → Int32) (n : Nat) (as_ : Int32) (a : Nat) (hn : n ≤ 24) (ha : a < 16) : Rd l yX4_reasonFor wsX4_reasonFor ({ frames := 3, cells := 0, slots := 0, locals := 70 }) D cI cB [.ref b, .int (nI a)] [(b, .inr (4, [.ref qh, .ref qb, .int (nI n), .int as_])), (qh, .inl (cI, 24, .inl hs)), (qb, .inl (cI, 24, .inl bs))] (.int (reaF hs bs n a n)) := by
  refine pu_startI (cc := cX4_reasonFor) (maxL := 5) (by decide) rfl (Nat.le_of_ble_eq_true rfl) ?_
  intro p e s m args below meth c Q hx hb hml hown hts hP hG hret ls hl
  have hown : s.vm.findClass RX4 = some m.cls := hown
  have hl : lv_has ls 5 [(0, .ref b), (1, .int (nI a))] := hl
  refine lv_aload_n hx hb dX4_reasonFor_0 rfl (lv_at hl 0 rfl) ?_
  refine pu_V (As := []) (rest := []) ⟨hx, hb, hml, hown, hts⟩ hG hP (k_X4_everyRule l D cI cB b qh qb hs bs n as_ (by omega)) (cwV 0 hts gX4_reasonFor_X4_everyRule rfl rfl rfl (by decide +kernel) ⟨(Nat.le_of_ble_eq_true rfl), (Nat.le_of_ble_eq_true rfl)⟩) [0, 1, 2] rfl 0 rfl rfl rfl rfl hl.1 rfl (Nat.le_of_ble_eq_true rfl) dX4_reasonFor_1 ⟨Nat.zero_le _, Nat.zero_le _⟩ ?_
  refine lv_istore_n (lv' := [(2, .int (evr n)), (0, .ref b), (1, .int (nI a))]) hx hb dX4_reasonFor_4 rfl hl (by decide) rfl (fun ls hl => ?_)
  refine lv_aload_n hx hb dX4_reasonFor_5 rfl (lv_at hl 1 rfl) ?_
  refine va_get (D := D) (ci := 4) (v := .int (nI n)) (C := RX4) (T := TX4) (N := 4) hx hb hts ilX4_reasonFor_4 hown hG.1 hP 0 rfl rfl 2 (by decide) (hts (.fieldLink RX4 18 "HornEngine$Rulebook" "count" "I") (List.mem_of_getElem? (i := 1) rfl)) (fun _ h9 => h9) rfl dX4_reasonFor_6 ?_
  refine lv_iconst (v := nI 1) hx hb dX4_reasonFor_9 (by decide) ?_
  refine lv_isub hx hb dX4_reasonFor_10 ?_
  refine lv_istore_n (lv' := [(3, .int ((nI n) - (nI 1))), (2, .int (evr n)), (0, .ref b), (1, .int (nI a))]) hx hb dX4_reasonFor_11 rfl hl (by decide) rfl (fun ls hl => ?_)
  have lp_12_1 : ∀ (fu_12 : Nat) (j : Nat) (x2 : Int32) (hj : j ≤ n) (e2 : x2 = reaF hs bs n a (n - j)) (hfu_12 : j < fu_12) (ls : Array Slot) (hl : lv_has ls 5 [(0, .ref b), (1, .int (nI a)), (2, .int x2), (3, .int (nI j - nI 1))]), W p l e ({ frames := 3, cells := 0, slots := 0, locals := 70 }) s m args below meth c s.heap [] 0 0 Q (F0 m 12 ls []) := by
    intro fu_12
    induction fu_12 with
    | zero => intro j x2 hj e2 hfu; exact absurd hfu (Nat.not_lt_zero _)
    | succ fu_12 ih_12 =>
      intro j x2 hj e2 hfu_12 ls hl
      refine lv_iload_n hx hb dX4_reasonFor_12 rfl (lv_at hl 3 rfl) ?_
      refine lv_if_lt (tgt := 48) hx hb dX4_reasonFor_13 (by decide) (fun c_2 => ?_) (fun c_2 => ?_)
      · skip
        have hj0 := nI_dn c_2 (by omega)
        refine lv_iload_n hx hb dX4_reasonFor_48 rfl (lv_at hl 2 rfl) ?_
        exact hret _ _ _ (by rw [e2, hj0]; rfl) dX4_reasonFor_49
      · skip
        obtain ⟨i, rfl⟩ := nI_up c_2
        have hl : lv_has ls 5 [(0, .ref b), (1, .int (nI a)), (2, .int x2), (3, .int (nI i))] := by rw [← nI_pred i]; exact hl
        refine lv_iload_n hx hb dX4_reasonFor_16 rfl (lv_at hl 2 rfl) ?_
        refine lv_iconst (v := nI 1) hx hb dX4_reasonFor_17 (by decide) ?_
        refine lv_iload_n hx hb dX4_reasonFor_18 rfl (lv_at hl 3 rfl) ?_
        refine lv_ishl hx hb dX4_reasonFor_19 ?_
        refine lv_iconst (v := (-1)) hx hb dX4_reasonFor_20 (by decide) ?_
        refine lv_ixor hx hb dX4_reasonFor_21 ?_
        refine lv_iand hx hb dX4_reasonFor_22 ?_
        refine lv_istore (lv' := [(4, .int (x2 &&& (((nI 1) <<< ((nI i) &&& 31)) ^^^ (-1)))), (0, .ref b), (1, .int (nI a)), (2, .int x2), (3, .int (nI i))]) hx hb dX4_reasonFor_23 hl (by decide) rfl (fun ls hl => ?_)
        refine lv_aload_n hx hb dX4_reasonFor_25 rfl (lv_at hl 1 rfl) ?_
        refine lv_iload hx hb dX4_reasonFor_26 (lv_at hl 0 rfl) ?_
        refine lv_iconst (v := nI 0) hx hb dX4_reasonFor_28 (by decide) ?_
        refine pu_V (As := [.int (x2 &&& (((nI 1) <<< ((nI i) &&& 31)) ^^^ (-1))), .int (nI 0)]) (rest := []) ⟨hx, hb, hml, hown, hts⟩ hG hP (k_X4_closure l D cI cB b qh qb hs bs n as_ (x2 &&& (((nI 1) <<< ((nI i) &&& 31)) ^^^ (-1))) (nI 0) (by omega)) (cwV 2 hts gX4_reasonFor_X4_closure rfl rfl rfl (by decide +kernel) ⟨(Nat.le_of_ble_eq_true rfl), (Nat.le_of_ble_eq_true rfl)⟩) [0, 1, 2] rfl 0 rfl rfl rfl rfl hl.1 rfl (Nat.le_of_ble_eq_true rfl) dX4_reasonFor_29 ⟨Nat.zero_le _, Nat.zero_le _⟩ ?_
        refine lv_iload_n hx hb dX4_reasonFor_32 rfl (lv_at hl 2 rfl) ?_
        refine pu_SN (As := [.int (clo hs bs n (x2 &&& (((nI 1) <<< ((nI i) &&& 31)) ^^^ (-1))) (nI 0)), .int (nI a)]) (rest := []) ⟨hx, hb, hml, hown, hts⟩ hG hP (k_X5_contains l D cI cB (clo hs bs n (x2 &&& (((nI 1) <<< ((nI i) &&& 31)) ^^^ (-1))) (nI 0)) (nI a) ) (va_cnB 2 hts gX4_reasonFor_X5_contains_n44 rfl rfl rfl (hG.2 _ (List.mem_of_getElem? (i := 5) rfl)) (hts (.initialized RX5) (List.mem_of_getElem? (i := 18) rfl)) (by decide +kernel) ⟨(Nat.le_of_ble_eq_true rfl), (Nat.le_of_ble_eq_true rfl)⟩) (hts (.static yX5_contains) (List.mem_of_getElem? (i := 17) rfl)) [] rfl rfl hl.1 rfl (Nat.le_of_ble_eq_true rfl) dX4_reasonFor_33 ⟨Nat.zero_le _, Nat.zero_le _⟩ ?_
        refine lv_if_eq (tgt := 42) hx hb dX4_reasonFor_36 (by decide) (fun c_3 => ?_) (fun c_3 => ?_)
        · skip
          have c_3 : (has (clo hs bs n (x2 &&& (((nI 1) <<< ((nI i) &&& 31)) ^^^ (-1))) (nI 0)) (nI a)) = false := bI_f.mp c_3
          refine lv_iinc (v := nI i - nI 1) (lv' := [(3, .int (nI i - nI 1)), (4, .int (x2 &&& (((nI 1) <<< ((nI i) &&& 31)) ^^^ (-1)))), (0, .ref b), (1, .int (nI a)), (2, .int x2)]) hx hb dX4_reasonFor_42 hl (k := 4) rfl (nI_m1 i) (by decide) rfl (fun ls hl => ?_)
          refine lv_goto (tgt := 12) hx hb dX4_reasonFor_45 (by decide) ?_
          exact ih_12 i x2 (by omega) (by subst e2; rw [show n - i = (n - (i + 1)) + 1 from by omega]; simp only [reaF, less, show n - 1 - (n - (i + 1)) = i from by omega, decide_true, decide_false, reduceIte, Bool.false_eq_true, not_true_eq_false, not_false_eq_true, and_self, and_true, true_and, and_false, false_and, c_3]; try rfl) (by omega) ls (lv_sub hl [2, 3, 4, 0] rfl)
        · skip
          have c_3 : (has (clo hs bs n (x2 &&& (((nI 1) <<< ((nI i) &&& 31)) ^^^ (-1))) (nI 0)) (nI a)) = true := bI_t.mp c_3
          refine lv_iload hx hb dX4_reasonFor_39 (lv_at hl 0 rfl) ?_
          refine lv_istore_n (lv' := [(2, .int (x2 &&& (((nI 1) <<< ((nI i) &&& 31)) ^^^ (-1)))), (4, .int (x2 &&& (((nI 1) <<< ((nI i) &&& 31)) ^^^ (-1)))), (0, .ref b), (1, .int (nI a)), (3, .int (nI i))]) hx hb dX4_reasonFor_41 rfl hl (by decide) rfl (fun ls hl => ?_)
          refine lv_iinc (v := nI i - nI 1) (lv' := [(3, .int (nI i - nI 1)), (2, .int (x2 &&& (((nI 1) <<< ((nI i) &&& 31)) ^^^ (-1)))), (4, .int (x2 &&& (((nI 1) <<< ((nI i) &&& 31)) ^^^ (-1)))), (0, .ref b), (1, .int (nI a))]) hx hb dX4_reasonFor_42 hl (k := 4) rfl (nI_m1 i) (by decide) rfl (fun ls hl => ?_)
          refine lv_goto (tgt := 12) hx hb dX4_reasonFor_45 (by decide) ?_
          exact ih_12 i (x2 &&& (((nI 1) <<< ((nI i) &&& 31)) ^^^ (-1))) (by omega) (by subst e2; rw [show n - i = (n - (i + 1)) + 1 from by omega]; simp only [reaF, less, show n - 1 - (n - (i + 1)) = i from by omega, decide_true, decide_false, reduceIte, Bool.false_eq_true, not_true_eq_false, not_false_eq_true, and_self, and_true, true_and, and_false, false_and, c_3]; try rfl) (by omega) ls (lv_sub hl [3, 4, 1, 0] rfl)
  exact lp_12_1 (n + 1) n (evr n) (Nat.le_refl _) (by rw [Nat.sub_self]; rfl) (Nat.lt_succ_self _) ls (lv_sub hl [2, 3, 1, 0] rfl)
set_option maxHeartbeats 4000000 in
set_option maxRecDepth 100000 in
theorem k_X4_necessaryFor (l : Launch) (D : va_G) (cI cB : ClassId) (b : Nat) (qh : Nat) (qb : Nat) (hs : Nat → Int32) (bs : Nat → Int32) (n : Nat) (as_ : Int32) (a : Nat) (hn : n ≤ 24) (ha : a < 16) : Rd l yX4_necessaryFor wsX4_necessaryFor ({ frames := 4, cells := 0, slots := 0, locals := 91 }) D cI cB [.ref b, .int (nI a)] [(b, .inr (4, [.ref qh, .ref qb, .int (nI n), .int as_])), (qh, .inl (cI, 24, .inl hs)), (qb, .inl (cI, 24, .inl bs))] (.int (necF hs bs n a n)) := by
  refine pu_startI (cc := cX4_necessaryFor) (maxL := 4) (by decide) rfl (Nat.le_of_ble_eq_true rfl) ?_
  intro p e s m args below meth c Q hx hb hml hown hts hP hG hret ls hl
  have hown : s.vm.findClass RX4 = some m.cls := hown
  have hl : lv_has ls 4 [(0, .ref b), (1, .int (nI a))] := hl
  refine lv_iconst (v := nI 0) hx hb dX4_necessaryFor_0 (by decide) ?_
  refine lv_istore_n (lv' := [(2, .int (nI 0)), (0, .ref b), (1, .int (nI a))]) hx hb dX4_necessaryFor_1 rfl hl (by decide) rfl (fun ls hl => ?_)
  refine lv_iconst (v := nI 0) hx hb dX4_necessaryFor_2 (by decide) ?_
  refine lv_istore_n (lv' := [(3, .int (nI 0)), (2, .int (nI 0)), (0, .ref b), (1, .int (nI a))]) hx hb dX4_necessaryFor_3 rfl hl (by decide) rfl (fun ls hl => ?_)
  have lp_4_1 : ∀ (fu_4 : Nat) (r : Nat) (x2 : Int32) (hr : r ≤ n) (e2 : x2 = necF hs bs n a r) (hfu_4 : n - r < fu_4) (ls : Array Slot) (hl : lv_has ls 4 [(0, .ref b), (1, .int (nI a)), (2, .int x2), (3, .int (nI r))]), W p l e ({ frames := 4, cells := 0, slots := 0, locals := 91 }) s m args below meth c s.heap [] 0 0 Q (F0 m 4 ls []) := by
    intro fu_4
    induction fu_4 with
    | zero => intro r x2 hr e2 hfu; exact absurd hfu (Nat.not_lt_zero _)
    | succ fu_4 ih_4 =>
      intro r x2 hr e2 hfu_4 ls hl
      refine lv_iload_n hx hb dX4_necessaryFor_4 rfl (lv_at hl 3 rfl) ?_
      refine lv_aload_n hx hb dX4_necessaryFor_5 rfl (lv_at hl 0 rfl) ?_
      refine va_get (D := D) (ci := 4) (v := .int (nI n)) (C := RX4) (T := TX4) (N := 4) hx hb hts ilX4_necessaryFor_4 hown hG.1 hP 0 rfl rfl 2 (by decide) (hts (.fieldLink RX4 18 "HornEngine$Rulebook" "count" "I") (List.mem_of_getElem? (i := 1) rfl)) (fun _ h9 => h9) rfl dX4_necessaryFor_6 ?_
      refine lv_icmp_ge (tgt := 36) hx hb dX4_necessaryFor_9 (by decide) (fun c_2 => ?_) (fun c_2 => ?_)
      · skip
        have c_2 : n ≤ r := (nI_leI (by omega) (by omega)).mp (show nI n ≤ nI r from c_2)
        refine lv_iload_n hx hb dX4_necessaryFor_36 rfl (lv_at hl 2 rfl) ?_
        exact hret _ _ _ (by rw [e2, show r = n from by omega]) dX4_necessaryFor_37
      · skip
        have c_2 : ¬ (n ≤ r) := fun h9 => (show ¬ (nI n ≤ nI r) from c_2) ((nI_leI (by omega) (by omega)).mpr h9)
        refine lv_aload_n hx hb dX4_necessaryFor_12 rfl (lv_at hl 0 rfl) ?_
        refine lv_iload_n hx hb dX4_necessaryFor_13 rfl (lv_at hl 3 rfl) ?_
        refine pu_V (As := [.int (nI r)]) (rest := []) ⟨hx, hb, hml, hown, hts⟩ hG hP (k_X4_modelWithout l D cI cB b qh qb hs bs n as_ r (by omega) (by omega)) (cwV 1 hts gX4_necessaryFor_X4_modelWithout rfl rfl rfl (by decide +kernel) ⟨(Nat.le_of_ble_eq_true rfl), (Nat.le_of_ble_eq_true rfl)⟩) [0, 1, 2] rfl 0 rfl rfl rfl rfl hl.1 rfl (Nat.le_of_ble_eq_true rfl) dX4_necessaryFor_14 ⟨Nat.zero_le _, Nat.zero_le _⟩ ?_
        refine lv_iload_n hx hb dX4_necessaryFor_17 rfl (lv_at hl 1 rfl) ?_
        refine pu_SN (As := [.int (clo hs bs n (less (evr n) r) (nI 0)), .int (nI a)]) (rest := []) ⟨hx, hb, hml, hown, hts⟩ hG hP (k_X5_contains l D cI cB (clo hs bs n (less (evr n) r) (nI 0)) (nI a) ) (va_cnB 2 hts gX4_necessaryFor_X5_contains_n44 rfl rfl rfl (hG.2 _ (List.mem_of_getElem? (i := 5) rfl)) (hts (.initialized RX5) (List.mem_of_getElem? (i := 22) rfl)) (by decide +kernel) ⟨(Nat.le_of_ble_eq_true rfl), (Nat.le_of_ble_eq_true rfl)⟩) (hts (.static yX5_contains) (List.mem_of_getElem? (i := 21) rfl)) [] rfl rfl hl.1 rfl (Nat.le_of_ble_eq_true rfl) dX4_necessaryFor_18 ⟨Nat.zero_le _, Nat.zero_le _⟩ ?_
        refine lv_if_ne (tgt := 30) hx hb dX4_necessaryFor_21 (by decide) (fun c_3 => ?_) (fun c_3 => ?_)
        · skip
          have c_3 : (has (clo hs bs n (less (evr n) r) (nI 0)) (nI a)) = true := bI_t.mp c_3
          refine lv_iinc (v := nI (r + 1)) (lv' := [(3, .int (nI (r + 1))), (0, .ref b), (1, .int (nI a)), (2, .int x2)]) hx hb dX4_necessaryFor_30 hl (k := 3) rfl (nI_s1 r) (by decide) rfl (fun ls hl => ?_)
          refine lv_goto (tgt := 4) hx hb dX4_necessaryFor_33 (by decide) ?_
          exact ih_4 (r + 1) x2 (by omega) (by subst e2; simp only [necF, decide_true, decide_false, reduceIte, Bool.false_eq_true, not_true_eq_false, not_false_eq_true, and_self, and_true, true_and, and_false, false_and, c_3]) (by omega) ls (lv_sub hl [1, 2, 3, 0] rfl)
        · skip
          have c_3 : (has (clo hs bs n (less (evr n) r) (nI 0)) (nI a)) = false := bI_f.mp c_3
          refine lv_iload_n hx hb dX4_necessaryFor_24 rfl (lv_at hl 2 rfl) ?_
          refine lv_iconst (v := nI 1) hx hb dX4_necessaryFor_25 (by decide) ?_
          refine lv_iload_n hx hb dX4_necessaryFor_26 rfl (lv_at hl 3 rfl) ?_
          refine lv_ishl hx hb dX4_necessaryFor_27 ?_
          refine lv_ior hx hb dX4_necessaryFor_28 ?_
          refine lv_istore_n (lv' := [(2, .int (x2 ||| ((nI 1) <<< ((nI r) &&& 31)))), (0, .ref b), (1, .int (nI a)), (3, .int (nI r))]) hx hb dX4_necessaryFor_29 rfl hl (by decide) rfl (fun ls hl => ?_)
          refine lv_iinc (v := nI (r + 1)) (lv' := [(3, .int (nI (r + 1))), (2, .int (x2 ||| ((nI 1) <<< ((nI r) &&& 31)))), (0, .ref b), (1, .int (nI a))]) hx hb dX4_necessaryFor_30 hl (k := 3) rfl (nI_s1 r) (by decide) rfl (fun ls hl => ?_)
          refine lv_goto (tgt := 4) hx hb dX4_necessaryFor_33 (by decide) ?_
          exact ih_4 (r + 1) (x2 ||| ((nI 1) <<< ((nI r) &&& 31))) (by omega) (by subst e2; simp only [necF, decide_true, decide_false, reduceIte, Bool.false_eq_true, not_true_eq_false, not_false_eq_true, and_self, and_true, true_and, and_false, false_and, c_3]) (by omega) ls (lv_sub hl [2, 3, 1, 0] rfl)
  exact lp_4_1 (n - 0 + 1) 0 (nI 0) (by omega) rfl (Nat.lt_succ_self _) ls (lv_sub hl [2, 3, 1, 0] rfl)
set_option maxHeartbeats 4000000 in
set_option maxRecDepth 100000 in
theorem k_X4_bodiesUnder (l : Launch) (D : va_G) (cI cB : ClassId) (b : Nat) (qh : Nat) (qb : Nat) (hs : Nat → Int32) (bs : Nat → Int32) (n : Nat) (as_ : Int32) (X : Int32) (hn : n ≤ 24) : Rd l yX4_bodiesUnder wsX4_bodiesUnder ({ frames := 1, cells := 0, slots := 0, locals := 21 }) D cI cB [.ref b, .int X] [(b, .inr (4, [.ref qh, .ref qb, .int (nI n), .int as_])), (qh, .inl (cI, 24, .inl hs)), (qb, .inl (cI, 24, .inl bs))] (.int (bunF hs bs X n)) := by
  refine pu_startI (cc := cX4_bodiesUnder) (maxL := 4) (by decide) rfl (Nat.le_of_ble_eq_true rfl) ?_
  intro p e s m args below meth c Q hx hb hml hown hts hP hG hret ls hl
  have hown : s.vm.findClass RX4 = some m.cls := hown
  have hl : lv_has ls 4 [(0, .ref b), (1, .int X)] := hl
  refine lv_iconst (v := nI 0) hx hb dX4_bodiesUnder_0 (by decide) ?_
  refine lv_istore_n (lv' := [(2, .int (nI 0)), (0, .ref b), (1, .int X)]) hx hb dX4_bodiesUnder_1 rfl hl (by decide) rfl (fun ls hl => ?_)
  refine lv_iconst (v := nI 0) hx hb dX4_bodiesUnder_2 (by decide) ?_
  refine lv_istore_n (lv' := [(3, .int (nI 0)), (2, .int (nI 0)), (0, .ref b), (1, .int X)]) hx hb dX4_bodiesUnder_3 rfl hl (by decide) rfl (fun ls hl => ?_)
  have lp_4_1 : ∀ (fu_4 : Nat) (r : Nat) (x2 : Int32) (hr : r ≤ n) (e2 : x2 = bunF hs bs X r) (hfu_4 : n - r < fu_4) (ls : Array Slot) (hl : lv_has ls 4 [(0, .ref b), (1, .int X), (2, .int x2), (3, .int (nI r))]), W p l e ({ frames := 1, cells := 0, slots := 0, locals := 21 }) s m args below meth c s.heap [] 0 0 Q (F0 m 4 ls []) := by
    intro fu_4
    induction fu_4 with
    | zero => intro r x2 hr e2 hfu; exact absurd hfu (Nat.not_lt_zero _)
    | succ fu_4 ih_4 =>
      intro r x2 hr e2 hfu_4 ls hl
      refine lv_iload_n hx hb dX4_bodiesUnder_4 rfl (lv_at hl 3 rfl) ?_
      refine lv_aload_n hx hb dX4_bodiesUnder_5 rfl (lv_at hl 0 rfl) ?_
      refine va_get (D := D) (ci := 4) (v := .int (nI n)) (C := RX4) (T := TX4) (N := 4) hx hb hts ilX4_bodiesUnder_4 hown hG.1 hP 0 rfl rfl 2 (by decide) (hts (.fieldLink RX4 18 "HornEngine$Rulebook" "count" "I") (List.mem_of_getElem? (i := 1) rfl)) (fun _ h9 => h9) rfl dX4_bodiesUnder_6 ?_
      refine lv_icmp_ge (tgt := 40) hx hb dX4_bodiesUnder_9 (by decide) (fun c_2 => ?_) (fun c_2 => ?_)
      · skip
        have c_2 : n ≤ r := (nI_leI (by omega) (by omega)).mp (show nI n ≤ nI r from c_2)
        refine lv_iload_n hx hb dX4_bodiesUnder_40 rfl (lv_at hl 2 rfl) ?_
        exact hret _ _ _ (by rw [e2, show r = n from by omega]) dX4_bodiesUnder_41
      · skip
        have c_2 : ¬ (n ≤ r) := fun h9 => (show ¬ (nI n ≤ nI r) from c_2) ((nI_leI (by omega) (by omega)).mpr h9)
        refine lv_iload_n hx hb dX4_bodiesUnder_12 rfl (lv_at hl 1 rfl) ?_
        refine lv_aload_n hx hb dX4_bodiesUnder_13 rfl (lv_at hl 0 rfl) ?_
        refine va_get (D := D) (ci := 4) (v := .ref qh) (C := RX4) (T := TX4) (N := 4) hx hb hts ilX4_bodiesUnder_4 hown hG.1 hP 0 rfl rfl 0 (by decide) (hts (.fieldLink RX4 9 "HornEngine$Rulebook" "heads" "[I") (List.mem_of_getElem? (i := 2) rfl)) (fun _ h9 => h9) rfl dX4_bodiesUnder_14 ?_
        refine lv_iload_n hx hb dX4_bodiesUnder_17 rfl (lv_at hl 3 rfl) ?_
        refine ia_ld hx hb hG hP 1 rfl r rfl (by omega) (by decide) dX4_bodiesUnder_18 ?_
        refine pu_SN (As := [.int X, .int (hs r)]) (rest := []) ⟨hx, hb, hml, hown, hts⟩ hG hP (k_X5_contains l D cI cB X (hs r) ) (va_cnB 2 hts gX4_bodiesUnder_X5_contains_n44 rfl rfl rfl (hG.2 _ (List.mem_of_getElem? (i := 5) rfl)) (hts (.initialized RX5) (List.mem_of_getElem? (i := 5) rfl)) (by decide +kernel) ⟨(Nat.le_of_ble_eq_true rfl), (Nat.le_of_ble_eq_true rfl)⟩) (hts (.static yX5_contains) (List.mem_of_getElem? (i := 4) rfl)) [] rfl rfl hl.1 rfl (Nat.le_of_ble_eq_true rfl) dX4_bodiesUnder_19 ⟨Nat.zero_le _, Nat.zero_le _⟩ ?_
        refine lv_if_eq (tgt := 34) hx hb dX4_bodiesUnder_22 (by decide) (fun c_3 => ?_) (fun c_3 => ?_)
        · skip
          have c_3 : (has X (hs r)) = false := bI_f.mp c_3
          refine lv_iinc (v := nI (r + 1)) (lv' := [(3, .int (nI (r + 1))), (0, .ref b), (1, .int X), (2, .int x2)]) hx hb dX4_bodiesUnder_34 hl (k := 3) rfl (nI_s1 r) (by decide) rfl (fun ls hl => ?_)
          refine lv_goto (tgt := 4) hx hb dX4_bodiesUnder_37 (by decide) ?_
          exact ih_4 (r + 1) x2 (by omega) (by subst e2; simp only [bunF, decide_true, decide_false, reduceIte, Bool.false_eq_true, not_true_eq_false, not_false_eq_true, and_self, and_true, true_and, and_false, false_and, c_3]) (by omega) ls (lv_sub hl [1, 2, 3, 0] rfl)
        · skip
          have c_3 : (has X (hs r)) = true := bI_t.mp c_3
          refine lv_iload_n hx hb dX4_bodiesUnder_25 rfl (lv_at hl 2 rfl) ?_
          refine lv_aload_n hx hb dX4_bodiesUnder_26 rfl (lv_at hl 0 rfl) ?_
          refine va_get (D := D) (ci := 4) (v := .ref qb) (C := RX4) (T := TX4) (N := 4) hx hb hts ilX4_bodiesUnder_4 hown hG.1 hP 0 rfl rfl 1 (by decide) (hts (.fieldLink RX4 15 "HornEngine$Rulebook" "bodies" "[I") (List.mem_of_getElem? (i := 3) rfl)) (fun _ h9 => h9) rfl dX4_bodiesUnder_27 ?_
          refine lv_iload_n hx hb dX4_bodiesUnder_30 rfl (lv_at hl 3 rfl) ?_
          refine ia_ld hx hb hG hP 2 rfl r rfl (by omega) (by decide) dX4_bodiesUnder_31 ?_
          refine lv_ior hx hb dX4_bodiesUnder_32 ?_
          refine lv_istore_n (lv' := [(2, .int (x2 ||| (bs r))), (0, .ref b), (1, .int X), (3, .int (nI r))]) hx hb dX4_bodiesUnder_33 rfl hl (by decide) rfl (fun ls hl => ?_)
          refine lv_iinc (v := nI (r + 1)) (lv' := [(3, .int (nI (r + 1))), (2, .int (x2 ||| (bs r))), (0, .ref b), (1, .int X)]) hx hb dX4_bodiesUnder_34 hl (k := 3) rfl (nI_s1 r) (by decide) rfl (fun ls hl => ?_)
          refine lv_goto (tgt := 4) hx hb dX4_bodiesUnder_37 (by decide) ?_
          exact ih_4 (r + 1) (x2 ||| (bs r)) (by omega) (by subst e2; simp only [bunF, decide_true, decide_false, reduceIte, Bool.false_eq_true, not_true_eq_false, not_false_eq_true, and_self, and_true, true_and, and_false, false_and, c_3]) (by omega) ls (lv_sub hl [2, 3, 1, 0] rfl)
  exact lp_4_1 (n - 0 + 1) 0 (nI 0) (by omega) rfl (Nat.lt_succ_self _) ls (lv_sub hl [2, 3, 1, 0] rfl)
set_option maxHeartbeats 4000000 in
set_option maxRecDepth 100000 in
theorem k_X4_dependenciesOf (l : Launch) (D : va_G) (cI cB : ClassId) (b : Nat) (qh : Nat) (qb : Nat) (hs : Nat → Int32) (bs : Nat → Int32) (n : Nat) (as_ : Int32) (a : Nat) (hn : n ≤ 24) (ha : a < 16) : Rd l yX4_dependenciesOf wsX4_dependenciesOf ({ frames := 2, cells := 0, slots := 0, locals := 44 }) D cI cB [.ref b, .int (nI a)] [(b, .inr (4, [.ref qh, .ref qb, .int (nI n), .int as_])), (qh, .inl (cI, 24, .inl hs)), (qb, .inl (cI, 24, .inl bs))] (.int (depS hs bs n a)) := by
  refine pu_startI (cc := cX4_dependenciesOf) (maxL := 4) (by decide) rfl (Nat.le_of_ble_eq_true rfl) ?_
  intro p e s m args below meth c Q hx hb hml hown hts hP hG hret ls hl
  have hown : s.vm.findClass RX4 = some m.cls := hown
  have hl : lv_has ls 4 [(0, .ref b), (1, .int (nI a))] := hl
  refine lv_aload_n hx hb dX4_dependenciesOf_0 rfl (lv_at hl 0 rfl) ?_
  refine lv_iconst (v := nI 1) hx hb dX4_dependenciesOf_1 (by decide) ?_
  refine lv_iload_n hx hb dX4_dependenciesOf_2 rfl (lv_at hl 1 rfl) ?_
  refine lv_ishl hx hb dX4_dependenciesOf_3 ?_
  refine pu_V (As := [.int ((nI 1) <<< ((nI a) &&& 31))]) (rest := []) ⟨hx, hb, hml, hown, hts⟩ hG hP (k_X4_bodiesUnder l D cI cB b qh qb hs bs n as_ ((nI 1) <<< ((nI a) &&& 31)) (by omega)) (cwV 1 hts gX4_dependenciesOf_X4_bodiesUnder rfl rfl rfl (by decide +kernel) ⟨(Nat.le_of_ble_eq_true rfl), (Nat.le_of_ble_eq_true rfl)⟩) [0, 1, 2] rfl 0 rfl rfl rfl rfl hl.1 rfl (Nat.le_of_ble_eq_true rfl) dX4_dependenciesOf_4 ⟨Nat.zero_le _, Nat.zero_le _⟩ ?_
  refine lv_istore_n (lv' := [(2, .int (bunF hs bs ((nI 1) <<< ((nI a) &&& 31)) n)), (0, .ref b), (1, .int (nI a))]) hx hb dX4_dependenciesOf_7 rfl hl (by decide) rfl (fun ls hl => ?_)
  refine lv_iconst (v := nI 0) hx hb dX4_dependenciesOf_8 (by decide) ?_
  refine lv_istore_n (lv' := [(3, .int (nI 0)), (2, .int (bunF hs bs ((nI 1) <<< ((nI a) &&& 31)) n)), (0, .ref b), (1, .int (nI a))]) hx hb dX4_dependenciesOf_9 rfl hl (by decide) rfl (fun ls hl => ?_)
  have lp_10_1 : ∀ (fu_10 : Nat) (k : Nat) (x2 : Int32) (hk : k ≤ 16) (e2 : x2 = pw (fun x => x ||| bunF hs bs x n) k (bunF hs bs (nI 1 <<< (nI a &&& 31)) n)) (hfu_10 : 16 - k < fu_10) (ls : Array Slot) (hl : lv_has ls 4 [(0, .ref b), (1, .int (nI a)), (2, .int x2), (3, .int (nI k))]), W p l e ({ frames := 2, cells := 0, slots := 0, locals := 44 }) s m args below meth c s.heap [] 0 0 Q (F0 m 10 ls []) := by
    intro fu_10
    induction fu_10 with
    | zero => intro k x2 hk e2 hfu; exact absurd hfu (Nat.not_lt_zero _)
    | succ fu_10 ih_10 =>
      intro k x2 hk e2 hfu_10 ls hl
      refine lv_iload_n hx hb dX4_dependenciesOf_10 rfl (lv_at hl 3 rfl) ?_
      refine lv_bipush (v := nI 16) hx hb dX4_dependenciesOf_11 (by decide) ?_
      refine lv_icmp_ge (tgt := 30) hx hb dX4_dependenciesOf_13 (by decide) (fun c_2 => ?_) (fun c_2 => ?_)
      · skip
        have c_2 : 16 ≤ k := (nI_leI (by omega) (by omega)).mp (show nI 16 ≤ nI k from c_2)
        refine lv_iload_n hx hb dX4_dependenciesOf_30 rfl (lv_at hl 2 rfl) ?_
        exact hret _ _ _ (by rw [e2, show k = 16 from by omega]; rfl) dX4_dependenciesOf_31
      · skip
        have c_2 : ¬ (16 ≤ k) := fun h9 => (show ¬ (nI 16 ≤ nI k) from c_2) ((nI_leI (by omega) (by omega)).mpr h9)
        refine lv_iload_n hx hb dX4_dependenciesOf_16 rfl (lv_at hl 2 rfl) ?_
        refine lv_aload_n hx hb dX4_dependenciesOf_17 rfl (lv_at hl 0 rfl) ?_
        refine lv_iload_n hx hb dX4_dependenciesOf_18 rfl (lv_at hl 2 rfl) ?_
        refine pu_V (As := [.int x2]) (rest := [.int x2]) ⟨hx, hb, hml, hown, hts⟩ hG hP (k_X4_bodiesUnder l D cI cB b qh qb hs bs n as_ x2 (by omega)) (cwV 1 hts gX4_dependenciesOf_X4_bodiesUnder rfl rfl rfl (by decide +kernel) ⟨(Nat.le_of_ble_eq_true rfl), (Nat.le_of_ble_eq_true rfl)⟩) [0, 1, 2] rfl 0 rfl rfl rfl rfl hl.1 rfl (Nat.le_of_ble_eq_true rfl) dX4_dependenciesOf_19 ⟨Nat.zero_le _, Nat.zero_le _⟩ ?_
        refine lv_ior hx hb dX4_dependenciesOf_22 ?_
        refine lv_istore_n (lv' := [(2, .int (x2 ||| (bunF hs bs x2 n))), (0, .ref b), (1, .int (nI a)), (3, .int (nI k))]) hx hb dX4_dependenciesOf_23 rfl hl (by decide) rfl (fun ls hl => ?_)
        refine lv_iinc (v := nI (k + 1)) (lv' := [(3, .int (nI (k + 1))), (2, .int (x2 ||| (bunF hs bs x2 n))), (0, .ref b), (1, .int (nI a))]) hx hb dX4_dependenciesOf_24 hl (k := 3) rfl (nI_s1 k) (by decide) rfl (fun ls hl => ?_)
        refine lv_goto (tgt := 10) hx hb dX4_dependenciesOf_27 (by decide) ?_
        exact ih_10 (k + 1) (x2 ||| (bunF hs bs x2 n)) (by omega) (by subst e2; rfl) (by omega) ls (lv_sub hl [2, 3, 1, 0] rfl)
  exact lp_10_1 (16 - 0 + 1) 0 (bunF hs bs ((nI 1) <<< ((nI a) &&& 31)) n) (by omega) rfl (Nat.lt_succ_self _) ls (lv_sub hl [2, 3, 1, 0] rfl)
set_option maxHeartbeats 4000000 in
set_option maxRecDepth 100000 in
theorem k_X4_atomsOnCycles (l : Launch) (D : va_G) (cI cB : ClassId) (b : Nat) (qh : Nat) (qb : Nat) (hs : Nat → Int32) (bs : Nat → Int32) (n : Nat) (as_ : Int32) (hn : n ≤ 24) : Rd l yX4_atomsOnCycles wsX4_atomsOnCycles ({ frames := 3, cells := 0, slots := 0, locals := 67 }) D cI cB [.ref b] [(b, .inr (4, [.ref qh, .ref qb, .int (nI n), .int as_])), (qh, .inl (cI, 24, .inl hs)), (qb, .inl (cI, 24, .inl bs))] (.int (cycF hs bs n 16)) := by
  refine pu_startI (cc := cX4_atomsOnCycles) (maxL := 3) (by decide) rfl (Nat.le_of_ble_eq_true rfl) ?_
  intro p e s m args below meth c Q hx hb hml hown hts hP hG hret ls hl
  have hown : s.vm.findClass RX4 = some m.cls := hown
  have hl : lv_has ls 3 [(0, .ref b)] := hl
  refine lv_iconst (v := nI 0) hx hb dX4_atomsOnCycles_0 (by decide) ?_
  refine lv_istore_n (lv' := [(1, .int (nI 0)), (0, .ref b)]) hx hb dX4_atomsOnCycles_1 rfl hl (by decide) rfl (fun ls hl => ?_)
  refine lv_iconst (v := nI 0) hx hb dX4_atomsOnCycles_2 (by decide) ?_
  refine lv_istore_n (lv' := [(2, .int (nI 0)), (1, .int (nI 0)), (0, .ref b)]) hx hb dX4_atomsOnCycles_3 rfl hl (by decide) rfl (fun ls hl => ?_)
  have lp_4_1 : ∀ (fu_4 : Nat) (k : Nat) (x1 : Int32) (hk : k ≤ 16) (e1 : x1 = cycF hs bs n k) (hfu_4 : 16 - k < fu_4) (ls : Array Slot) (hl : lv_has ls 3 [(0, .ref b), (1, .int x1), (2, .int (nI k))]), W p l e ({ frames := 3, cells := 0, slots := 0, locals := 67 }) s m args below meth c s.heap [] 0 0 Q (F0 m 4 ls []) := by
    intro fu_4
    induction fu_4 with
    | zero => intro k x1 hk e1 hfu; exact absurd hfu (Nat.not_lt_zero _)
    | succ fu_4 ih_4 =>
      intro k x1 hk e1 hfu_4 ls hl
      refine lv_iload_n hx hb dX4_atomsOnCycles_4 rfl (lv_at hl 2 rfl) ?_
      refine lv_bipush (v := nI 16) hx hb dX4_atomsOnCycles_5 (by decide) ?_
      refine lv_icmp_ge (tgt := 28) hx hb dX4_atomsOnCycles_7 (by decide) (fun c_2 => ?_) (fun c_2 => ?_)
      · skip
        have c_2 : 16 ≤ k := (nI_leI (by omega) (by omega)).mp (show nI 16 ≤ nI k from c_2)
        refine lv_iload_n hx hb dX4_atomsOnCycles_28 rfl (lv_at hl 1 rfl) ?_
        exact hret _ _ _ (by rw [e1, show k = 16 from by omega]) dX4_atomsOnCycles_29
      · skip
        have c_2 : ¬ (16 ≤ k) := fun h9 => (show ¬ (nI 16 ≤ nI k) from c_2) ((nI_leI (by omega) (by omega)).mpr h9)
        refine lv_iload_n hx hb dX4_atomsOnCycles_10 rfl (lv_at hl 1 rfl) ?_
        refine lv_aload_n hx hb dX4_atomsOnCycles_11 rfl (lv_at hl 0 rfl) ?_
        refine lv_iload_n hx hb dX4_atomsOnCycles_12 rfl (lv_at hl 2 rfl) ?_
        refine pu_V (As := [.int (nI k)]) (rest := [.int x1]) ⟨hx, hb, hml, hown, hts⟩ hG hP (k_X4_dependenciesOf l D cI cB b qh qb hs bs n as_ k (by omega) (by omega)) (cwV 1 hts gX4_atomsOnCycles_X4_dependenciesOf rfl rfl rfl (by decide +kernel) ⟨(Nat.le_of_ble_eq_true rfl), (Nat.le_of_ble_eq_true rfl)⟩) [0, 1, 2] rfl 0 rfl rfl rfl rfl hl.1 rfl (Nat.le_of_ble_eq_true rfl) dX4_atomsOnCycles_13 ⟨Nat.zero_le _, Nat.zero_le _⟩ ?_
        refine lv_iconst (v := nI 1) hx hb dX4_atomsOnCycles_16 (by decide) ?_
        refine lv_iload_n hx hb dX4_atomsOnCycles_17 rfl (lv_at hl 2 rfl) ?_
        refine lv_ishl hx hb dX4_atomsOnCycles_18 ?_
        refine lv_iand hx hb dX4_atomsOnCycles_19 ?_
        refine lv_ior hx hb dX4_atomsOnCycles_20 ?_
        refine lv_istore_n (lv' := [(1, .int (x1 ||| ((depS hs bs n k) &&& ((nI 1) <<< ((nI k) &&& 31))))), (0, .ref b), (2, .int (nI k))]) hx hb dX4_atomsOnCycles_21 rfl hl (by decide) rfl (fun ls hl => ?_)
        refine lv_iinc (v := nI (k + 1)) (lv' := [(2, .int (nI (k + 1))), (1, .int (x1 ||| ((depS hs bs n k) &&& ((nI 1) <<< ((nI k) &&& 31))))), (0, .ref b)]) hx hb dX4_atomsOnCycles_22 hl (k := 2) rfl (nI_s1 k) (by decide) rfl (fun ls hl => ?_)
        refine lv_goto (tgt := 4) hx hb dX4_atomsOnCycles_25 (by decide) ?_
        exact ih_4 (k + 1) (x1 ||| ((depS hs bs n k) &&& ((nI 1) <<< ((nI k) &&& 31)))) (by omega) (by subst e1; rfl) (by omega) ls (lv_sub hl [2, 1, 0] rfl)
  exact lp_4_1 (16 - 0 + 1) 0 (nI 0) (by omega) rfl (Nat.lt_succ_self _) ls (lv_sub hl [2, 1, 0] rfl)
set_option maxHeartbeats 4000000 in
set_option maxRecDepth 100000 in
theorem k_X4_overDeletedBy (l : Launch) (D : va_G) (cI cB : ClassId) (b : Nat) (qh : Nat) (qb : Nat) (hs : Nat → Int32) (bs : Nat → Int32) (n : Nat) (as_ : Int32) (d : Nat) (hn : n ≤ 24) (hd : d < n) : Rd l yX4_overDeletedBy wsX4_overDeletedBy ({ frames := 4, cells := 0, slots := 0, locals := 90 }) D cI cB [.ref b, .int (nI d)] [(b, .inr (4, [.ref qh, .ref qb, .int (nI n), .int as_])), (qh, .inl (cI, 24, .inl hs)), (qb, .inl (cI, 24, .inl bs))] (.int (ovd hs bs n d)) := by
  refine pu_startI (cc := cX4_overDeletedBy) (maxL := 6) (by decide) rfl (Nat.le_of_ble_eq_true rfl) ?_
  intro p e s m args below meth c Q hx hb hml hown hts hP hG hret ls hl
  have hown : s.vm.findClass RX4 = some m.cls := hown
  have hl : lv_has ls 6 [(0, .ref b), (1, .int (nI d))] := hl
  refine lv_aload_n hx hb dX4_overDeletedBy_0 rfl (lv_at hl 0 rfl) ?_
  refine pu_V (As := []) (rest := []) ⟨hx, hb, hml, hown, hts⟩ hG hP (k_X4_leastModel l D cI cB b qh qb hs bs n as_ (by omega)) (cwV 0 hts gX4_overDeletedBy_X4_leastModel rfl rfl rfl (by decide +kernel) ⟨(Nat.le_of_ble_eq_true rfl), (Nat.le_of_ble_eq_true rfl)⟩) [0, 1, 2] rfl 0 rfl rfl rfl rfl hl.1 rfl (Nat.le_of_ble_eq_true rfl) dX4_overDeletedBy_1 ⟨Nat.zero_le _, Nat.zero_le _⟩ ?_
  refine lv_istore_n (lv' := [(2, .int (mdl hs bs n)), (0, .ref b), (1, .int (nI d))]) hx hb dX4_overDeletedBy_4 rfl hl (by decide) rfl (fun ls hl => ?_)
  refine lv_aload_n hx hb dX4_overDeletedBy_5 rfl (lv_at hl 1 rfl) ?_
  refine lv_iload_n hx hb dX4_overDeletedBy_6 rfl (lv_at hl 2 rfl) ?_
  refine pu_V (As := [.int (nI d)]) (rest := []) ⟨hx, hb, hml, hown, hts⟩ hG hP (k_X4_hasRule l D cI cB b qh qb hs bs n as_ (nI d) (by omega)) (cwV 1 hts gX4_overDeletedBy_X4_hasRule rfl rfl rfl (by decide +kernel) ⟨(Nat.le_of_ble_eq_true rfl), (Nat.le_of_ble_eq_true rfl)⟩) [0, 1, 2] rfl 0 rfl rfl rfl rfl hl.1 rfl (Nat.le_of_ble_eq_true rfl) dX4_overDeletedBy_7 ⟨Nat.zero_le _, Nat.zero_le _⟩ ?_
  refine lv_if_eq (tgt := 26) hx hb dX4_overDeletedBy_10 (by decide) (fun c_1 => ?_) (fun c_1 => ?_)
  · skip
    have c_1 : (hasR (nI d) n) = false := bI_f.mp c_1
    exact absurd (hasR_of hd (by omega)) (by rw [c_1]; decide)
  · skip
    have c_1 : (hasR (nI d) n) = true := bI_t.mp c_1
    refine lv_aload_n hx hb dX4_overDeletedBy_13 rfl (lv_at hl 1 rfl) ?_
    refine va_get (D := D) (ci := 4) (v := .ref qb) (C := RX4) (T := TX4) (N := 4) hx hb hts ilX4_overDeletedBy_4 hown hG.1 hP 0 rfl rfl 1 (by decide) (hts (.fieldLink RX4 15 "HornEngine$Rulebook" "bodies" "[I") (List.mem_of_getElem? (i := 1) rfl)) (fun _ h9 => h9) rfl dX4_overDeletedBy_14 ?_
    refine lv_iload_n hx hb dX4_overDeletedBy_17 rfl (lv_at hl 2 rfl) ?_
    refine ia_ld hx hb hG hP 2 rfl d rfl (by omega) (by decide) dX4_overDeletedBy_18 ?_
    refine lv_iload_n hx hb dX4_overDeletedBy_19 rfl (lv_at hl 0 rfl) ?_
    refine pu_SN (As := [.int (bs d), .int (mdl hs bs n)]) (rest := []) ⟨hx, hb, hml, hown, hts⟩ hG hP (k_X5_isSubset l D cI cB (bs d) (mdl hs bs n) ) (va_cnB 2 hts gX4_overDeletedBy_X5_isSubset_n51 rfl rfl rfl (hG.2 _ (List.mem_of_getElem? (i := 6) rfl)) (hts (.initialized RX5) (List.mem_of_getElem? (i := 22) rfl)) (by decide +kernel) ⟨(Nat.le_of_ble_eq_true rfl), (Nat.le_of_ble_eq_true rfl)⟩) (hts (.static yX5_isSubset) (List.mem_of_getElem? (i := 24) rfl)) [] rfl rfl hl.1 rfl (Nat.le_of_ble_eq_true rfl) dX4_overDeletedBy_20 ⟨Nat.zero_le _, Nat.zero_le _⟩ ?_
    refine lv_if_ne (tgt := 28) hx hb dX4_overDeletedBy_23 (by decide) (fun c_2 => ?_) (fun c_2 => ?_)
    · skip
      have c_2 : (sbs (bs d) (mdl hs bs n)) = true := bI_t.mp c_2
      have hsb : sbs (bs d) (mdl hs bs n) = true := c_2
      refine lv_iconst (v := nI 1) hx hb dX4_overDeletedBy_28 (by decide) ?_
      refine lv_aload_n hx hb dX4_overDeletedBy_29 rfl (lv_at hl 1 rfl) ?_
      refine va_get (D := D) (ci := 4) (v := .ref qh) (C := RX4) (T := TX4) (N := 4) hx hb hts ilX4_overDeletedBy_4 hown hG.1 hP 0 rfl rfl 0 (by decide) (hts (.fieldLink RX4 9 "HornEngine$Rulebook" "heads" "[I") (List.mem_of_getElem? (i := 2) rfl)) (fun _ h9 => h9) rfl dX4_overDeletedBy_30 ?_
      refine lv_iload_n hx hb dX4_overDeletedBy_33 rfl (lv_at hl 2 rfl) ?_
      refine ia_ld hx hb hG hP 1 rfl d rfl (by omega) (by decide) dX4_overDeletedBy_34 ?_
      refine lv_ishl hx hb dX4_overDeletedBy_35 ?_
      refine lv_istore_n (lv' := [(3, .int ((nI 1) <<< ((hs d) &&& 31))), (2, .int (mdl hs bs n)), (0, .ref b), (1, .int (nI d))]) hx hb dX4_overDeletedBy_36 rfl hl (by decide) rfl (fun ls hl => ?_)
      refine lv_iconst (v := nI 0) hx hb dX4_overDeletedBy_37 (by decide) ?_
      refine lv_istore (lv' := [(4, .int (nI 0)), (3, .int ((nI 1) <<< ((hs d) &&& 31))), (2, .int (mdl hs bs n)), (0, .ref b), (1, .int (nI d))]) hx hb dX4_overDeletedBy_38 hl (by decide) rfl (fun ls hl => ?_)
      have lp_40_3 : ∀ (fu_40 : Nat) (k : Nat) (x3 : Int32) (hk : k ≤ 16) (e3 : x3 = pw (fun x => ovdF hs bs (mdl hs bs n) d x n) k (nI 1 <<< (hs d &&& 31))) (hfu_40 : 16 - k < fu_40) (ls : Array Slot) (hl : lv_has ls 6 [(0, .ref b), (1, .int (nI d)), (2, .int (mdl hs bs n)), (3, .int x3), (4, .int (nI k))]), W p l e ({ frames := 4, cells := 0, slots := 0, locals := 90 }) s m args below meth c s.heap [] 0 0 Q (F0 m 40 ls []) := by
        intro fu_40
        induction fu_40 with
        | zero => intro k x3 hk e3 hfu; exact absurd hfu (Nat.not_lt_zero _)
        | succ fu_40 ih_40 =>
          intro k x3 hk e3 hfu_40 ls hl
          refine lv_iload hx hb dX4_overDeletedBy_40 (lv_at hl 4 rfl) ?_
          refine lv_bipush (v := nI 16) hx hb dX4_overDeletedBy_42 (by decide) ?_
          refine lv_icmp_ge (tgt := 115) hx hb dX4_overDeletedBy_44 (by decide) (fun c_4 => ?_) (fun c_4 => ?_)
          · skip
            have c_4 : 16 ≤ k := (nI_leI (by omega) (by omega)).mp (show nI 16 ≤ nI k from c_4)
            refine lv_iload_n hx hb dX4_overDeletedBy_115 rfl (lv_at hl 3 rfl) ?_
            exact hret _ _ _ (by unfold ovd; rw [if_pos hsb, e3, show k = 16 from by omega]) dX4_overDeletedBy_116
          · skip
            have c_4 : ¬ (16 ≤ k) := fun h9 => (show ¬ (nI 16 ≤ nI k) from c_4) ((nI_leI (by omega) (by omega)).mpr h9)
            refine lv_iconst (v := nI 0) hx hb dX4_overDeletedBy_47 (by decide) ?_
            refine lv_istore (lv' := [(5, .int (nI 0)), (0, .ref b), (1, .int (nI d)), (2, .int (mdl hs bs n)), (3, .int x3), (4, .int (nI k))]) hx hb dX4_overDeletedBy_48 hl (by decide) rfl (fun ls hl => ?_)
            have lp_50_5 : ∀ (fu_50 : Nat) (r : Nat) (x5 : Int32) (hr : r ≤ n) (e5 : x5 = ovdF hs bs (mdl hs bs n) d x3 r) (hfu_50 : n - r < fu_50) (ls : Array Slot) (hl : lv_has ls 6 [(0, .ref b), (1, .int (nI d)), (2, .int (mdl hs bs n)), (3, .int x5), (4, .int (nI k)), (5, .int (nI r))]), W p l e ({ frames := 4, cells := 0, slots := 0, locals := 90 }) s m args below meth c s.heap [] 0 0 Q (F0 m 50 ls []) := by
              intro fu_50
              induction fu_50 with
              | zero => intro r x5 hr e5 hfu; exact absurd hfu (Nat.not_lt_zero _)
              | succ fu_50 ih_50 =>
                intro r x5 hr e5 hfu_50 ls hl
                refine lv_iload hx hb dX4_overDeletedBy_50 (lv_at hl 5 rfl) ?_
                refine lv_aload_n hx hb dX4_overDeletedBy_52 rfl (lv_at hl 0 rfl) ?_
                refine va_get (D := D) (ci := 4) (v := .int (nI n)) (C := RX4) (T := TX4) (N := 4) hx hb hts ilX4_overDeletedBy_4 hown hG.1 hP 0 rfl rfl 2 (by decide) (hts (.fieldLink RX4 18 "HornEngine$Rulebook" "count" "I") (List.mem_of_getElem? (i := 3) rfl)) (fun _ h9 => h9) rfl dX4_overDeletedBy_53 ?_
                refine lv_icmp_ge (tgt := 109) hx hb dX4_overDeletedBy_56 (by decide) (fun c_6 => ?_) (fun c_6 => ?_)
                · skip
                  have c_6 : n ≤ r := (nI_leI (by omega) (by omega)).mp (show nI n ≤ nI r from c_6)
                  refine lv_iinc (v := nI (k + 1)) (lv' := [(4, .int (nI (k + 1))), (0, .ref b), (1, .int (nI d)), (2, .int (mdl hs bs n)), (3, .int x5), (5, .int (nI r))]) hx hb dX4_overDeletedBy_109 hl (k := 4) rfl (nI_s1 k) (by decide) rfl (fun ls hl => ?_)
                  refine lv_goto (tgt := 40) hx hb dX4_overDeletedBy_112 (by decide) ?_
                  exact ih_40 (k + 1) x5 (by omega) (by rw [e5, show r = n from by omega, e3]; rfl) (by omega) ls (lv_sub hl [1, 2, 3, 4, 0] rfl)
                · skip
                  have c_6 : ¬ (n ≤ r) := fun h9 => (show ¬ (nI n ≤ nI r) from c_6) ((nI_leI (by omega) (by omega)).mpr h9)
                  refine lv_iload hx hb dX4_overDeletedBy_59 (lv_at hl 5 rfl) ?_
                  refine lv_iload_n hx hb dX4_overDeletedBy_61 rfl (lv_at hl 1 rfl) ?_
                  refine lv_icmp_eq (tgt := 103) hx hb dX4_overDeletedBy_62 (by decide) (fun c_7 => ?_) (fun c_7 => ?_)
                  · skip
                    have c_7 : r = d := (nI_eq (by omega) (by omega)).mp (show nI r = nI d from c_7)
                    refine lv_iinc (v := nI (r + 1)) (lv' := [(5, .int (nI (r + 1))), (0, .ref b), (1, .int (nI d)), (2, .int (mdl hs bs n)), (3, .int x5), (4, .int (nI k))]) hx hb dX4_overDeletedBy_103 hl (k := 5) rfl (nI_s1 r) (by decide) rfl (fun ls hl => ?_)
                    refine lv_goto (tgt := 50) hx hb dX4_overDeletedBy_106 (by decide) ?_
                    exact ih_50 (r + 1) x5 (by omega) (by subst e5; simp only [ovdF, decide_true, decide_false, reduceIte, Bool.false_eq_true, not_true_eq_false, not_false_eq_true, and_self, and_true, true_and, and_false, false_and, c_6, c_7]) (by omega) ls (lv_sub hl [1, 2, 3, 4, 5, 0] rfl)
                  · skip
                    have c_7 : ¬ (r = d) := fun h9 => (show ¬ (nI r = nI d) from c_7) ((nI_eq (by omega) (by omega)).mpr h9)
                    refine lv_aload_n hx hb dX4_overDeletedBy_65 rfl (lv_at hl 0 rfl) ?_
                    refine va_get (D := D) (ci := 4) (v := .ref qb) (C := RX4) (T := TX4) (N := 4) hx hb hts ilX4_overDeletedBy_4 hown hG.1 hP 0 rfl rfl 1 (by decide) (hts (.fieldLink RX4 15 "HornEngine$Rulebook" "bodies" "[I") (List.mem_of_getElem? (i := 1) rfl)) (fun _ h9 => h9) rfl dX4_overDeletedBy_66 ?_
                    refine lv_iload hx hb dX4_overDeletedBy_69 (lv_at hl 5 rfl) ?_
                    refine ia_ld hx hb hG hP 2 rfl r rfl (by omega) (by decide) dX4_overDeletedBy_71 ?_
                    refine lv_iload_n hx hb dX4_overDeletedBy_72 rfl (lv_at hl 2 rfl) ?_
                    refine pu_SN (As := [.int (bs r), .int (mdl hs bs n)]) (rest := []) ⟨hx, hb, hml, hown, hts⟩ hG hP (k_X5_isSubset l D cI cB (bs r) (mdl hs bs n) ) (va_cnB 2 hts gX4_overDeletedBy_X5_isSubset_n51 rfl rfl rfl (hG.2 _ (List.mem_of_getElem? (i := 6) rfl)) (hts (.initialized RX5) (List.mem_of_getElem? (i := 22) rfl)) (by decide +kernel) ⟨(Nat.le_of_ble_eq_true rfl), (Nat.le_of_ble_eq_true rfl)⟩) (hts (.static yX5_isSubset) (List.mem_of_getElem? (i := 24) rfl)) [] rfl rfl hl.1 rfl (Nat.le_of_ble_eq_true rfl) dX4_overDeletedBy_73 ⟨Nat.zero_le _, Nat.zero_le _⟩ ?_
                    refine lv_if_eq (tgt := 103) hx hb dX4_overDeletedBy_76 (by decide) (fun c_8 => ?_) (fun c_8 => ?_)
                    · skip
                      have c_8 : (sbs (bs r) (mdl hs bs n)) = false := bI_f.mp c_8
                      refine lv_iinc (v := nI (r + 1)) (lv' := [(5, .int (nI (r + 1))), (0, .ref b), (1, .int (nI d)), (2, .int (mdl hs bs n)), (3, .int x5), (4, .int (nI k))]) hx hb dX4_overDeletedBy_103 hl (k := 5) rfl (nI_s1 r) (by decide) rfl (fun ls hl => ?_)
                      refine lv_goto (tgt := 50) hx hb dX4_overDeletedBy_106 (by decide) ?_
                      exact ih_50 (r + 1) x5 (by omega) (by subst e5; simp only [ovdF, decide_true, decide_false, reduceIte, Bool.false_eq_true, not_true_eq_false, not_false_eq_true, and_self, and_true, true_and, and_false, false_and, c_6, c_7, c_8]) (by omega) ls (lv_sub hl [1, 2, 3, 4, 5, 0] rfl)
                    · skip
                      have c_8 : (sbs (bs r) (mdl hs bs n)) = true := bI_t.mp c_8
                      refine lv_aload_n hx hb dX4_overDeletedBy_79 rfl (lv_at hl 0 rfl) ?_
                      refine va_get (D := D) (ci := 4) (v := .ref qb) (C := RX4) (T := TX4) (N := 4) hx hb hts ilX4_overDeletedBy_4 hown hG.1 hP 0 rfl rfl 1 (by decide) (hts (.fieldLink RX4 15 "HornEngine$Rulebook" "bodies" "[I") (List.mem_of_getElem? (i := 1) rfl)) (fun _ h9 => h9) rfl dX4_overDeletedBy_80 ?_
                      refine lv_iload hx hb dX4_overDeletedBy_83 (lv_at hl 5 rfl) ?_
                      refine ia_ld hx hb hG hP 2 rfl r rfl (by omega) (by decide) dX4_overDeletedBy_85 ?_
                      refine lv_iload_n hx hb dX4_overDeletedBy_86 rfl (lv_at hl 3 rfl) ?_
                      refine lv_iand hx hb dX4_overDeletedBy_87 ?_
                      refine lv_if_eq (tgt := 103) hx hb dX4_overDeletedBy_88 (by decide) (fun c_9 => ?_) (fun c_9 => ?_)
                      · skip
                        refine lv_iinc (v := nI (r + 1)) (lv' := [(5, .int (nI (r + 1))), (0, .ref b), (1, .int (nI d)), (2, .int (mdl hs bs n)), (3, .int x5), (4, .int (nI k))]) hx hb dX4_overDeletedBy_103 hl (k := 5) rfl (nI_s1 r) (by decide) rfl (fun ls hl => ?_)
                        refine lv_goto (tgt := 50) hx hb dX4_overDeletedBy_106 (by decide) ?_
                        exact ih_50 (r + 1) x5 (by omega) (by subst e5; simp only [ovdF, decide_true, decide_false, reduceIte, Bool.false_eq_true, not_true_eq_false, not_false_eq_true, and_self, and_true, true_and, and_false, false_and, c_6, c_7, c_8, c_9]) (by omega) ls (lv_sub hl [1, 2, 3, 4, 5, 0] rfl)
                      · skip
                        refine lv_iload_n hx hb dX4_overDeletedBy_91 rfl (lv_at hl 3 rfl) ?_
                        refine lv_iconst (v := nI 1) hx hb dX4_overDeletedBy_92 (by decide) ?_
                        refine lv_aload_n hx hb dX4_overDeletedBy_93 rfl (lv_at hl 0 rfl) ?_
                        refine va_get (D := D) (ci := 4) (v := .ref qh) (C := RX4) (T := TX4) (N := 4) hx hb hts ilX4_overDeletedBy_4 hown hG.1 hP 0 rfl rfl 0 (by decide) (hts (.fieldLink RX4 9 "HornEngine$Rulebook" "heads" "[I") (List.mem_of_getElem? (i := 2) rfl)) (fun _ h9 => h9) rfl dX4_overDeletedBy_94 ?_
                        refine lv_iload hx hb dX4_overDeletedBy_97 (lv_at hl 5 rfl) ?_
                        refine ia_ld hx hb hG hP 1 rfl r rfl (by omega) (by decide) dX4_overDeletedBy_99 ?_
                        refine lv_ishl hx hb dX4_overDeletedBy_100 ?_
                        refine lv_ior hx hb dX4_overDeletedBy_101 ?_
                        refine lv_istore_n (lv' := [(3, .int (x5 ||| ((nI 1) <<< ((hs r) &&& 31)))), (0, .ref b), (1, .int (nI d)), (2, .int (mdl hs bs n)), (4, .int (nI k)), (5, .int (nI r))]) hx hb dX4_overDeletedBy_102 rfl hl (by decide) rfl (fun ls hl => ?_)
                        refine lv_iinc (v := nI (r + 1)) (lv' := [(5, .int (nI (r + 1))), (3, .int (x5 ||| ((nI 1) <<< ((hs r) &&& 31)))), (0, .ref b), (1, .int (nI d)), (2, .int (mdl hs bs n)), (4, .int (nI k))]) hx hb dX4_overDeletedBy_103 hl (k := 5) rfl (nI_s1 r) (by decide) rfl (fun ls hl => ?_)
                        refine lv_goto (tgt := 50) hx hb dX4_overDeletedBy_106 (by decide) ?_
                        exact ih_50 (r + 1) (x5 ||| ((nI 1) <<< ((hs r) &&& 31))) (by omega) (by subst e5; simp only [ovdF, decide_true, decide_false, reduceIte, Bool.false_eq_true, not_true_eq_false, not_false_eq_true, and_self, and_true, true_and, and_false, false_and, c_6, c_7, c_8, c_9]) (by omega) ls (lv_sub hl [2, 3, 4, 1, 5, 0] rfl)
            exact lp_50_5 (n - 0 + 1) 0 x3 (by omega) rfl (Nat.lt_succ_self _) ls (lv_sub hl [1, 2, 3, 4, 5, 0] rfl)
      exact lp_40_3 (16 - 0 + 1) 0 ((nI 1) <<< ((hs d) &&& 31)) (by omega) rfl (Nat.lt_succ_self _) ls (lv_sub hl [3, 4, 2, 1, 0] rfl)
    · skip
      have c_2 : (sbs (bs d) (mdl hs bs n)) = false := bI_f.mp c_2
      refine lv_iconst (v := nI 0) hx hb dX4_overDeletedBy_26 (by decide) ?_
      exact hret _ _ _ (by unfold ovd; rw [if_neg (by rw [show sbs (bs d) (mdl hs bs n) = false from c_2]; decide)]) dX4_overDeletedBy_27
set_option maxHeartbeats 4000000 in
set_option maxRecDepth 100000 in
theorem k_X4_lostWithout (l : Launch) (D : va_G) (cI cB : ClassId) (b : Nat) (qh : Nat) (qb : Nat) (hs : Nat → Int32) (bs : Nat → Int32) (n : Nat) (as_ : Int32) (r : Nat) (hn : n ≤ 24) (hr : r < n) : Rd l yX4_lostWithout wsX4_lostWithout ({ frames := 4, cells := 0, slots := 0, locals := 91 }) D cI cB [.ref b, .int (nI r)] [(b, .inr (4, [.ref qh, .ref qb, .int (nI n), .int as_])), (qh, .inl (cI, 24, .inl hs)), (qb, .inl (cI, 24, .inl bs))] (.int (lst hs bs n r)) := by
  refine pu_startI (cc := cX4_lostWithout) (maxL := 2) (by decide) rfl (Nat.le_of_ble_eq_true rfl) ?_
  intro p e s m args below meth c Q hx hb hml hown hts hP hG hret ls hl
  have hown : s.vm.findClass RX4 = some m.cls := hown
  have hl : lv_has ls 2 [(0, .ref b), (1, .int (nI r))] := hl
  refine lv_aload_n hx hb dX4_lostWithout_0 rfl (lv_at hl 0 rfl) ?_
  refine pu_V (As := []) (rest := []) ⟨hx, hb, hml, hown, hts⟩ hG hP (k_X4_leastModel l D cI cB b qh qb hs bs n as_ (by omega)) (cwV 0 hts gX4_lostWithout_X4_leastModel rfl rfl rfl (by decide +kernel) ⟨(Nat.le_of_ble_eq_true rfl), (Nat.le_of_ble_eq_true rfl)⟩) [0, 1, 2] rfl 0 rfl rfl rfl rfl hl.1 rfl (Nat.le_of_ble_eq_true rfl) dX4_lostWithout_1 ⟨Nat.zero_le _, Nat.zero_le _⟩ ?_
  refine lv_aload_n hx hb dX4_lostWithout_4 rfl (lv_at hl 0 rfl) ?_
  refine lv_iload_n hx hb dX4_lostWithout_5 rfl (lv_at hl 1 rfl) ?_
  refine pu_V (As := [.int (nI r)]) (rest := [.int (mdl hs bs n)]) ⟨hx, hb, hml, hown, hts⟩ hG hP (k_X4_modelWithout l D cI cB b qh qb hs bs n as_ r (by omega) (by omega)) (cwV 1 hts gX4_lostWithout_X4_modelWithout rfl rfl rfl (by decide +kernel) ⟨(Nat.le_of_ble_eq_true rfl), (Nat.le_of_ble_eq_true rfl)⟩) [0, 1, 2] rfl 0 rfl rfl rfl rfl hl.1 rfl (Nat.le_of_ble_eq_true rfl) dX4_lostWithout_6 ⟨Nat.zero_le _, Nat.zero_le _⟩ ?_
  refine lv_iconst (v := (-1)) hx hb dX4_lostWithout_9 (by decide) ?_
  refine lv_ixor hx hb dX4_lostWithout_10 ?_
  refine lv_iand hx hb dX4_lostWithout_11 ?_
  exact hret _ _ _ rfl dX4_lostWithout_12
set_option maxHeartbeats 4000000 in
set_option maxRecDepth 100000 in
theorem k_X4_gainedWith (l : Launch) (D : va_G) (cI cB : ClassId) (b : Nat) (qh : Nat) (qb : Nat) (hs : Nat → Int32) (bs : Nat → Int32) (n : Nat) (as_ : Int32) (h : Int32) (y : Int32) (hn : n ≤ 24) : Rd l yX4_gainedWith wsX4_gainedWith ({ frames := 4, cells := 0, slots := 0, locals := 90 }) D cI cB [.ref b, .int h, .int y] [(b, .inr (4, [.ref qh, .ref qb, .int (nI n), .int as_])), (qh, .inl (cI, 24, .inl hs)), (qb, .inl (cI, 24, .inl bs))] (.int (gnd hs bs n h y)) := by
  refine pu_startI (cc := cX4_gainedWith) (maxL := 4) (by decide) rfl (Nat.le_of_ble_eq_true rfl) ?_
  intro p e s m args below meth c Q hx hb hml hown hts hP hG hret ls hl
  have hown : s.vm.findClass RX4 = some m.cls := hown
  have hl : lv_has ls 4 [(0, .ref b), (1, .int h), (2, .int y)] := hl
  refine lv_aload_n hx hb dX4_gainedWith_0 rfl (lv_at hl 0 rfl) ?_
  refine pu_V (As := []) (rest := []) ⟨hx, hb, hml, hown, hts⟩ hG hP (k_X4_leastModel l D cI cB b qh qb hs bs n as_ (by omega)) (cwV 0 hts gX4_gainedWith_X4_leastModel rfl rfl rfl (by decide +kernel) ⟨(Nat.le_of_ble_eq_true rfl), (Nat.le_of_ble_eq_true rfl)⟩) [0, 1, 2] rfl 0 rfl rfl rfl rfl hl.1 rfl (Nat.le_of_ble_eq_true rfl) dX4_gainedWith_1 ⟨Nat.zero_le _, Nat.zero_le _⟩ ?_
  refine lv_istore_n (lv' := [(3, .int (mdl hs bs n)), (0, .ref b), (1, .int h), (2, .int y)]) hx hb dX4_gainedWith_4 rfl hl (by decide) rfl (fun ls hl => ?_)
  refine lv_iload_n hx hb dX4_gainedWith_5 rfl (lv_at hl 3 rfl) ?_
  refine lv_iload_n hx hb dX4_gainedWith_6 rfl (lv_at hl 0 rfl) ?_
  refine pu_SN (As := [.int y, .int (mdl hs bs n)]) (rest := []) ⟨hx, hb, hml, hown, hts⟩ hG hP (k_X5_isSubset l D cI cB y (mdl hs bs n) ) (va_cnB 2 hts gX4_gainedWith_X5_isSubset_n51 rfl rfl rfl (hG.2 _ (List.mem_of_getElem? (i := 6) rfl)) (hts (.initialized RX5) (List.mem_of_getElem? (i := 22) rfl)) (by decide +kernel) ⟨(Nat.le_of_ble_eq_true rfl), (Nat.le_of_ble_eq_true rfl)⟩) (hts (.static yX5_isSubset) (List.mem_of_getElem? (i := 24) rfl)) [] rfl rfl hl.1 rfl (Nat.le_of_ble_eq_true rfl) dX4_gainedWith_7 ⟨Nat.zero_le _, Nat.zero_le _⟩ ?_
  refine lv_if_ne (tgt := 15) hx hb dX4_gainedWith_10 (by decide) (fun c_1 => ?_) (fun c_1 => ?_)
  · skip
    have c_1 : (sbs y (mdl hs bs n)) = true := bI_t.mp c_1
    refine lv_aload_n hx hb dX4_gainedWith_15 rfl (lv_at hl 1 rfl) ?_
    refine lv_aload_n hx hb dX4_gainedWith_16 rfl (lv_at hl 1 rfl) ?_
    refine pu_V (As := []) (rest := [.ref b]) ⟨hx, hb, hml, hown, hts⟩ hG hP (k_X4_everyRule l D cI cB b qh qb hs bs n as_ (by omega)) (cwV 0 hts gX4_gainedWith_X4_everyRule rfl rfl rfl (by decide +kernel) ⟨(Nat.le_of_ble_eq_true rfl), (Nat.le_of_ble_eq_true rfl)⟩) [0, 1, 2] rfl 0 rfl rfl rfl rfl hl.1 rfl (Nat.le_of_ble_eq_true rfl) dX4_gainedWith_17 ⟨Nat.zero_le _, Nat.zero_le _⟩ ?_
    refine lv_iconst (v := nI 1) hx hb dX4_gainedWith_20 (by decide) ?_
    refine lv_iload_n hx hb dX4_gainedWith_21 rfl (lv_at hl 2 rfl) ?_
    refine lv_ishl hx hb dX4_gainedWith_22 ?_
    refine pu_V (As := [.int (evr n), .int ((nI 1) <<< (h &&& 31))]) (rest := []) ⟨hx, hb, hml, hown, hts⟩ hG hP (k_X4_closure l D cI cB b qh qb hs bs n as_ (evr n) ((nI 1) <<< (h &&& 31)) (by omega)) (cwV 2 hts gX4_gainedWith_X4_closure rfl rfl rfl (by decide +kernel) ⟨(Nat.le_of_ble_eq_true rfl), (Nat.le_of_ble_eq_true rfl)⟩) [0, 1, 2] rfl 0 rfl rfl rfl rfl hl.1 rfl (Nat.le_of_ble_eq_true rfl) dX4_gainedWith_23 ⟨Nat.zero_le _, Nat.zero_le _⟩ ?_
    refine lv_iload_n hx hb dX4_gainedWith_26 rfl (lv_at hl 0 rfl) ?_
    refine lv_iconst (v := (-1)) hx hb dX4_gainedWith_27 (by decide) ?_
    refine lv_ixor hx hb dX4_gainedWith_28 ?_
    refine lv_iand hx hb dX4_gainedWith_29 ?_
    exact hret _ _ _ (by unfold gnd; rw [if_pos (show sbs y (mdl hs bs n) = true from c_1)]) dX4_gainedWith_30
  · skip
    have c_1 : (sbs y (mdl hs bs n)) = false := bI_f.mp c_1
    refine lv_iconst (v := nI 0) hx hb dX4_gainedWith_13 (by decide) ?_
    exact hret _ _ _ (by unfold gnd; rw [if_neg (by rw [show sbs y (mdl hs bs n) = false from c_1]; decide)]) dX4_gainedWith_14
