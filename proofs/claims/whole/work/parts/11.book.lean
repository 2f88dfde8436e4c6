theorem ilX4_size_4 : ∀ w ∈ u_ws RX4 TX4 4, w ∈ wsX4_size := by decide +kernel
theorem ilX4_isFull_4 : ∀ w ∈ u_ws RX4 TX4 4, w ∈ wsX4_isFull := by decide +kernel
theorem ilX4_hasRule_4 : ∀ w ∈ u_ws RX4 TX4 4, w ∈ wsX4_hasRule := by decide +kernel
theorem ilX4_headOf_4 : ∀ w ∈ u_ws RX4 TX4 4, w ∈ wsX4_headOf := by decide +kernel
theorem ilX4_bodyOf_4 : ∀ w ∈ u_ws RX4 TX4 4, w ∈ wsX4_bodyOf := by decide +kernel
theorem ilX4_everyRule_4 : ∀ w ∈ u_ws RX4 TX4 4, w ∈ wsX4_everyRule := by decide +kernel
theorem ilX4_afterOneRound_4 : ∀ w ∈ u_ws RX4 TX4 4, w ∈ wsX4_afterOneRound := by decide +kernel
set_option maxHeartbeats 4000000 in
set_option maxRecDepth 100000 in
theorem k_X5_contains (l : Launch) (D : va_G) (cI cB : ClassId) (x : Int32) (e_ : Int32) : Rd l yX5_contains wsX5_contains ({ frames := 0, cells := 0, slots := 0, locals := 0 }) D cI cB [.int x, .int e_] [] (.int (bI (has x e_))) := by
  refine pu_startZ (cc := cX5_contains) (maxL := 2) (by decide) rfl (Nat.le_of_ble_eq_true rfl) ?_
  intro p e s m args below meth c Q hx hb hml hown hts hP hG hret ls hl
  have hown : s.vm.findClass RX5 = some m.cls := hown
  have hl : lv_has ls 2 [(0, .int x), (1, .int e_)] := hl
  refine lv_iload_n hx hb dX5_contains_0 rfl (lv_at hl 0 rfl) ?_
  refine lv_iconst (v := nI 1) hx hb dX5_contains_1 (by decide) ?_
  refine lv_iload_n hx hb dX5_contains_2 rfl (lv_at hl 1 rfl) ?_
  refine lv_ishl hx hb dX5_contains_3 ?_
  refine lv_iand hx hb dX5_contains_4 ?_
  refine lv_if_eq (tgt := 12) hx hb dX5_contains_5 (by decide) (fun c_1 => ?_) (fun c_1 => ?_)
  · skip
    refine lv_iconst (v := nI 0) hx hb dX5_contains_12 (by decide) ?_
    exact hret _ _ _ (by simp [has, bI, c_1]) dX5_contains_13
  · skip
    refine lv_iconst (v := nI 1) hx hb dX5_contains_8 (by decide) ?_
    refine lv_goto (tgt := 13) hx hb dX5_contains_9 (by decide) ?_
    exact hret _ _ _ (by simp [has, bI, c_1]) dX5_contains_13
set_option maxHeartbeats 4000000 in
set_option maxRecDepth 100000 in
theorem k_X5_isSubset (l : Launch) (D : va_G) (cI cB : ClassId) (x : Int32) (y : Int32) : Rd l yX5_isSubset wsX5_isSubset ({ frames := 0, cells := 0, slots := 0, locals := 0 }) D cI cB [.int x, .int y] [] (.int (bI (sbs x y))) := by
  refine pu_startZ (cc := cX5_isSubset) (maxL := 2) (by decide) rfl (Nat.le_of_ble_eq_true rfl) ?_
  intro p e s m args below meth c Q hx hb hml hown hts hP hG hret ls hl
  have hown : s.vm.findClass RX5 = some m.cls := hown
  have hl : lv_has ls 2 [(0, .int x), (1, .int y)] := hl
  refine lv_iload_n hx hb dX5_isSubset_0 rfl (lv_at hl 0 rfl) ?_
  refine lv_iload_n hx hb dX5_isSubset_1 rfl (lv_at hl 1 rfl) ?_
  refine lv_iconst (v := (-1)) hx hb dX5_isSubset_2 (by decide) ?_
  refine lv_ixor hx hb dX5_isSubset_3 ?_
  refine lv_iand hx hb dX5_isSubset_4 ?_
  refine lv_if_ne (tgt := 12) hx hb dX5_isSubset_5 (by decide) (fun c_1 => ?_) (fun c_1 => ?_)
  · skip
    refine lv_iconst (v := nI 0) hx hb dX5_isSubset_12 (by decide) ?_
    exact hret _ _ _ (by simp [sbs, bI, c_1]) dX5_isSubset_13
  · skip
    refine lv_iconst (v := nI 1) hx hb dX5_isSubset_8 (by decide) ?_
    refine lv_goto (tgt := 13) hx hb dX5_isSubset_9 (by decide) ?_
    exact hret _ _ _ (by simp [sbs, bI, c_1]) dX5_isSubset_13
set_option maxHeartbeats 4000000 in
set_option maxRecDepth 100000 in
theorem k_X5_isAtom (l : Launch) (D : va_G) (cI cB : ClassId) (a : Int32) : Rd l yX5_isAtom wsX5_isAtom ({ frames := 0, cells := 0, slots := 0, locals := 0 }) D cI cB [.int a] [] (.int (bI (isA a))) := by
  refine pu_startZ (cc := cX5_isAtom) (maxL := 1) (by decide) rfl (Nat.le_of_ble_eq_true rfl) ?_
  intro p e s m args below meth c Q hx hb hml hown hts hP hG hret ls hl
  have hown : s.vm.findClass RX5 = some m.cls := hown
  have hl : lv_has ls 1 [(0, .int a)] := hl
  refine lv_iload_n hx hb dX5_isAtom_0 rfl (lv_at hl 0 rfl) ?_
  refine lv_if_lt (tgt := 14) hx hb dX5_isAtom_1 (by decide) (fun c_1 => ?_) (fun c_1 => ?_)
  · skip
    refine lv_iconst (v := nI 0) hx hb dX5_isAtom_14 (by decide) ?_
    exact hret _ _ _ (by simp [isA, bI, c_1]) dX5_isAtom_15
  · skip
    refine lv_iload_n hx hb dX5_isAtom_4 rfl (lv_at hl 0 rfl) ?_
    refine lv_bipush (v := nI 16) hx hb dX5_isAtom_5 (by decide) ?_
    refine lv_icmp_ge (tgt := 14) hx hb dX5_isAtom_7 (by decide) (fun c_2 => ?_) (fun c_2 => ?_)
    · skip
      refine lv_iconst (v := nI 0) hx hb dX5_isAtom_14 (by decide) ?_
      exact hret _ _ _ (by simp [isA, bI, c_1, c_2]) dX5_isAtom_15
    · skip
      refine lv_iconst (v := nI 1) hx hb dX5_isAtom_10 (by decide) ?_
      refine lv_goto (tgt := 15) hx hb dX5_isAtom_11 (by decide) ?_
      exact hret _ _ _ (by simp [isA, bI, c_1, c_2]) dX5_isAtom_15
set_option maxHeartbeats 4000000 in
set_option maxRecDepth 100000 in
theorem k_X4_size (l : Launch) (D : va_G) (cI cB : ClassId) (b : Nat) (qh : Nat) (qb : Nat) (hs : Nat → Int32) (bs : Nat → Int32) (n : Nat) (as_ : Int32) (hn : n ≤ 24) : Rd l yX4_size wsX4_size ({ frames := 0, cells := 0, slots := 0, locals := 0 }) D cI cB [.ref b] [(b, .inr (4, [.ref qh, .ref qb, .int (nI n), .int as_])), (qh, .inl (cI, 24, .inl hs)), (qb, .inl (cI, 24, .inl bs))] (.int (nI n)) := by
  refine pu_startI (cc := cX4_size) (maxL := 1) (by decide) rfl (Nat.le_of_ble_eq_true rfl) ?_
  intro p e s m args below meth c Q hx hb hml hown hts hP hG hret ls hl
  have hown : s.vm.findClass RX4 = some m.cls := hown
  have hl : lv_has ls 1 [(0, .ref b)] := hl
  refine lv_aload_n hx hb dX4_size_0 rfl (lv_at hl 0 rfl) ?_
  refine va_get (D := D) (ci := 4) (v := .int (nI n)) (C := RX4) (T := TX4) (N := 4) hx hb hts ilX4_size_4 hown hG.1 hP 0 rfl rfl 2 (by decide) (hts (.fieldLink RX4 18 "HornEngine$Rulebook" "count" "I") (List.mem_of_getElem? (i := 1) rfl)) (fun _ h9 => h9) rfl dX4_size_1 ?_
  exact hret _ _ _ rfl dX4_size_4
set_option maxHeartbeats 4000000 in
set_option maxRecDepth 100000 in
theorem k_X4_isFull (l : Launch) (D : va_G) (cI cB : ClassId) (b : Nat) (qh : Nat) (qb : Nat) (hs : Nat → Int32) (bs : Nat → Int32) (n : Nat) (as_ : Int32) (hn : n ≤ 24) : Rd l yX4_isFull wsX4_isFull ({ frames := 0, cells := 0, slots := 0, locals := 0 }) D cI cB [.ref b] [(b, .inr (4, [.ref qh, .ref qb, .int (nI n), .int as_])), (qh, .inl (cI, 24, .inl hs)), (qb, .inl (cI, 24, .inl bs))] (.int (bI (decide (24 ≤ n)))) := by
  refine pu_startZ (cc := cX4_isFull) (maxL := 1) (by decide) rfl (Nat.le_of_ble_eq_true rfl) ?_
  intro p e s m args below meth c Q hx hb hml hown hts hP hG hret ls hl
  have hown : s.vm.findClass RX4 = some m.cls := hown
  have hl : lv_has ls 1 [(0, .ref b)] := hl
  refine lv_aload_n hx hb dX4_isFull_0 rfl (lv_at hl 0 rfl) ?_
  refine va_get (D := D) (ci := 4) (v := .int (nI n)) (C := RX4) (T := TX4) (N := 4) hx hb hts ilX4_isFull_4 hown hG.1 hP 0 rfl rfl 2 (by decide) (hts (.fieldLink RX4 18 "HornEngine$Rulebook" "count" "I") (List.mem_of_getElem? (i := 1) rfl)) (fun _ h9 => h9) rfl dX4_isFull_1 ?_
  refine lv_bipush (v := nI 24) hx hb dX4_isFull_4 (by decide) ?_
  refine lv_icmp_lt (tgt := 13) hx hb dX4_isFull_6 (by decide) (fun c_1 => ?_) (fun c_1 => ?_)
  · skip
    have c_1 : n < 24 := (nI_ltI (by omega) (by omega)).mp (show nI n < nI 24 from c_1)
    refine lv_iconst (v := nI 0) hx hb dX4_isFull_13 (by decide) ?_
    exact hret _ _ _ (by simp [bI, c_1]) dX4_isFull_14
  · skip
    have c_1 : ¬ (n < 24) := fun h9 => (show ¬ (nI n < nI 24) from c_1) ((nI_ltI (by omega) (by omega)).mpr h9)
    refine lv_iconst (v := nI 1) hx hb dX4_isFull_9 (by decide) ?_
    refine lv_goto (tgt := 14) hx hb dX4_isFull_10 (by decide) ?_
    exact hret _ _ _ (by simp [bI, c_1]) dX4_isFull_14
set_option maxHeartbeats 4000000 in
set_option maxRecDepth 100000 in
theorem k_X4_hasRule (l : Launch) (D : va_G) (cI cB : ClassId) (b : Nat) (qh : Nat) (qb : Nat) (hs : Nat → Int32) (bs : Nat → Int32) (n : Nat) (as_ : Int32) (r : Int32) (hn : n ≤ 24) : Rd l yX4_hasRule wsX4_hasRule ({ frames := 0, cells := 0, slots := 0, locals := 0 }) D cI cB [.ref b, .int r] [(b, .inr (4, [.ref qh, .ref qb, .int (nI n), .int as_])), (qh, .inl (cI, 24, .inl hs)), (qb, .inl (cI, 24, .inl bs))] (.int (bI (hasR r n))) := by
  refine pu_startZ (cc := cX4_hasRule) (maxL := 2) (by decide) rfl (Nat.le_of_ble_eq_true rfl) ?_
  intro p e s m args below meth c Q hx hb hml hown hts hP hG hret ls hl
  have hown : s.vm.findClass RX4 = some m.cls := hown
  have hl : lv_has ls 2 [(0, .ref b), (1, .int r)] := hl
  refine lv_iload_n hx hb dX4_hasRule_0 rfl (lv_at hl 1 rfl) ?_
  refine lv_if_lt (tgt := 16) hx hb dX4_hasRule_1 (by decide) (fun c_1 => ?_) (fun c_1 => ?_)
  · skip
    refine lv_iconst (v := nI 0) hx hb dX4_hasRule_16 (by decide) ?_
    exact hret _ _ _ (by simp [hasR, bI, c_1]) dX4_hasRule_17
  · skip
    refine lv_iload_n hx hb dX4_hasRule_4 rfl (lv_at hl 1 rfl) ?_
    refine lv_aload_n hx hb dX4_hasRule_5 rfl (lv_at hl 0 rfl) ?_
    refine va_get (D := D) (ci := 4) (v := .int (nI n)) (C := RX4) (T := TX4) (N := 4) hx hb hts ilX4_hasRule_4 hown hG.1 hP 0 rfl rfl 2 (by decide) (hts (.fieldLink RX4 18 "HornEngine$Rulebook" "count" "I") (List.mem_of_getElem? (i := 1) rfl)) (fun _ h9 => h9) rfl dX4_hasRule_6 ?_
    refine lv_icmp_ge (tgt := 16) hx hb dX4_hasRule_9 (by decide) (fun c_2 => ?_) (fun c_2 => ?_)
    · skip
      refine lv_iconst (v := nI 0) hx hb dX4_hasRule_16 (by decide) ?_
      exact hret _ _ _ (by simp [hasR, bI, c_1, c_2]) dX4_hasRule_17
    · skip
      refine lv_iconst (v := nI 1) hx hb dX4_hasRule_12 (by decide) ?_
      refine lv_goto (tgt := 17) hx hb dX4_hasRule_13 (by decide) ?_
      exact hret _ _ _ (by simp [hasR, bI, c_1, c_2]) dX4_hasRule_17
set_option maxHeartbeats 4000000 in
set_option maxRecDepth 100000 in
theorem k_X4_headOf (l : Launch) (D : va_G) (cI cB : ClassId) (b : Nat) (qh : Nat) (qb : Nat) (hs : Nat → Int32) (bs : Nat → Int32) (n : Nat) (as_ : Int32) (r : Nat) (hn : n ≤ 24) (hr : r < n) : Rd l yX4_headOf wsX4_headOf ({ frames := 1, cells := 0, slots := 0, locals := 21 }) D cI cB [.ref b, .int (nI r)] [(b, .inr (4, [.ref qh, .ref qb, .int (nI n), .int as_])), (qh, .inl (cI, 24, .inl hs)), (qb, .inl (cI, 24, .inl bs))] (.int (hs r)) := by
  refine pu_startI (cc := cX4_headOf) (maxL := 2) (by decide) rfl (Nat.le_of_ble_eq_true rfl) ?_
  intro p e s m args below meth c Q hx hb hml hown hts hP hG hret ls hl
  have hown : s.vm.findClass RX4 = some m.cls := hown
  have hl : lv_has ls 2 [(0, .ref b), (1, .int (nI r))] := hl
  refine lv_aload_n hx hb dX4_headOf_0 rfl (lv_at hl 0 rfl) ?_
  refine lv_iload_n hx hb dX4_headOf_1 rfl (lv_at hl 1 rfl) ?_
  refine pu_V (As := [.int (nI r)]) (rest := []) ⟨hx, hb, hml, hown, hts⟩ hG hP (k_X4_hasRule l D cI cB b qh qb hs bs n as_ (nI r) (by omega)) (cwV 1 hts gX4_headOf_X4_hasRule rfl rfl rfl (by decide +kernel) ⟨(Nat.le_of_ble_eq_true rfl), (Nat.le_of_ble_eq_true rfl)⟩) [0, 1, 2] rfl 0 rfl rfl rfl rfl hl.1 rfl (Nat.le_of_ble_eq_true rfl) dX4_headOf_2 ⟨Nat.zero_le _, Nat.zero_le _⟩ ?_
  refine lv_if_eq (tgt := 17) hx hb dX4_headOf_5 (by decide) (fun c_1 => ?_) (fun c_1 => ?_)
  · skip
    have c_1 : (hasR (nI r) n) = false := bI_f.mp c_1
    exact absurd (hasR_of hr (by omega)) (by rw [c_1]; decide)
  · skip
    have c_1 : (hasR (nI r) n) = true := bI_t.mp c_1
    refine lv_aload_n hx hb dX4_headOf_8 rfl (lv_at hl 0 rfl) ?_
    refine va_get (D := D) (ci := 4) (v := .ref qh) (C := RX4) (T := TX4) (N := 4) hx hb hts ilX4_headOf_4 hown hG.1 hP 0 rfl rfl 0 (by decide) (hts (.fieldLink RX4 9 "HornEngine$Rulebook" "heads" "[I") (List.mem_of_getElem? (i := 1) rfl)) (fun _ h9 => h9) rfl dX4_headOf_9 ?_
    refine lv_iload_n hx hb dX4_headOf_12 rfl (lv_at hl 1 rfl) ?_
    refine ia_ld hx hb hG hP 1 rfl r rfl (by omega) (by decide) dX4_headOf_13 ?_
    refine lv_goto (tgt := 18) hx hb dX4_headOf_14 (by decide) ?_
    exact hret _ _ _ rfl dX4_headOf_18
set_option maxHeartbeats 4000000 in
set_option maxRecDepth 100000 in
theorem k_X4_bodyOf (l : Launch) (D : va_G) (cI cB : ClassId) (b : Nat) (qh : Nat) (qb : Nat) (hs : Nat → Int32) (bs : Nat → Int32) (n : Nat) (as_ : Int32) (r : Nat) (hn : n ≤ 24) (hr : r < n) : Rd l yX4_bodyOf wsX4_bodyOf ({ frames := 1, cells := 0, slots := 0, locals := 21 }) D cI cB [.ref b, .int (nI r)] [(b, .inr (4, [.ref qh, .ref qb, .int (nI n), .int as_])), (qh, .inl (cI, 24, .inl hs)), (qb, .inl (cI, 24, .inl bs))] (.int (bs r)) := by
  refine pu_startI (cc := cX4_bodyOf) (maxL := 2) (by decide) rfl (Nat.le_of_ble_eq_true rfl) ?_
  intro p e s m args below meth c Q hx hb hml hown hts hP hG hret ls hl
  have hown : s.vm.findClass RX4 = some m.cls := hown
  have hl : lv_has ls 2 [(0, .ref b), (1, .int (nI r))] := hl
  refine lv_aload_n hx hb dX4_bodyOf_0 rfl (lv_at hl 0 rfl) ?_
  refine lv_iload_n hx hb dX4_bodyOf_1 rfl (lv_at hl 1 rfl) ?_
  refine pu_V (As := [.int (nI r)]) (rest := []) ⟨hx, hb, hml, hown, hts⟩ hG hP (k_X4_hasRule l D cI cB b qh qb hs bs n as_ (nI r) (by omega)) (cwV 1 hts gX4_bodyOf_X4_hasRule rfl rfl rfl (by decide +kernel) ⟨(Nat.le_of_ble_eq_true rfl), (Nat.le_of_ble_eq_true rfl)⟩) [0, 1, 2] rfl 0 rfl rfl rfl rfl hl.1 rfl (Nat.le_of_ble_eq_true rfl) dX4_bodyOf_2 ⟨Nat.zero_le _, Nat.zero_le _⟩ ?_
  refine lv_if_eq (tgt := 17) hx hb dX4_bodyOf_5 (by decide) (fun c_1 => ?_) (fun c_1 => ?_)
  · skip
    have c_1 : (hasR (nI r) n) = false := bI_f.mp c_1
    exact absurd (hasR_of hr (by omega)) (by rw [c_1]; decide)
  · skip
    have c_1 : (hasR (nI r) n) = true := bI_t.mp c_1
    refine lv_aload_n hx hb dX4_bodyOf_8 rfl (lv_at hl 0 rfl) ?_
    refine va_get (D := D) (ci := 4) (v := .ref qb) (C := RX4) (T := TX4) (N := 4) hx hb hts ilX4_bodyOf_4 hown hG.1 hP 0 rfl rfl 1 (by decide) (hts (.fieldLink RX4 15 "HornEngine$Rulebook" "bodies" "[I") (List.mem_of_getElem? (i := 1) rfl)) (fun _ h9 => h9) rfl dX4_bodyOf_9 ?_
    refine lv_iload_n hx hb dX4_bodyOf_12 rfl (lv_at hl 1 rfl) ?_
    refine ia_ld hx hb hG hP 2 rfl r rfl (by omega) (by decide) dX4_bodyOf_13 ?_
    refine lv_goto (tgt := 18) hx hb dX4_bodyOf_14 (by decide) ?_
    exact hret _ _ _ rfl dX4_bodyOf_18
set_option maxHeartbeats 4000000 in
set_option maxRecDepth 100000 in
theorem k_X4_everyRule (l : Launch) (D : va_G) (cI cB : ClassId) (b : Nat) (qh : Nat) (qb : Nat) (hs : Nat → Int32) (bs : Nat → Int32) (n : Nat) (as_ : Int32) (hn : n ≤ 24) : Rd l yX4_everyRule wsX4_everyRule ({ frames := 0, cells := 0, slots := 0, locals := 0 }) D cI cB [.ref b] [(b, .inr (4, [.ref qh, .ref qb, .int (nI n), .int as_])), (qh, .inl (cI, 24, .inl hs)), (qb, .inl (cI, 24, .inl bs))] (.int (evr n)) := by
  refine pu_startI (cc := cX4_everyRule) (maxL := 1) (by decide) rfl (Nat.le_of_ble_eq_true rfl) ?_
  intro p e s m args below meth c Q hx hb hml hown hts hP hG hret ls hl
  have hown : s.vm.findClass RX4 = some m.cls := hown
  have hl : lv_has ls 1 [(0, .ref b)] := hl
  refine lv_iconst (v := nI 1) hx hb dX4_everyRule_0 (by decide) ?_
  refine lv_aload_n hx hb dX4_everyRule_1 rfl (lv_at hl 0 rfl) ?_
  refine va_get (D := D) (ci := 4) (v := .int (nI n)) (C := RX4) (T := TX4) (N := 4) hx hb hts ilX4_everyRule_4 hown hG.1 hP 0 rfl rfl 2 (by decide) (hts (.fieldLink RX4 18 "HornEngine$Rulebook" "count" "I") (List.mem_of_getElem? (i := 1) rfl)) (fun _ h9 => h9) rfl dX4_everyRule_2 ?_
  refine lv_ishl hx hb dX4_everyRule_5 ?_
  refine lv_iconst (v := nI 1) hx hb dX4_everyRule_6 (by decide) ?_
  refine lv_isub hx hb dX4_everyRule_7 ?_
  exact hret _ _ _ rfl dX4_everyRule_8
set_option maxHeartbeats 4000000 in
set_option maxRecDepth 100000 in
theorem k_X4_afterOneRound (l : Launch) (D : va_G) (cI cB : ClassId) (b : Nat) (qh : Nat) (qb : Nat) (hs : Nat → Int32) (bs : Nat → Int32) (n : Nat) (as_ : Int32) (R : Int32) (K : Int32) (hn : n ≤ 24) : Rd l yX4_afterOneRound wsX4_afterOneRound ({ frames := 1, cells := 0, slots := 0, locals := 21 }) D cI cB [.ref b, .int R, .int K] [(b, .inr (4, [.ref qh, .ref qb, .int (nI n), .int as_])), (qh, .inl (cI, 24, .inl hs)), (qb, .inl (cI, 24, .inl bs))] (.int (rnd hs bs R K n)) := by
  refine pu_startI (cc := cX4_afterOneRound) (maxL := 5) (by decide) rfl (Nat.le_of_ble_eq_true rfl) ?_
  intro p e s m args below meth c Q hx hb hml hown hts hP hG hret ls hl
  have hown : s.vm.findClass RX4 = some m.cls := hown
  have hl : lv_has ls 5 [(0, .ref b), (1, .int R), (2, .int K)] := hl
  refine lv_iload_n hx hb dX4_afterOneRound_0 rfl (lv_at hl 2 rfl) ?_
  refine lv_istore_n (lv' := [(3, .int K), (0, .ref b), (1, .int R), (2, .int K)]) hx hb dX4_afterOneRound_1 rfl hl (by decide) rfl (fun ls hl => ?_)
  refine lv_iconst (v := nI 0) hx hb dX4_afterOneRound_2 (by decide) ?_
  refine lv_istore (lv' := [(4, .int (nI 0)), (3, .int K), (0, .ref b), (1, .int R), (2, .int K)]) hx hb dX4_afterOneRound_3 hl (by decide) rfl (fun ls hl => ?_)
  have lp_5_1 : ∀ (fu_5 : Nat) (r : Nat) (x3 : Int32) (hr : r ≤ n) (e3 : x3 = rnd hs bs R K r) (hfu_5 : n - r < fu_5) (ls : Array Slot) (hl : lv_has ls 5 [(0, .ref b), (1, .int R), (2, .int K), (3, .int x3), (4, .int (nI r))]), W p l e ({ frames := 1, cells := 0, slots := 0, locals := 21 }) s m args below meth c s.heap [] 0 0 Q (F0 m 5 ls []) := by
    intro fu_5
    induction fu_5 with
    | zero => intro r x3 hr e3 hfu; exact absurd hfu (Nat.not_lt_zero _)
    | succ fu_5 ih_5 =>
      intro r x3 hr e3 hfu_5 ls hl
      refine lv_iload hx hb dX4_afterOneRound_5 (lv_at hl 4 rfl) ?_
      refine lv_aload_n hx hb dX4_afterOneRound_7 rfl (lv_at hl 0 rfl) ?_
      refine va_get (D := D) (ci := 4) (v := .int (nI n)) (C := RX4) (T := TX4) (N := 4) hx hb hts ilX4_afterOneRound_4 hown hG.1 hP 0 rfl rfl 2 (by decide) (hts (.fieldLink RX4 18 "HornEngine$Rulebook" "count" "I") (List.mem_of_getElem? (i := 1) rfl)) (fun _ h9 => h9) rfl dX4_afterOneRound_8 ?_
      refine lv_icmp_ge (tgt := 55) hx hb dX4_afterOneRound_11 (by decide) (fun c_2 => ?_) (fun c_2 => ?_)
      · skip
        have c_2 : n ≤ r := (nI_leI (by omega) (by omega)).mp (show nI n ≤ nI r from c_2)
        refine lv_iload_n hx hb dX4_afterOneRound_55 rfl (lv_at hl 3 rfl) ?_
        exact hret _ _ _ (by rw [e3, show r = n from by omega]) dX4_afterOneRound_56
      · skip
        have c_2 : ¬ (n ≤ r) := fun h9 => (show ¬ (nI n ≤ nI r) from c_2) ((nI_leI (by omega) (by omega)).mpr h9)
        refine lv_iload_n hx hb dX4_afterOneRound_14 rfl (lv_at hl 1 rfl) ?_
        refine lv_iload hx hb dX4_afterOneRound_15 (lv_at hl 4 rfl) ?_
        refine pu_SN (As := [.int R, .int (nI r)]) (rest := []) ⟨hx, hb, hml, hown, hts⟩ hG hP (k_X5_contains l D cI cB R (nI r) ) (va_cnB 2 hts gX4_afterOneRound_X5_contains_n44 rfl rfl rfl (hG.2 _ (List.mem_of_getElem? (i := 5) rfl)) (hts (.initialized RX5) (List.mem_of_getElem? (i := 5) rfl)) (by decide +kernel) ⟨(Nat.le_of_ble_eq_true rfl), (Nat.le_of_ble_eq_true rfl)⟩) (hts (.static yX5_contains) (List.mem_of_getElem? (i := 4) rfl)) [] rfl rfl hl.1 rfl (Nat.le_of_ble_eq_true rfl) dX4_afterOneRound_17 ⟨Nat.zero_le _, Nat.zero_le _⟩ ?_
        refine lv_if_eq (tgt := 49) hx hb dX4_afterOneRound_20 (by decide) (fun c_3 => ?_) (fun c_3 => ?_)
        · skip
          have c_3 : (has R (nI r)) = false := bI_f.mp c_3
          refine lv_iinc (v := nI (r + 1)) (lv' := [(4, .int (nI (r + 1))), (0, .ref b), (1, .int R), (2, .int K), (3, .int x3)]) hx hb dX4_afterOneRound_49 hl (k := 4) rfl (nI_s1 r) (by decide) rfl (fun ls hl => ?_)
          refine lv_goto (tgt := 5) hx hb dX4_afterOneRound_52 (by decide) ?_
          exact ih_5 (r + 1) x3 (by omega) (by subst e3; simp [rnd, c_2, c_3]) (by omega) ls (lv_sub hl [1, 2, 3, 4, 0] rfl)
        · skip
          have c_3 : (has R (nI r)) = true := bI_t.mp c_3
          refine lv_aload_n hx hb dX4_afterOneRound_23 rfl (lv_at hl 0 rfl) ?_
          refine va_get (D := D) (ci := 4) (v := .ref qb) (C := RX4) (T := TX4) (N := 4) hx hb hts ilX4_afterOneRound_4 hown hG.1 hP 0 rfl rfl 1 (by decide) (hts (.fieldLink RX4 15 "HornEngine$Rulebook" "bodies" "[I") (List.mem_of_getElem? (i := 2) rfl)) (fun _ h9 => h9) rfl dX4_afterOneRound_24 ?_
          refine lv_iload hx hb dX4_afterOneRound_27 (lv_at hl 4 rfl) ?_
          refine ia_ld hx hb hG hP 2 rfl r rfl (by omega) (by decide) dX4_afterOneRound_29 ?_
          refine lv_iload_n hx hb dX4_afterOneRound_30 rfl (lv_at hl 2 rfl) ?_
          refine pu_SN (As := [.int (bs r), .int K]) (rest := []) ⟨hx, hb, hml, hown, hts⟩ hG hP (k_X5_isSubset l D cI cB (bs r) K ) (va_cnB 2 hts gX4_afterOneRound_X5_isSubset_n51 rfl rfl rfl (hG.2 _ (List.mem_of_getElem? (i := 6) rfl)) (hts (.initialized RX5) (List.mem_of_getElem? (i := 5) rfl)) (by decide +kernel) ⟨(Nat.le_of_ble_eq_true rfl), (Nat.le_of_ble_eq_true rfl)⟩) (hts (.static yX5_isSubset) (List.mem_of_getElem? (i := 7) rfl)) [] rfl rfl hl.1 rfl (Nat.le_of_ble_eq_true rfl) dX4_afterOneRound_31 ⟨Nat.zero_le _, Nat.zero_le _⟩ ?_
          refine lv_if_eq (tgt := 49) hx hb dX4_afterOneRound_34 (by decide) (fun c_4 => ?_) (fun c_4 => ?_)
          · skip
            have c_4 : (sbs (bs r) K) = false := bI_f.mp c_4
            refine lv_iinc (v := nI (r + 1)) (lv' := [(4, .int (nI (r + 1))), (0, .ref b), (1, .int R), (2, .int K), (3, .int x3)]) hx hb dX4_afterOneRound_49 hl (k := 4) rfl (nI_s1 r) (by decide) rfl (fun ls hl => ?_)
            refine lv_goto (tgt := 5) hx hb dX4_afterOneRound_52 (by decide) ?_
            exact ih_5 (r + 1) x3 (by omega) (by subst e3; simp [rnd, c_2, c_3, c_4]) (by omega) ls (lv_sub hl [1, 2, 3, 4, 0] rfl)
          · skip
            have c_4 : (sbs (bs r) K) = true := bI_t.mp c_4
            refine lv_iload_n hx hb dX4_afterOneRound_37 rfl (lv_at hl 3 rfl) ?_
            refine lv_iconst (v := nI 1) hx hb dX4_afterOneRound_38 (by decide) ?_
            refine lv_aload_n hx hb dX4_afterOneRound_39 rfl (lv_at hl 0 rfl) ?_
            refine va_get (D := D) (ci := 4) (v := .ref qh) (C := RX4) (T := TX4) (N := 4) hx hb hts ilX4_afterOneRound_4 hown hG.1 hP 0 rfl rfl 0 (by decide) (hts (.fieldLink RX4 9 "HornEngine$Rulebook" "heads" "[I") (List.mem_of_getElem? (i := 3) rfl)) (fun _ h9 => h9) rfl dX4_afterOneRound_40 ?_
            refine lv_iload hx hb dX4_afterOneRound_43 (lv_at hl 4 rfl) ?_
            refine ia_ld hx hb hG hP 1 rfl r rfl (by omega) (by decide) dX4_afterOneRound_45 ?_
            refine lv_ishl hx hb dX4_afterOneRound_46 ?_
            refine lv_ior hx hb dX4_afterOneRound_47 ?_
            refine lv_istore_n (lv' := [(3, .int (x3 ||| ((nI 1) <<< ((hs r) &&& 31)))), (0, .ref b), (1, .int R), (2, .int K), (4, .int (nI r))]) hx hb dX4_afterOneRound_48 rfl hl (by decide) rfl (fun ls hl => ?_)
            refine lv_iinc (v := nI (r + 1)) (lv' := [(4, .int (nI (r + 1))), (3, .int (x3 ||| ((nI 1) <<< ((hs r) &&& 31)))), (0, .ref b), (1, .int R), (2, .int K)]) hx hb dX4_afterOneRound_49 hl (k := 4) rfl (nI_s1 r) (by decide) rfl (fun ls hl => ?_)
            refine lv_goto (tgt := 5) hx hb dX4_afterOneRound_52 (by decide) ?_
            exact ih_5 (r + 1) (x3 ||| ((nI 1) <<< ((hs r) &&& 31))) (by omega) (by subst e3; simp [rnd, c_2, c_3, c_4]) (by omega) ls (lv_sub hl [2, 3, 4, 1, 0] rfl)
  exact lp_5_1 (n - 0 + 1) 0 K (Nat.zero_le _) rfl (Nat.lt_succ_self _) ls (lv_sub hl [2, 3, 4, 1, 0] rfl)
set_option maxHeartbeats 4000000 in
set_option maxRecDepth 100000 in
theorem k_X4_closure (l : Launch) (D : va_G) (cI cB : ClassId) (b : Nat) (qh : Nat) (qb : Nat) (hs : Nat → Int32) (bs : Nat → Int32) (n : Nat) (as_ : Int32) (R : Int32) (F : Int32) (hn : n ≤ 24) : Rd l yX4_closure wsX4_closure ({ frames := 2, cells := 0, slots := 0, locals := 45 }) D cI cB [.ref b, .int R, .int F] [(b, .inr (4, [.ref qh, .ref qb, .int (nI n), .int as_])), (qh, .inl (cI, 24, .inl hs)), (qb, .inl (cI, 24, .inl bs))] (.int (clo hs bs n R F)) := by
  refine pu_startI (cc := cX4_closure) (maxL := 6) (by decide) rfl (Nat.le_of_ble_eq_true rfl) ?_
  intro p e s m args below meth c Q hx hb hml hown hts hP hG hret ls hl
  have hown : s.vm.findClass RX4 = some m.cls := hown
  have hl : lv_has ls 6 [(0, .ref b), (1, .int R), (2, .int F)] := hl
  refine lv_iload_n hx hb dX4_closure_0 rfl (lv_at hl 2 rfl) ?_
  refine lv_istore_n (lv' := [(3, .int F), (0, .ref b), (1, .int R), (2, .int F)]) hx hb dX4_closure_1 rfl hl (by decide) rfl (fun ls hl => ?_)
  refine lv_iconst (v := nI 0) hx hb dX4_closure_2 (by decide) ?_
  refine lv_istore (lv' := [(4, .int (nI 0)), (3, .int F), (0, .ref b), (1, .int R), (2, .int F)]) hx hb dX4_closure_3 hl (by decide) rfl (fun ls hl => ?_)
  have lp_5_1 : ∀ (fu_5 : Nat) (k : Nat) (x3 : Int32) (hk : k ≤ 16) (e3 : x3 = pw (fun K => rnd hs bs R K n) k F) (hfu_5 : 16 - k < fu_5) (ls : Array Slot) (hl : lv_has ls 6 [(0, .ref b), (1, .int R), (2, .int F), (3, .int x3), (4, .int (nI k))]), W p l e ({ frames := 2, cells := 0, slots := 0, locals := 45 }) s m args below meth c s.heap [] 0 0 Q (F0 m 5 ls []) := by
    intro fu_5
    induction fu_5 with
    | zero => intro k x3 hk e3 hfu; exact absurd hfu (Nat.not_lt_zero _)
    | succ fu_5 ih_5 =>
      intro k x3 hk e3 hfu_5 ls hl
      refine lv_iload hx hb dX4_closure_5 (lv_at hl 4 rfl) ?_
      refine lv_bipush (v := nI 16) hx hb dX4_closure_7 (by decide) ?_
      refine lv_icmp_ge (tgt := 37) hx hb dX4_closure_9 (by decide) (fun c_2 => ?_) (fun c_2 => ?_)
      · skip
        have c_2 : 16 ≤ k := (nI_leI (by omega) (by omega)).mp (show nI 16 ≤ nI k from c_2)
        refine lv_iload_n hx hb dX4_closure_37 rfl (lv_at hl 3 rfl) ?_
        exact hret _ _ _ (by rw [e3, show k = 16 from by omega]; rfl) dX4_closure_38
      · skip
        have c_2 : ¬ (16 ≤ k) := fun h9 => (show ¬ (nI 16 ≤ nI k) from c_2) ((nI_leI (by omega) (by omega)).mpr h9)
        refine lv_aload_n hx hb dX4_closure_12 rfl (lv_at hl 0 rfl) ?_
        refine lv_iload_n hx hb dX4_closure_13 rfl (lv_at hl 1 rfl) ?_
        refine lv_iload_n hx hb dX4_closure_14 rfl (lv_at hl 3 rfl) ?_
        refine pu_V (As := [.int R, .int x3]) (rest := []) ⟨hx, hb, hml, hown, hts⟩ hG hP (k_X4_afterOneRound l D cI cB b qh qb hs bs n as_ R x3 (by omega)) (cwV 2 hts gX4_closure_X4_afterOneRound rfl rfl rfl (by decide +kernel) ⟨(Nat.le_of_ble_eq_true rfl), (Nat.le_of_ble_eq_true rfl)⟩) [0, 1, 2] rfl 0 rfl rfl rfl rfl hl.1 rfl (Nat.le_of_ble_eq_true rfl) dX4_closure_15 ⟨Nat.zero_le _, Nat.zero_le _⟩ ?_
        refine lv_istore (lv' := [(5, .int (rnd hs bs R x3 n)), (0, .ref b), (1, .int R), (2, .int F), (3, .int x3), (4, .int (nI k))]) hx hb dX4_closure_18 hl (by decide) rfl (fun ls hl => ?_)
        refine lv_iload hx hb dX4_closure_20 (lv_at hl 0 rfl) ?_
        refine lv_iload_n hx hb dX4_closure_22 rfl (lv_at hl 4 rfl) ?_
        refine lv_icmp_ne (tgt := 28) hx hb dX4_closure_23 (by decide) (fun c_3 => ?_) (fun c_3 => ?_)
        · skip
          refine lv_iload hx hb dX4_closure_28 (lv_at hl 0 rfl) ?_
          refine lv_istore_n (lv' := [(3, .int (rnd hs bs R x3 n)), (5, .int (rnd hs bs R x3 n)), (0, .ref b), (1, .int R), (2, .int F), (4, .int (nI k))]) hx hb dX4_closure_30 rfl hl (by decide) rfl (fun ls hl => ?_)
          refine lv_iinc (v := nI (k + 1)) (lv' := [(4, .int (nI (k + 1))), (3, .int (rnd hs bs R x3 n)), (5, .int (rnd hs bs R x3 n)), (0, .ref b), (1, .int R), (2, .int F)]) hx hb dX4_closure_31 hl (k := 5) rfl (nI_s1 k) (by decide) rfl (fun ls hl => ?_)
          refine lv_goto (tgt := 5) hx hb dX4_closure_34 (by decide) ?_
          exact ih_5 (k + 1) (rnd hs bs R x3 n) (by omega) (by subst e3; rfl) (by omega) ls (lv_sub hl [3, 4, 5, 1, 0] rfl)
        · skip
          refine lv_iload_n hx hb dX4_closure_26 rfl (lv_at hl 4 rfl) ?_
          exact hret _ _ _ (by subst e3; exact (pw_fix (k := k) c_2, c_3 (16 - k) ▸ (by rw [clo, show 16 = k + (16 - k) from by omega]))) dX4_closure_27
  exact lp_5_1 (16 - 0 + 1) 0 F (Nat.zero_le _) rfl (Nat.lt_succ_self _) ls (lv_sub hl [2, 3, 4, 1, 0] rfl)
set_option maxHeartbeats 4000000 in
set_option maxRecDepth 100000 in
theorem k_X4_leastModel (l : Launch) (D : va_G) (cI cB : ClassId) (b : Nat) (qh : Nat) (qb : Nat) (hs : Nat → Int32) (bs : Nat → Int32) (n : Nat) (as_ : Int32) (hn : n ≤ 24) : Rd l yX4_leastModel wsX4_leastModel ({ frames := 3, cells := 0, slots := 0, locals := 70 }) D cI cB [.ref b] [(b, .inr (4, [.ref qh, .ref qb, .int (nI n), .int as_])), (qh, .inl (cI, 24, .inl hs)), (qb, .inl (cI, 24, .inl bs))] (.int (clo hs bs n (evr n) (nI 0))) := by
  refine pu_startI (cc := cX4_leastModel) (maxL := 1) (by decide) rfl (Nat.le_of_ble_eq_true rfl) ?_
  intro p e s m args below meth c Q hx hb hml hown hts hP hG hret ls hl
  have hown : s.vm.findClass RX4 = some m.cls := hown
  have hl : lv_has ls 1 [(0, .ref b)] := hl
  refine lv_aload_n hx hb dX4_leastModel_0 rfl (lv_at hl 0 rfl) ?_
  refine lv_aload_n hx hb dX4_leastModel_1 rfl (lv_at hl 0 rfl) ?_
  refine pu_V (As := []) (rest := [.ref b]) ⟨hx, hb, hml, hown, hts⟩ hG hP (k_X4_everyRule l D cI cB b qh qb hs bs n as_ (by omega)) (cwV 0 hts gX4_leastModel_X4_everyRule rfl rfl rfl (by decide +kernel) ⟨(Nat.le_of_ble_eq_true rfl), (Nat.le_of_ble_eq_true rfl)⟩) [0, 1, 2] rfl 0 rfl rfl rfl rfl hl.1 rfl (Nat.le_of_ble_eq_true rfl) dX4_leastModel_2 ⟨Nat.zero_le _, Nat.zero_le _⟩ ?_
  refine lv_iconst (v := nI 0) hx hb dX4_leastModel_5 (by decide) ?_
  refine pu_V (As := [.int (evr n), .int (nI 0)]) (rest := []) ⟨hx, hb, hml, hown, hts⟩ hG hP (k_X4_closure l D cI cB b qh qb hs bs n as_ (evr n) (nI 0) (by omega)) (cwV 2 hts gX4_leastModel_X4_closure rfl rfl rfl (by decide +kernel) ⟨(Nat.le_of_ble_eq_true rfl), (Nat.le_of_ble_eq_true rfl)⟩) [0, 1, 2] rfl 0 rfl rfl rfl rfl hl.1 rfl (Nat.le_of_ble_eq_true rfl) dX4_leastModel_6 ⟨Nat.zero_le _, Nat.zero_le _⟩ ?_
  exact hret _ _ _ rfl dX4_leastModel_9
