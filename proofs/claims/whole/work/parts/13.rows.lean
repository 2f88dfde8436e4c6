theorem ilX4_bestExplanation_4 : ∀ w ∈ u_ws RX4 TX4 4, w ∈ wsX4_bestExplanation := by decide +kernel
theorem ilX2_size_2 : ∀ w ∈ u_ws RX2 TX2 2, w ∈ wsX2_size := by decide +kernel
theorem ilX2_isFull_2 : ∀ w ∈ u_ws RX2 TX2 2, w ∈ wsX2_isFull := by decide +kernel
theorem ilX2_itemAt_2 : ∀ w ∈ u_ws RX2 TX2 2, w ∈ wsX2_itemAt := by decide +kernel
theorem ilX2_empty_2 : ∀ w ∈ u_ws RX2 TX2 2, w ∈ wsX2_empty := by decide +kernel
theorem ilX2_addLast_2 : ∀ w ∈ u_ws RX2 TX2 2, w ∈ wsX2_addLast := by decide +kernel
theorem ilX4_addLast_4 : ∀ w ∈ u_ws RX4 TX4 4, w ∈ wsX4_addLast := by decide +kernel
theorem ilX4_removeAt_4 : ∀ w ∈ u_ws RX4 TX4 4, w ∈ wsX4_removeAt := by decide +kernel
theorem ilX4_replaceAssumable_4 : ∀ w ∈ u_ws RX4 TX4 4, w ∈ wsX4_replaceAssumable := by decide +kernel
theorem ilX4_copyFrom_4 : ∀ w ∈ u_ws RX4 TX4 4, w ∈ wsX4_copyFrom := by decide +kernel
set_option maxHeartbeats 4000000 in
set_option maxRecDepth 100000 in
theorem k_J6_bitCount_0f7a4 (l : Launch) (D : va_G) (cI cB : ClassId) (x : Int32) : Rd l yJ6_bitCount_0f7a4 wsJ6_bitCount_0f7a4 ({ frames := 0, cells := 0, slots := 0, locals := 0 }) D cI cB [.int x] [] (.int (bc x)) := by
  refine pu_startI (cc := cJ6_bitCount_0f7a4) (maxL := 1) (by decide) rfl (Nat.le_of_ble_eq_true rfl) ?_
  intro p e s m args below meth c Q hx hb hml hown hts hP hG hret ls hl
  have hown : s.vm.findClass RJ6 = some m.cls := hown
  have hl : lv_has ls 1 [(0, .int x)] := hl
  refine lv_iload_n hx hb dJ6_bitCount_0f7a4_0 rfl (lv_at hl 0 rfl) ?_
  refine lv_iload_n hx hb dJ6_bitCount_0f7a4_1 rfl (lv_at hl 0 rfl) ?_
  refine lv_iconst (v := nI 1) hx hb dJ6_bitCount_0f7a4_2 (by decide) ?_
  refine lv_iushr (v := (x.toUInt32 >>> ((nI 1).toUInt32 &&& Int32.toUInt32 31)).toInt32) hx hb dJ6_bitCount_0f7a4_3 rfl ?_
  refine lv_ldcw (v := nI 1431655765) hx hb hown (hts (.constant RJ6 265 (1431655765)) (List.mem_of_getElem? (i := 1) rfl)) dJ6_bitCount_0f7a4_4 ?_
  refine lv_iand hx hb dJ6_bitCount_0f7a4_7 ?_
  refine lv_isub hx hb dJ6_bitCount_0f7a4_8 ?_
  refine lv_istore_n (lv' := [(0, .int (x - (((x.toUInt32 >>> ((nI 1).toUInt32 &&& Int32.toUInt32 31)).toInt32) &&& (nI 1431655765))))]) hx hb dJ6_bitCount_0f7a4_9 rfl hl (by decide) rfl (fun ls hl => ?_)
  refine lv_iload_n hx hb dJ6_bitCount_0f7a4_10 rfl (lv_at hl 0 rfl) ?_
  refine lv_ldcw (v := nI 858993459) hx hb hown (hts (.constant RJ6 266 (858993459)) (List.mem_of_getElem? (i := 2) rfl)) dJ6_bitCount_0f7a4_11 ?_
  refine lv_iand hx hb dJ6_bitCount_0f7a4_14 ?_
  refine lv_iload_n hx hb dJ6_bitCount_0f7a4_15 rfl (lv_at hl 0 rfl) ?_
  refine lv_iconst (v := nI 2) hx hb dJ6_bitCount_0f7a4_16 (by decide) ?_
  refine lv_iushr (v := ((x - (((x.toUInt32 >>> ((nI 1).toUInt32 &&& Int32.toUInt32 31)).toInt32) &&& (nI 1431655765))).toUInt32 >>> ((nI 2).toUInt32 &&& Int32.toUInt32 31)).toInt32) hx hb dJ6_bitCount_0f7a4_17 rfl ?_
  refine lv_ldcw (v := nI 858993459) hx hb hown (hts (.constant RJ6 266 (858993459)) (List.mem_of_getElem? (i := 2) rfl)) dJ6_bitCount_0f7a4_18 ?_
  refine lv_iand hx hb dJ6_bitCount_0f7a4_21 ?_
  refine lv_iadd hx hb dJ6_bitCount_0f7a4_22 ?_
  refine lv_istore_n (lv' := [(0, .int (((x - (((x.toUInt32 >>> ((nI 1).toUInt32 &&& Int32.toUInt32 31)).toInt32) &&& (nI 1431655765))) &&& (nI 858993459)) + ((((x - (((x.toUInt32 >>> ((nI 1).toUInt32 &&& Int32.toUInt32 31)).toInt32) &&& (nI 1431655765))).toUInt32 >>> ((nI 2).toUInt32 &&& Int32.toUInt32 31)).toInt32) &&& (nI 858993459))))]) hx hb dJ6_bitCount_0f7a4_23 rfl hl (by decide) rfl (fun ls hl => ?_)
  refine lv_iload_n hx hb dJ6_bitCount_0f7a4_24 rfl (lv_at hl 0 rfl) ?_
  refine lv_iload_n hx hb dJ6_bitCount_0f7a4_25 rfl (lv_at hl 0 rfl) ?_
  refine lv_iconst (v := nI 4) hx hb dJ6_bitCount_0f7a4_26 (by decide) ?_
  refine lv_iushr (v := ((((x - (((x.toUInt32 >>> ((nI 1).toUInt32 &&& Int32.toUInt32 31)).toInt32) &&& (nI 1431655765))) &&& (nI 858993459)) + ((((x - (((x.toUInt32 >>> ((nI 1).toUInt32 &&& Int32.toUInt32 31)).toInt32) &&& (nI 1431655765))).toUInt32 >>> ((nI 2).toUInt32 &&& Int32.toUInt32 31)).toInt32) &&& (nI 858993459))).toUInt32 >>> ((nI 4).toUInt32 &&& Int32.toUInt32 31)).toInt32) hx hb dJ6_bitCount_0f7a4_27 rfl ?_
  refine lv_iadd hx hb dJ6_bitCount_0f7a4_28 ?_
  refine lv_ldcw (v := nI 252645135) hx hb hown (hts (.constant RJ6 267 (252645135)) (List.mem_of_getElem? (i := 3) rfl)) dJ6_bitCount_0f7a4_29 ?_
  refine lv_iand hx hb dJ6_bitCount_0f7a4_32 ?_
  refine lv_istore_n (lv' := [(0, .int (((((x - (((x.toUInt32 >>> ((nI 1).toUInt32 &&& Int32.toUInt32 31)).toInt32) &&& (nI 1431655765))) &&& (nI 858993459)) + ((((x - (((x.toUInt32 >>> ((nI 1).toUInt32 &&& Int32.toUInt32 31)).toInt32) &&& (nI 1431655765))).toUInt32 >>> ((nI 2).toUInt32 &&& Int32.toUInt32 31)).toInt32) &&& (nI 858993459))) + (((((x - (((x.toUInt32 >>> ((nI 1).toUInt32 &&& Int32.toUInt32 31)).toInt32) &&& (nI 1431655765))) &&& (nI 858993459)) + ((((x - (((x.toUInt32 >>> ((nI 1).toUInt32 &&& Int32.toUInt32 31)).toInt32) &&& (nI 1431655765))).toUInt32 >>> ((nI 2).toUInt32 &&& Int32.toUInt32 31)).toInt32) &&& (nI 858993459))).toUInt32 >>> ((nI 4).toUInt32 &&& Int32.toUInt32 31)).toInt32)) &&& (nI 252645135)))]) hx hb dJ6_bitCount_0f7a4_33 rfl hl (by decide) rfl (fun ls hl => ?_)
  refine lv_iload_n hx hb dJ6_bitCount_0f7a4_34 rfl (lv_at hl 0 rfl) ?_
  refine lv_iload_n hx hb dJ6_bitCount_0f7a4_35 rfl (lv_at hl 0 rfl) ?_
  refine lv_bipush (v := nI 8) hx hb dJ6_bitCount_0f7a4_36 (by decide) ?_
  refine lv_iushr (v := ((((((x - (((x.toUInt32 >>> ((nI 1).toUInt32 &&& Int32.toUInt32 31)).toInt32) &&& (nI 1431655765))) &&& (nI 858993459)) + ((((x - (((x.toUInt32 >>> ((nI 1).toUInt32 &&& Int32.toUInt32 31)).toInt32) &&& (nI 1431655765))).toUInt32 >>> ((nI 2).toUInt32 &&& Int32.toUInt32 31)).toInt32) &&& (nI 858993459))) + (((((x - (((x.toUInt32 >>> ((nI 1).toUInt32 &&& Int32.toUInt32 31)).toInt32) &&& (nI 1431655765))) &&& (nI 858993459)) + ((((x - (((x.toUInt32 >>> ((nI 1).toUInt32 &&& Int32.toUInt32 31)).toInt32) &&& (nI 1431655765))).toUInt32 >>> ((nI 2).toUInt32 &&& Int32.toUInt32 31)).toInt32) &&& (nI 858993459))).toUInt32 >>> ((nI 4).toUInt32 &&& Int32.toUInt32 31)).toInt32)) &&& (nI 252645135)).toUInt32 >>> ((nI 8).toUInt32 &&& Int32.toUInt32 31)).toInt32) hx hb dJ6_bitCount_0f7a4_38 rfl ?_
  refine lv_iadd hx hb dJ6_bitCount_0f7a4_39 ?_
  refine lv_istore_n (lv' := [(0, .int ((((((x - (((x.toUInt32 >>> ((nI 1).toUInt32 &&& Int32.toUInt32 31)).toInt32) &&& (nI 1431655765))) &&& (nI 858993459)) + ((((x - (((x.toUInt32 >>> ((nI 1).toUInt32 &&& Int32.toUInt32 31)).toInt32) &&& (nI 1431655765))).toUInt32 >>> ((nI 2).toUInt32 &&& Int32.toUInt32 31)).toInt32) &&& (nI 858993459))) + (((((x - (((x.toUInt32 >>> ((nI 1).toUInt32 &&& Int32.toUInt32 31)).toInt32) &&& (nI 1431655765))) &&& (nI 858993459)) + ((((x - (((x.toUInt32 >>> ((nI 1).toUInt32 &&& Int32.toUInt32 31)).toInt32) &&& (nI 1431655765))).toUInt32 >>> ((nI 2).toUInt32 &&& Int32.toUInt32 31)).toInt32) &&& (nI 858993459))).toUInt32 >>> ((nI 4).toUInt32 &&& Int32.toUInt32 31)).toInt32)) &&& (nI 252645135)) + (((((((x - (((x.toUInt32 >>> ((nI 1).toUInt32 &&& Int32.toUInt32 31)).toInt32) &&& (nI 1431655765))) &&& (nI 858993459)) + ((((x - (((x.toUInt32 >>> ((nI 1).toUInt32 &&& Int32.toUInt32 31)).toInt32) &&& (nI 1431655765))).toUInt32 >>> ((nI 2).toUInt32 &&& Int32.toUInt32 31)).toInt32) &&& (nI 858993459))) + (((((x - (((x.toUInt32 >>> ((nI 1).toUInt32 &&& Int32.toUInt32 31)).toInt32) &&& (nI 1431655765))) &&& (nI 858993459)) + ((((x - (((x.toUInt32 >>> ((nI 1).toUInt32 &&& Int32.toUInt32 31)).toInt32) &&& (nI 1431655765))).toUInt32 >>> ((nI 2).toUInt32 &&& Int32.toUInt32 31)).toInt32) &&& (nI 858993459))).toUInt32 >>> ((nI 4).toUInt32 &&& Int32.toUInt32 31)).toInt32)) &&& (nI 252645135)).toUInt32 >>> ((nI 8).toUInt32 &&& Int32.toUInt32 31)).toInt32)))]) hx hb dJ6_bitCount_0f7a4_40 rfl hl (by decide) rfl (fun ls hl => ?_)
  refine lv_iload_n hx hb dJ6_bitCount_0f7a4_41 rfl (lv_at hl 0 rfl) ?_
  refine lv_iload_n hx hb dJ6_bitCount_0f7a4_42 rfl (lv_at hl 0 rfl) ?_
  refine lv_bipush (v := nI 16) hx hb dJ6_bitCount_0f7a4_43 (by decide) ?_
  refine lv_iushr (v := (((((((x - (((x.toUInt32 >>> ((nI 1).toUInt32 &&& Int32.toUInt32 31)).toInt32) &&& (nI 1431655765))) &&& (nI 858993459)) + ((((x - (((x.toUInt32 >>> ((nI 1).toUInt32 &&& Int32.toUInt32 31)).toInt32) &&& (nI 1431655765))).toUInt32 >>> ((nI 2).toUInt32 &&& Int32.toUInt32 31)).toInt32) &&& (nI 858993459))) + (((((x - (((x.toUInt32 >>> ((nI 1).toUInt32 &&& Int32.toUInt32 31)).toInt32) &&& (nI 1431655765))) &&& (nI 858993459)) + ((((x - (((x.toUInt32 >>> ((nI 1).toUInt32 &&& Int32.toUInt32 31)).toInt32) &&& (nI 1431655765))).toUInt32 >>> ((nI 2).toUInt32 &&& Int32.toUInt32 31)).toInt32) &&& (nI 858993459))).toUInt32 >>> ((nI 4).toUInt32 &&& Int32.toUInt32 31)).toInt32)) &&& (nI 252645135)) + (((((((x - (((x.toUInt32 >>> ((nI 1).toUInt32 &&& Int32.toUInt32 31)).toInt32) &&& (nI 1431655765))) &&& (nI 858993459)) + ((((x - (((x.toUInt32 >>> ((nI 1).toUInt32 &&& Int32.toUInt32 31)).toInt32) &&& (nI 1431655765))).toUInt32 >>> ((nI 2).toUInt32 &&& Int32.toUInt32 31)).toInt32) &&& (nI 858993459))) + (((((x - (((x.toUInt32 >>> ((nI 1).toUInt32 &&& Int32.toUInt32 31)).toInt32) &&& (nI 1431655765))) &&& (nI 858993459)) + ((((x - (((x.toUInt32 >>> ((nI 1).toUInt32 &&& Int32.toUInt32 31)).toInt32) &&& (nI 1431655765))).toUInt32 >>> ((nI 2).toUInt32 &&& Int32.toUInt32 31)).toInt32) &&& (nI 858993459))).toUInt32 >>> ((nI 4).toUInt32 &&& Int32.toUInt32 31)).toInt32)) &&& (nI 252645135)).toUInt32 >>> ((nI 8).toUInt32 &&& Int32.toUInt32 31)).toInt32)).toUInt32 >>> ((nI 16).toUInt32 &&& Int32.toUInt32 31)).toInt32) hx hb dJ6_bitCount_0f7a4_45 rfl ?_
  refine lv_iadd hx hb dJ6_bitCount_0f7a4_46 ?_
  refine lv_istore_n (lv' := [(0, .int (((((((x - (((x.toUInt32 >>> ((nI 1).toUInt32 &&& Int32.toUInt32 31)).toInt32) &&& (nI 1431655765))) &&& (nI 858993459)) + ((((x - (((x.toUInt32 >>> ((nI 1).toUInt32 &&& Int32.toUInt32 31)).toInt32) &&& (nI 1431655765))).toUInt32 >>> ((nI 2).toUInt32 &&& Int32.toUInt32 31)).toInt32) &&& (nI 858993459))) + (((((x - (((x.toUInt32 >>> ((nI 1).toUInt32 &&& Int32.toUInt32 31)).toInt32) &&& (nI 1431655765))) &&& (nI 858993459)) + ((((x - (((x.toUInt32 >>> ((nI 1).toUInt32 &&& Int32.toUInt32 31)).toInt32) &&& (nI 1431655765))).toUInt32 >>> ((nI 2).toUInt32 &&& Int32.toUInt32 31)).toInt32) &&& (nI 858993459))).toUInt32 >>> ((nI 4).toUInt32 &&& Int32.toUInt32 31)).toInt32)) &&& (nI 252645135)) + (((((((x - (((x.toUInt32 >>> ((nI 1).toUInt32 &&& Int32.toUInt32 31)).toInt32) &&& (nI 1431655765))) &&& (nI 858993459)) + ((((x - (((x.toUInt32 >>> ((nI 1).toUInt32 &&& Int32.toUInt32 31)).toInt32) &&& (nI 1431655765))).toUInt32 >>> ((nI 2).toUInt32 &&& Int32.toUInt32 31)).toInt32) &&& (nI 858993459))) + (((((x - (((x.toUInt32 >>> ((nI 1).toUInt32 &&& Int32.toUInt32 31)).toInt32) &&& (nI 1431655765))) &&& (nI 858993459)) + ((((x - (((x.toUInt32 >>> ((nI 1).toUInt32 &&& Int32.toUInt32 31)).toInt32) &&& (nI 1431655765))).toUInt32 >>> ((nI 2).toUInt32 &&& Int32.toUInt32 31)).toInt32) &&& (nI 858993459))).toUInt32 >>> ((nI 4).toUInt32 &&& Int32.toUInt32 31)).toInt32)) &&& (nI 252645135)).toUInt32 >>> ((nI 8).toUInt32 &&& Int32.toUInt32 31)).toInt32)) + ((((((((x - (((x.toUInt32 >>> ((nI 1).toUInt32 &&& Int32.toUInt32 31)).toInt32) &&& (nI 1431655765))) &&& (nI 858993459)) + ((((x - (((x.toUInt32 >>> ((nI 1).toUInt32 &&& Int32.toUInt32 31)).toInt32) &&& (nI 1431655765))).toUInt32 >>> ((nI 2).toUInt32 &&& Int32.toUInt32 31)).toInt32) &&& (nI 858993459))) + (((((x - (((x.toUInt32 >>> ((nI 1).toUInt32 &&& Int32.toUInt32 31)).toInt32) &&& (nI 1431655765))) &&& (nI 858993459)) + ((((x - (((x.toUInt32 >>> ((nI 1).toUInt32 &&& Int32.toUInt32 31)).toInt32) &&& (nI 1431655765))).toUInt32 >>> ((nI 2).toUInt32 &&& Int32.toUInt32 31)).toInt32) &&& (nI 858993459))).toUInt32 >>> ((nI 4).toUInt32 &&& Int32.toUInt32 31)).toInt32)) &&& (nI 252645135)) + (((((((x - (((x.toUInt32 >>> ((nI 1).toUInt32 &&& Int32.toUInt32 31)).toInt32) &&& (nI 1431655765))) &&& (nI 858993459)) + ((((x - (((x.toUInt32 >>> ((nI 1).toUInt32 &&& Int32.toUInt32 31)).toInt32) &&& (nI 1431655765))).toUInt32 >>> ((nI 2).toUInt32 &&& Int32.toUInt32 31)).toInt32) &&& (nI 858993459))) + (((((x - (((x.toUInt32 >>> ((nI 1).toUInt32 &&& Int32.toUInt32 31)).toInt32) &&& (nI 1431655765))) &&& (nI 858993459)) + ((((x - (((x.toUInt32 >>> ((nI 1).toUInt32 &&& Int32.toUInt32 31)).toInt32) &&& (nI 1431655765))).toUInt32 >>> ((nI 2).toUInt32 &&& Int32.toUInt32 31)).toInt32) &&& (nI 858993459))).toUInt32 >>> ((nI 4).toUInt32 &&& Int32.toUInt32 31)).toInt32)) &&& (nI 252645135)).toUInt32 >>> ((nI 8).toUInt32 &&& Int32.toUInt32 31)).toInt32)).toUInt32 >>> ((nI 16).toUInt32 &&& Int32.toUInt32 31)).toInt32)))]) hx hb dJ6_bitCount_0f7a4_47 rfl hl (by decide) rfl (fun ls hl => ?_)
  refine lv_iload_n hx hb dJ6_bitCount_0f7a4_48 rfl (lv_at hl 0 rfl) ?_
  refine lv_bipush (v := nI 63) hx hb dJ6_bitCount_0f7a4_49 (by decide) ?_
  refine lv_iand hx hb dJ6_bitCount_0f7a4_51 ?_
  exact hret _ _ _ rfl dJ6_bitCount_0f7a4_52
set_option maxHeartbeats 4000000 in
set_option maxRecDepth 100000 in
theorem k_X5_isAtomSet (l : Launch) (D : va_G) (cI cB : ClassId) (x : Int32) (lim : Int32) : Rd l yX5_isAtomSet wsX5_isAtomSet ({ frames := 1, cells := 0, slots := 0, locals := 20 }) D cI cB [.int x, .int lim] [] (.int (bI (isS x lim))) := by
  refine pu_startZ (cc := cX5_isAtomSet) (maxL := 2) (by decide) rfl (Nat.le_of_ble_eq_true rfl) ?_
  intro p e s m args below meth c Q hx hb hml hown hts hP hG hret ls hl
  have hown : s.vm.findClass RX5 = some m.cls := hown
  have hl : lv_has ls 2 [(0, .int x), (1, .int lim)] := hl
  refine lv_iload_n hx hb dX5_isAtomSet_0 rfl (lv_at hl 0 rfl) ?_
  refine lv_if_lt (tgt := 22) hx hb dX5_isAtomSet_1 (by decide) (fun c_1 => ?_) (fun c_1 => ?_)
  · skip
    refine lv_iconst (v := nI 0) hx hb dX5_isAtomSet_22 (by decide) ?_
    exact hret _ _ _ (bI_0 (decide_eq_false (by simp only [decide_true, decide_false, reduceIte, Bool.false_eq_true, not_true_eq_false, not_false_eq_true, and_self, and_true, true_and, and_false, false_and, c_1]))) dX5_isAtomSet_23
  · skip
    refine lv_iload_n hx hb dX5_isAtomSet_4 rfl (lv_at hl 0 rfl) ?_
    refine lv_ldc (v := nI 65535) hx hb hown (hts (.constant RX5 204 (65535)) (List.mem_of_getElem? (i := 1) rfl)) dX5_isAtomSet_5 ?_
    refine lv_icmp_gt (tgt := 22) hx hb dX5_isAtomSet_7 (by decide) (fun c_2 => ?_) (fun c_2 => ?_)
    · skip
      refine lv_iconst (v := nI 0) hx hb dX5_isAtomSet_22 (by decide) ?_
      exact hret _ _ _ (bI_0 (decide_eq_false (by simp only [decide_true, decide_false, reduceIte, Bool.false_eq_true, not_true_eq_false, not_false_eq_true, and_self, and_true, true_and, and_false, false_and, c_1, c_2]))) dX5_isAtomSet_23
    · skip
      refine lv_iload_n hx hb dX5_isAtomSet_10 rfl (lv_at hl 0 rfl) ?_
      refine pu_S (As := [.int x]) (rest := []) ⟨hx, hb, hml, hown, hts⟩ hG hP (k_J6_bitCount_0f7a4 l D cI cB x ) (va_cwS 1 hts gX5_isAtomSet_J6_bitCount_0f7a4 rfl rfl rfl (by decide +kernel) ⟨(Nat.le_of_ble_eq_true rfl), (Nat.le_of_ble_eq_true rfl)⟩) [] rfl rfl hl.1 rfl (Nat.le_of_ble_eq_true rfl) dX5_isAtomSet_11 ⟨Nat.zero_le _, Nat.zero_le _⟩ ?_
      refine lv_iload_n hx hb dX5_isAtomSet_14 rfl (lv_at hl 1 rfl) ?_
      refine lv_icmp_gt (tgt := 22) hx hb dX5_isAtomSet_15 (by decide) (fun c_3 => ?_) (fun c_3 => ?_)
      · skip
        refine lv_iconst (v := nI 0) hx hb dX5_isAtomSet_22 (by decide) ?_
        exact hret _ _ _ (bI_0 (decide_eq_false (by simp only [decide_true, decide_false, reduceIte, Bool.false_eq_true, not_true_eq_false, not_false_eq_true, and_self, and_true, true_and, and_false, false_and, c_1, c_2, c_3]))) dX5_isAtomSet_23
      · skip
        refine lv_iconst (v := nI 1) hx hb dX5_isAtomSet_18 (by decide) ?_
        refine lv_goto (tgt := 23) hx hb dX5_isAtomSet_19 (by decide) ?_
        exact hret _ _ _ (bI_1 (decide_eq_true (by simp only [decide_true, decide_false, reduceIte, Bool.false_eq_true, not_true_eq_false, not_false_eq_true, and_self, and_true, true_and, and_false, false_and, c_1, c_2, c_3]))) dX5_isAtomSet_23
set_option maxHeartbeats 4000000 in
set_option maxRecDepth 100000 in
theorem k_X5_bitsOfSixteenths (l : Launch) (D : va_G) (cI cB : ClassId) (x : Int32) : Rd l yX5_bitsOfSixteenths wsX5_bitsOfSixteenths ({ frames := 1, cells := 0, slots := 0, locals := 21 }) D cI cB [.int x] [] (.int (bosF x 5)) := by
  refine pu_startI (cc := cX5_bitsOfSixteenths) (maxL := 4) (by decide) rfl (Nat.le_of_ble_eq_true rfl) ?_
  intro p e s m args below meth c Q hx hb hml hown hts hP hG hret ls hl
  have hown : s.vm.findClass RX5 = some m.cls := hown
  have hl : lv_has ls 4 [(0, .int x)] := hl
  refine lv_iconst (v := nI 4) hx hb dX5_bitsOfSixteenths_0 (by decide) ?_
  refine lv_istore_n (lv' := [(1, .int (nI 4)), (0, .int x)]) hx hb dX5_bitsOfSixteenths_1 rfl hl (by decide) rfl (fun ls hl => ?_)
  have lp_2_1 : ∀ (fu_2 : Nat) (j : Nat) (hj : j ≤ 5) (ej : bosF x j = bosF x 5) (hfu_2 : j < fu_2) (ls : Array Slot) (hl : lv_has ls 4 [(0, .int x), (1, .int (nI j - nI 1))]), W p l e ({ frames := 1, cells := 0, slots := 0, locals := 21 }) s m args below meth c s.heap [] 0 0 Q (F0 m 2 ls []) := by
    intro fu_2
    induction fu_2 with
    | zero => intro j hj ej hfu; exact absurd hfu (Nat.not_lt_zero _)
    | succ fu_2 ih_2 =>
      intro j hj ej hfu_2 ls hl
      refine lv_iload_n hx hb dX5_bitsOfSixteenths_2 rfl (lv_at hl 1 rfl) ?_
      refine lv_if_lt (tgt := 44) hx hb dX5_bitsOfSixteenths_3 (by decide) (fun c_2 => ?_) (fun c_2 => ?_)
      · skip
        have hj0 := nI_dn c_2 (by omega)
        refine lv_iconst (v := nI 0) hx hb dX5_bitsOfSixteenths_44 (by decide) ?_
        exact hret _ _ _ (by rw [← ej, hj0]; rfl) dX5_bitsOfSixteenths_45
      · skip
        obtain ⟨i, rfl⟩ := nI_up c_2
        have hl : lv_has ls 4 [(0, .int x), (1, .int (nI i))] := by rw [← nI_pred i]; exact hl
        refine lv_iload_n hx hb dX5_bitsOfSixteenths_6 rfl (lv_at hl 0 rfl) ?_
        refine lv_iload_n hx hb dX5_bitsOfSixteenths_7 rfl (lv_at hl 1 rfl) ?_
        refine pu_S (As := [.int x, .int (nI i)]) (rest := []) ⟨hx, hb, hml, hown, hts⟩ hG hP (k_X5_contains l D cI cB x (nI i) ) (cwS 2 hts gX5_bitsOfSixteenths_X5_contains rfl rfl rfl (by decide +kernel) ⟨(Nat.le_of_ble_eq_true rfl), (Nat.le_of_ble_eq_true rfl)⟩) [] rfl rfl hl.1 rfl (Nat.le_of_ble_eq_true rfl) dX5_bitsOfSixteenths_8 ⟨Nat.zero_le _, Nat.zero_le _⟩ ?_
        refine lv_if_eq (tgt := 38) hx hb dX5_bitsOfSixteenths_11 (by decide) (fun c_3 => ?_) (fun c_3 => ?_)
        · skip
          have c_3 : (has x (nI i)) = false := bI_f.mp c_3
          refine lv_iinc (v := nI i - nI 1) (lv' := [(1, .int (nI i - nI 1)), (0, .int x)]) hx hb dX5_bitsOfSixteenths_38 hl (k := 1) rfl (nI_m1 i) (by decide) rfl (fun ls hl => ?_)
          refine lv_goto (tgt := 2) hx hb dX5_bitsOfSixteenths_41 (by decide) ?_
          exact ih_2 i (by omega) (by rw [← ej, bosF, if_neg (by rw [c_3]; decide)]) (by omega) ls (lv_sub hl [1, 0] rfl)
        · skip
          have c_3 : (has x (nI i)) = true := bI_t.mp c_3
          refine lv_bipush (v := nI 127) hx hb dX5_bitsOfSixteenths_14 (by decide) ?_
          refine lv_iload_n hx hb dX5_bitsOfSixteenths_16 rfl (lv_at hl 1 rfl) ?_
          refine lv_iadd hx hb dX5_bitsOfSixteenths_17 ?_
          refine lv_eqi rfl ?_
          refine lv_iconst (v := nI 4) hx hb dX5_bitsOfSixteenths_18 (by decide) ?_
          refine lv_isub hx hb dX5_bitsOfSixteenths_19 ?_
          refine lv_istore_n (lv' := [(2, .int ((nI 127 + nI i) - (nI 4))), (0, .int x), (1, .int (nI i))]) hx hb dX5_bitsOfSixteenths_20 rfl hl (by decide) rfl (fun ls hl => ?_)
          refine lv_iload_n hx hb dX5_bitsOfSixteenths_21 rfl (lv_at hl 1 rfl) ?_
          refine lv_bipush (v := nI 23) hx hb dX5_bitsOfSixteenths_22 (by decide) ?_
          refine lv_iload_n hx hb dX5_bitsOfSixteenths_24 rfl (lv_at hl 2 rfl) ?_
          refine lv_isub hx hb dX5_bitsOfSixteenths_25 ?_
          refine lv_ishl hx hb dX5_bitsOfSixteenths_26 ?_
          refine lv_ldc (v := nI 8388607) hx hb hown (hts (.constant RX5 205 (8388607)) (List.mem_of_getElem? (i := 1) rfl)) dX5_bitsOfSixteenths_27 ?_
          refine lv_iand hx hb dX5_bitsOfSixteenths_29 ?_
          refine lv_istore_n (lv' := [(3, .int ((x <<< (((nI 23) - (nI i)) &&& 31)) &&& (nI 8388607))), (2, .int ((nI 127 + nI i) - (nI 4))), (0, .int x), (1, .int (nI i))]) hx hb dX5_bitsOfSixteenths_30 rfl hl (by decide) rfl (fun ls hl => ?_)
          refine lv_iload_n hx hb dX5_bitsOfSixteenths_31 rfl (lv_at hl 1 rfl) ?_
          refine lv_bipush (v := nI 23) hx hb dX5_bitsOfSixteenths_32 (by decide) ?_
          refine lv_ishl hx hb dX5_bitsOfSixteenths_34 ?_
          refine lv_iload_n hx hb dX5_bitsOfSixteenths_35 rfl (lv_at hl 0 rfl) ?_
          refine lv_ior hx hb dX5_bitsOfSixteenths_36 ?_
          exact hret _ _ _ (by rw [← ej, bosF, if_pos c_3]) dX5_bitsOfSixteenths_37
  exact lp_2_1 (5 + 1) 5 (by omega) rfl (Nat.lt_succ_self _) ls (lv_sub hl [1, 0] rfl)
set_option maxHeartbeats 4000000 in
set_option maxRecDepth 100000 in
theorem k_X5_mix (l : Launch) (D : va_G) (cI cB : ClassId) (h : Int64) (v : Int32) : Rd l yX5_mix wsX5_mix ({ frames := 0, cells := 0, slots := 0, locals := 0 }) D cI cB [.long h, .int v] [] (.long (31 * h + v.toInt64)) := by
  refine pu_startJ (cc := cX5_mix) (maxL := 3) (by decide) rfl (Nat.le_of_ble_eq_true rfl) ?_
  intro p e s m args below meth c Q hx hb hml hown hts hP hG hret ls hl
  have hown : s.vm.findClass RX5 = some m.cls := hown
  have hl : lv_has ls 3 [(0, .long h), (2, .int v)] := hl
  refine lv_ldc2 (v := 31) hx hb hown (hts (.constantLong RX5 202 (31)) (List.mem_of_getElem? (i := 1) rfl)) dX5_mix_0 ?_
  refine lv_lload_n hx hb dX5_mix_3 rfl (lv_at hl 0 rfl) ?_
  refine lv_lmul hx hb dX5_mix_4 ?_
  refine lv_iload_n hx hb dX5_mix_5 rfl (lv_at hl 1 rfl) ?_
  refine lv_i2l (v := v.toInt64) hx hb dX5_mix_6 rfl ?_
  refine lv_ladd hx hb dX5_mix_7 ?_
  exact hret _ _ _ rfl dX5_mix_8
set_option maxHeartbeats 4000000 in
set_option maxRecDepth 100000 in
theorem k_X4_bestExplanation (l : Launch) (D : va_G) (cI cB : ClassId) (b : Nat) (qh : Nat) (qb : Nat) (hs : Nat → Int32) (bs : Nat → Int32) (n : Nat) (as_ : Int32) (a : Nat) (ct : Nat) (hn : n ≤ 24) (ha : a < 16) (hct : nI 1 <<< (bc as_ &&& 31) = nI ct) (hc2 : ct ≤ 256) : Rd l yX4_bestExplanation wsX4_bestExplanation ({ frames := 3, cells := 0, slots := 0, locals := 70 }) D cI cB [.ref b, .int (nI a)] [(b, .inr (4, [.ref qh, .ref qb, .int (nI n), .int as_])), (qh, .inl (cI, 24, .inl hs)), (qb, .inl (cI, 24, .inl bs))] (.int ((exB hs bs n as_ a ct).1)) := by
  refine pu_startI (cc := cX4_bestExplanation) (maxL := 8) (by decide) rfl (Nat.le_of_ble_eq_true rfl) ?_
  intro p e s m args below meth c Q hx hb hml hown hts hP hG hret ls hl
  have hown : s.vm.findClass RX4 = some m.cls := hown
  have hl : lv_has ls 8 [(0, .ref b), (1, .int (nI a))] := hl
  refine lv_iconst (v := (-1)) hx hb dX4_bestExplanation_0 (by decide) ?_
  refine lv_istore_n (lv' := [(2, .int (-1)), (0, .ref b), (1, .int (nI a))]) hx hb dX4_bestExplanation_1 rfl hl (by decide) rfl (fun ls hl => ?_)
  refine lv_bipush (v := nI 9) hx hb dX4_bestExplanation_2 (by decide) ?_
  refine lv_istore_n (lv' := [(3, .int (nI 9)), (2, .int (-1)), (0, .ref b), (1, .int (nI a))]) hx hb dX4_bestExplanation_4 rfl hl (by decide) rfl (fun ls hl => ?_)
  refine lv_iconst (v := nI 0) hx hb dX4_bestExplanation_5 (by decide) ?_
  refine lv_istore (lv' := [(4, .int (nI 0)), (3, .int (nI 9)), (2, .int (-1)), (0, .ref b), (1, .int (nI a))]) hx hb dX4_bestExplanation_6 hl (by decide) rfl (fun ls hl => ?_)
  refine lv_iconst (v := nI 1) hx hb dX4_bestExplanation_8 (by decide) ?_
  refine lv_aload_n hx hb dX4_bestExplanation_9 rfl (lv_at hl 3 rfl) ?_
  refine va_get (D := D) (ci := 4) (v := .int as_) (C := RX4) (T := TX4) (N := 4) hx hb hts ilX4_bestExplanation_4 hown hG.1 hP 0 rfl rfl 3 (by decide) (hts (.fieldLink RX4 26 "HornEngine$Rulebook" "assumable" "I") (List.mem_of_getElem? (i := 1) rfl)) (fun _ h9 => h9) rfl dX4_bestExplanation_10 ?_
  refine pu_S (As := [.int as_]) (rest := [.int (nI 1)]) ⟨hx, hb, hml, hown, hts⟩ hG hP (k_J6_bitCount_0f7a4 l D cI cB as_ ) (va_cwS 1 hts gX4_bestExplanation_J6_bitCount_0f7a4 rfl rfl rfl (by decide +kernel) ⟨(Nat.le_of_ble_eq_true rfl), (Nat.le_of_ble_eq_true rfl)⟩) [] rfl rfl hl.1 rfl (Nat.le_of_ble_eq_true rfl) dX4_bestExplanation_13 ⟨Nat.zero_le _, Nat.zero_le _⟩ ?_
  refine lv_ishl hx hb dX4_bestExplanation_16 ?_
  refine lv_eqi hct ?_
  refine lv_istore (lv' := [(5, .int (nI ct)), (4, .int (nI 0)), (3, .int (nI 9)), (2, .int (-1)), (0, .ref b), (1, .int (nI a))]) hx hb dX4_bestExplanation_17 hl (by decide) rfl (fun ls hl => ?_)
  refine lv_iconst (v := nI 0) hx hb dX4_bestExplanation_19 (by decide) ?_
  refine lv_istore (lv' := [(6, .int (nI 0)), (5, .int (nI ct)), (4, .int (nI 0)), (3, .int (nI 9)), (2, .int (-1)), (0, .ref b), (1, .int (nI a))]) hx hb dX4_bestExplanation_20 hl (by decide) rfl (fun ls hl => ?_)
  have lp_22_1 : ∀ (fu_22 : Nat) (k : Nat) (x2 : Int32) (x3 : Int32) (x4 : Int32) (hk : k ≤ ct) (et : exB hs bs n as_ a k = (x2, x3, x4)) (hfu_22 : ct - k < fu_22) (ls : Array Slot) (hl : lv_has ls 8 [(0, .ref b), (1, .int (nI a)), (2, .int x2), (3, .int x3), (4, .int x4), (5, .int (nI ct)), (6, .int (nI k))]), W p l e ({ frames := 3, cells := 0, slots := 0, locals := 70 }) s m args below meth c s.heap [] 0 0 Q (F0 m 22 ls []) := by
    intro fu_22
    induction fu_22 with
    | zero => intro k x2 x3 x4 hk et hfu; exact absurd hfu (Nat.not_lt_zero _)
    | succ fu_22 ih_22 =>
      intro k x2 x3 x4 hk et hfu_22 ls hl
      refine lv_iload hx hb dX4_bestExplanation_22 (lv_at hl 6 rfl) ?_
      refine lv_iload hx hb dX4_bestExplanation_24 (lv_at hl 5 rfl) ?_
      refine lv_icmp_ge (tgt := 85) hx hb dX4_bestExplanation_26 (by decide) (fun c_2 => ?_) (fun c_2 => ?_)
      · skip
        have c_2 : ct ≤ k := (nI_leI (by omega) (by omega)).mp (show nI ct ≤ nI k from c_2)
        refine lv_iload_n hx hb dX4_bestExplanation_85 rfl (lv_at hl 2 rfl) ?_
        exact hret _ _ _ (by rw [show ct = k from by omega, et]) dX4_bestExplanation_86
      · skip
        have c_2 : ¬ (ct ≤ k) := fun h9 => (show ¬ (nI ct ≤ nI k) from c_2) ((nI_leI (by omega) (by omega)).mpr h9)
        refine lv_iload hx hb dX4_bestExplanation_29 (lv_at hl 4 rfl) ?_
        refine pu_S (As := [.int x4]) (rest := []) ⟨hx, hb, hml, hown, hts⟩ hG hP (k_J6_bitCount_0f7a4 l D cI cB x4 ) (va_cwS 1 hts gX4_bestExplanation_J6_bitCount_0f7a4 rfl rfl rfl (by decide +kernel) ⟨(Nat.le_of_ble_eq_true rfl), (Nat.le_of_ble_eq_true rfl)⟩) [] rfl rfl hl.1 rfl (Nat.le_of_ble_eq_true rfl) dX4_bestExplanation_31 ⟨Nat.zero_le _, Nat.zero_le _⟩ ?_
        refine lv_istore (lv' := [(7, .int (bc x4)), (0, .ref b), (1, .int (nI a)), (2, .int x2), (3, .int x3), (4, .int x4), (5, .int (nI ct)), (6, .int (nI k))]) hx hb dX4_bestExplanation_34 hl (by decide) rfl (fun ls hl => ?_)
        refine lv_iload hx hb dX4_bestExplanation_36 (lv_at hl 0 rfl) ?_
        refine lv_iload_n hx hb dX4_bestExplanation_38 rfl (lv_at hl 4 rfl) ?_
        refine lv_icmp_ge (tgt := 65) hx hb dX4_bestExplanation_39 (by decide) (fun c_3 => ?_) (fun c_3 => ?_)
        · skip
          refine lv_iload hx hb dX4_bestExplanation_65 (lv_at hl 5 rfl) ?_
          refine lv_aload_n hx hb dX4_bestExplanation_67 rfl (lv_at hl 1 rfl) ?_
          refine va_get (D := D) (ci := 4) (v := .int as_) (C := RX4) (T := TX4) (N := 4) hx hb hts ilX4_bestExplanation_4 hown hG.1 hP 0 rfl rfl 3 (by decide) (hts (.fieldLink RX4 26 "HornEngine$Rulebook" "assumable" "I") (List.mem_of_getElem? (i := 1) rfl)) (fun _ h9 => h9) rfl dX4_bestExplanation_68 ?_
          refine lv_isub hx hb dX4_bestExplanation_71 ?_
          refine lv_aload_n hx hb dX4_bestExplanation_72 rfl (lv_at hl 1 rfl) ?_
          refine va_get (D := D) (ci := 4) (v := .int as_) (C := RX4) (T := TX4) (N := 4) hx hb hts ilX4_bestExplanation_4 hown hG.1 hP 0 rfl rfl 3 (by decide) (hts (.fieldLink RX4 26 "HornEngine$Rulebook" "assumable" "I") (List.mem_of_getElem? (i := 1) rfl)) (fun _ h9 => h9) rfl dX4_bestExplanation_73 ?_
          refine lv_iand hx hb dX4_bestExplanation_76 ?_
          refine lv_istore (lv' := [(4, .int ((x4 - as_) &&& as_)), (7, .int (bc x4)), (0, .ref b), (1, .int (nI a)), (2, .int x2), (3, .int x3), (5, .int (nI ct)), (6, .int (nI k))]) hx hb dX4_bestExplanation_77 hl (by decide) rfl (fun ls hl => ?_)
          refine lv_iinc (v := nI (k + 1)) (lv' := [(6, .int (nI (k + 1))), (4, .int ((x4 - as_) &&& as_)), (7, .int (bc x4)), (0, .ref b), (1, .int (nI a)), (2, .int x2), (3, .int x3), (5, .int (nI ct))]) hx hb dX4_bestExplanation_79 hl (k := 7) rfl (nI_s1 k) (by decide) rfl (fun ls hl => ?_)
          refine lv_goto (tgt := 22) hx hb dX4_bestExplanation_82 (by decide) ?_
          exact ih_22 (k + 1) x2 x3 ((x4 - as_) &&& as_) (by omega) (by simp only [exB, et, decide_true, decide_false, reduceIte, Bool.false_eq_true, not_true_eq_false, not_false_eq_true, and_self, and_true, true_and, and_false, false_and, c_2, c_3]) (by omega) ls (lv_sub hl [3, 4, 5, 6, 1, 7, 0] rfl)
        · skip
          refine lv_aload_n hx hb dX4_bestExplanation_42 rfl (lv_at hl 1 rfl) ?_
          refine lv_aload_n hx hb dX4_bestExplanation_43 rfl (lv_at hl 1 rfl) ?_
          refine pu_V (As := []) (rest := [.ref b]) ⟨hx, hb, hml, hown, hts⟩ hG hP (k_X4_everyRule l D cI cB b qh qb hs bs n as_ (by omega)) (cwV 0 hts gX4_bestExplanation_X4_everyRule rfl rfl rfl (by decide +kernel) ⟨(Nat.le_of_ble_eq_true rfl), (Nat.le_of_ble_eq_true rfl)⟩) [0, 1, 2] rfl 0 rfl rfl rfl rfl hl.1 rfl (Nat.le_of_ble_eq_true rfl) dX4_bestExplanation_44 ⟨Nat.zero_le _, Nat.zero_le _⟩ ?_
          refine lv_iload hx hb dX4_bestExplanation_47 (lv_at hl 5 rfl) ?_
          refine pu_V (As := [.int (evr n), .int x4]) (rest := []) ⟨hx, hb, hml, hown, hts⟩ hG hP (k_X4_closure l D cI cB b qh qb hs bs n as_ (evr n) x4 (by omega)) (cwV 2 hts gX4_bestExplanation_X4_closure rfl rfl rfl (by decide +kernel) ⟨(Nat.le_of_ble_eq_true rfl), (Nat.le_of_ble_eq_true rfl)⟩) [0, 1, 2] rfl 0 rfl rfl rfl rfl hl.1 rfl (Nat.le_of_ble_eq_true rfl) dX4_bestExplanation_49 ⟨Nat.zero_le _, Nat.zero_le _⟩ ?_
          refine lv_iload_n hx hb dX4_bestExplanation_52 rfl (lv_at hl 2 rfl) ?_
          refine pu_SN (As := [.int (clo hs bs n (evr n) x4), .int (nI a)]) (rest := []) ⟨hx, hb, hml, hown, hts⟩ hG hP (k_X5_contains l D cI cB (clo hs bs n (evr n) x4) (nI a) ) (va_cnB 2 hts gX4_bestExplanation_X5_contains_n44 rfl rfl rfl (hG.2 _ (List.mem_of_getElem? (i := 5) rfl)) (hts (.initialized RX5) (List.mem_of_getElem? (i := 26) rfl)) (by decide +kernel) ⟨(Nat.le_of_ble_eq_true rfl), (Nat.le_of_ble_eq_true rfl)⟩) (hts (.static yX5_contains) (List.mem_of_getElem? (i := 25) rfl)) [] rfl rfl hl.1 rfl (Nat.le_of_ble_eq_true rfl) dX4_bestExplanation_53 ⟨Nat.zero_le _, Nat.zero_le _⟩ ?_
          refine lv_if_eq (tgt := 65) hx hb dX4_bestExplanation_56 (by decide) (fun c_4 => ?_) (fun c_4 => ?_)
          · skip
            have c_4 : (has (clo hs bs n (evr n) x4) (nI a)) = false := bI_f.mp c_4
            refine lv_iload hx hb dX4_bestExplanation_65 (lv_at hl 5 rfl) ?_
            refine lv_aload_n hx hb dX4_bestExplanation_67 rfl (lv_at hl 1 rfl) ?_
            refine va_get (D := D) (ci := 4) (v := .int as_) (C := RX4) (T := TX4) (N := 4) hx hb hts ilX4_bestExplanation_4 hown hG.1 hP 0 rfl rfl 3 (by decide) (hts (.fieldLink RX4 26 "HornEngine$Rulebook" "assumable" "I") (List.mem_of_getElem? (i := 1) rfl)) (fun _ h9 => h9) rfl dX4_bestExplanation_68 ?_
            refine lv_isub hx hb dX4_bestExplanation_71 ?_
            refine lv_aload_n hx hb dX4_bestExplanation_72 rfl (lv_at hl 1 rfl) ?_
            refine va_get (D := D) (ci := 4) (v := .int as_) (C := RX4) (T := TX4) (N := 4) hx hb hts ilX4_bestExplanation_4 hown hG.1 hP 0 rfl rfl 3 (by decide) (hts (.fieldLink RX4 26 "HornEngine$Rulebook" "assumable" "I") (List.mem_of_getElem? (i := 1) rfl)) (fun _ h9 => h9) rfl dX4_bestExplanation_73 ?_
            refine lv_iand hx hb dX4_bestExplanation_76 ?_
            refine lv_istore (lv' := [(4, .int ((x4 - as_) &&& as_)), (7, .int (bc x4)), (0, .ref b), (1, .int (nI a)), (2, .int x2), (3, .int x3), (5, .int (nI ct)), (6, .int (nI k))]) hx hb dX4_bestExplanation_77 hl (by decide) rfl (fun ls hl => ?_)
            refine lv_iinc (v := nI (k + 1)) (lv' := [(6, .int (nI (k + 1))), (4, .int ((x4 - as_) &&& as_)), (7, .int (bc x4)), (0, .ref b), (1, .int (nI a)), (2, .int x2), (3, .int x3), (5, .int (nI ct))]) hx hb dX4_bestExplanation_79 hl (k := 7) rfl (nI_s1 k) (by decide) rfl (fun ls hl => ?_)
            refine lv_goto (tgt := 22) hx hb dX4_bestExplanation_82 (by decide) ?_
            exact ih_22 (k + 1) x2 x3 ((x4 - as_) &&& as_) (by omega) (by simp only [exB, et, decide_true, decide_false, reduceIte, Bool.false_eq_true, not_true_eq_false, not_false_eq_true, and_self, and_true, true_and, and_false, false_and, c_2, c_3, c_4]) (by omega) ls (lv_sub hl [3, 4, 5, 6, 1, 7, 0] rfl)
          · skip
            have c_4 : (has (clo hs bs n (evr n) x4) (nI a)) = true := bI_t.mp c_4
            refine lv_iload hx hb dX4_bestExplanation_59 (lv_at hl 5 rfl) ?_
            refine lv_istore_n (lv' := [(2, .int x4), (7, .int (bc x4)), (0, .ref b), (1, .int (nI a)), (3, .int x3), (4, .int x4), (5, .int (nI ct)), (6, .int (nI k))]) hx hb dX4_bestExplanation_61 rfl hl (by decide) rfl (fun ls hl => ?_)
            refine lv_iload hx hb dX4_bestExplanation_62 (lv_at hl 1 rfl) ?_
            refine lv_istore_n (lv' := [(3, .int (bc x4)), (2, .int x4), (7, .int (bc x4)), (0, .ref b), (1, .int (nI a)), (4, .int x4), (5, .int (nI ct)), (6, .int (nI k))]) hx hb dX4_bestExplanation_64 rfl hl (by decide) rfl (fun ls hl => ?_)
            refine lv_iload hx hb dX4_bestExplanation_65 (lv_at hl 5 rfl) ?_
            refine lv_aload_n hx hb dX4_bestExplanation_67 rfl (lv_at hl 3 rfl) ?_
            refine va_get (D := D) (ci := 4) (v := .int as_) (C := RX4) (T := TX4) (N := 4) hx hb hts ilX4_bestExplanation_4 hown hG.1 hP 0 rfl rfl 3 (by decide) (hts (.fieldLink RX4 26 "HornEngine$Rulebook" "assumable" "I") (List.mem_of_getElem? (i := 1) rfl)) (fun _ h9 => h9) rfl dX4_bestExplanation_68 ?_
            refine lv_isub hx hb dX4_bestExplanation_71 ?_
            refine lv_aload_n hx hb dX4_bestExplanation_72 rfl (lv_at hl 3 rfl) ?_
            refine va_get (D := D) (ci := 4) (v := .int as_) (C := RX4) (T := TX4) (N := 4) hx hb hts ilX4_bestExplanation_4 hown hG.1 hP 0 rfl rfl 3 (by decide) (hts (.fieldLink RX4 26 "HornEngine$Rulebook" "assumable" "I") (List.mem_of_getElem? (i := 1) rfl)) (fun _ h9 => h9) rfl dX4_bestExplanation_73 ?_
            refine lv_iand hx hb dX4_bestExplanation_76 ?_
            refine lv_istore (lv' := [(4, .int ((x4 - as_) &&& as_)), (3, .int (bc x4)), (2, .int x4), (7, .int (bc x4)), (0, .ref b), (1, .int (nI a)), (5, .int (nI ct)), (6, .int (nI k))]) hx hb dX4_bestExplanation_77 hl (by decide) rfl (fun ls hl => ?_)
            refine lv_iinc (v := nI (k + 1)) (lv' := [(6, .int (nI (k + 1))), (4, .int ((x4 - as_) &&& as_)), (3, .int (bc x4)), (2, .int x4), (7, .int (bc x4)), (0, .ref b), (1, .int (nI a)), (5, .int (nI ct))]) hx hb dX4_bestExplanation_79 hl (k := 7) rfl (nI_s1 k) (by decide) rfl (fun ls hl => ?_)
            refine lv_goto (tgt := 22) hx hb dX4_bestExplanation_82 (by decide) ?_
            exact ih_22 (k + 1) x4 (bc x4) ((x4 - as_) &&& as_) (by omega) (by simp only [exB, et, decide_true, decide_false, reduceIte, Bool.false_eq_true, not_true_eq_false, not_false_eq_true, and_self, and_true, true_and, and_false, false_and, c_2, c_3, c_4]) (by omega) ls (lv_sub hl [5, 6, 3, 2, 1, 7, 0] rfl)
  exact lp_22_1 (ct - 0 + 1) 0 (-1) (nI 9) (nI 0) (by omega) rfl (Nat.lt_succ_self _) ls (lv_sub hl [5, 6, 4, 3, 2, 1, 0] rfl)
set_option maxHeartbeats 4000000 in
set_option maxRecDepth 100000 in
theorem k_X2_size (l : Launch) (D : va_G) (cI cB : ClassId) (ro : Nat) (qi : Nat) (it : Nat → Int32) (cn : Nat) (rm_ : Nat) (hrm : rm_ ≤ 120) (hcn : cn ≤ rm_) : Rd l yX2_size wsX2_size ({ frames := 0, cells := 0, slots := 0, locals := 0 }) D cI cB [.ref ro] [(ro, .inr (2, [.ref qi, .int (nI cn)])), (qi, .inl (cI, rm_, .inl it))] (.int (nI cn)) := by
  refine pu_startI (cc := cX2_size) (maxL := 1) (by decide) rfl (Nat.le_of_ble_eq_true rfl) ?_
  intro p e s m args below meth c Q hx hb hml hown hts hP hG hret ls hl
  have hown : s.vm.findClass RX2 = some m.cls := hown
  have hl : lv_has ls 1 [(0, .ref ro)] := hl
  refine lv_aload_n hx hb dX2_size_0 rfl (lv_at hl 0 rfl) ?_
  refine va_get (D := D) (ci := 2) (v := .int (nI cn)) (C := RX2) (T := TX2) (N := 2) hx hb hts ilX2_size_2 hown hG.1 hP 0 rfl rfl 1 (by decide) (hts (.fieldLink RX2 15 "HornEngine$Row" "count" "I") (List.mem_of_getElem? (i := 1) rfl)) (fun _ h9 => h9) rfl dX2_size_1 ?_
  exact hret _ _ _ rfl dX2_size_4
set_option maxHeartbeats 4000000 in
set_option maxRecDepth 100000 in
theorem k_X2_isFull (l : Launch) (D : va_G) (cI cB : ClassId) (ro : Nat) (qi : Nat) (it : Nat → Int32) (cn : Nat) (rm_ : Nat) (hrm : rm_ ≤ 120) (hcn : cn ≤ rm_) : Rd l yX2_isFull wsX2_isFull ({ frames := 0, cells := 0, slots := 0, locals := 0 }) D cI cB [.ref ro] [(ro, .inr (2, [.ref qi, .int (nI cn)])), (qi, .inl (cI, rm_, .inl it))] (.int (bI (decide (rm_ ≤ cn)))) := by
  refine pu_startZ (cc := cX2_isFull) (maxL := 1) (by decide) rfl (Nat.le_of_ble_eq_true rfl) ?_
  intro p e s m args below meth c Q hx hb hml hown hts hP hG hret ls hl
  have hown : s.vm.findClass RX2 = some m.cls := hown
  have hl : lv_has ls 1 [(0, .ref ro)] := hl
  refine lv_aload_n hx hb dX2_isFull_0 rfl (lv_at hl 0 rfl) ?_
  refine va_get (D := D) (ci := 2) (v := .int (nI cn)) (C := RX2) (T := TX2) (N := 2) hx hb hts ilX2_isFull_2 hown hG.1 hP 0 rfl rfl 1 (by decide) (hts (.fieldLink RX2 15 "HornEngine$Row" "count" "I") (List.mem_of_getElem? (i := 1) rfl)) (fun _ h9 => h9) rfl dX2_isFull_1 ?_
  refine lv_aload_n hx hb dX2_isFull_4 rfl (lv_at hl 0 rfl) ?_
  refine va_get (D := D) (ci := 2) (v := .ref qi) (C := RX2) (T := TX2) (N := 2) hx hb hts ilX2_isFull_2 hown hG.1 hP 0 rfl rfl 0 (by decide) (hts (.fieldLink RX2 9 "HornEngine$Row" "items" "[I") (List.mem_of_getElem? (i := 2) rfl)) (fun _ h9 => h9) rfl dX2_isFull_5 ?_
  refine va_alen (v := nI rm_) hx hb hG.1 hP 1 0 rfl rfl rfl dX2_isFull_8 ?_
  refine lv_icmp_lt (tgt := 16) hx hb dX2_isFull_9 (by decide) (fun c_1 => ?_) (fun c_1 => ?_)
  · skip
    have c_1 : cn < rm_ := (nI_ltI (by omega) (by omega)).mp (show nI cn < nI rm_ from c_1)
    refine lv_iconst (v := nI 0) hx hb dX2_isFull_16 (by decide) ?_
    exact hret _ _ _ (bI_0 (decide_eq_false (by omega))) dX2_isFull_17
  · skip
    have c_1 : ¬ (cn < rm_) := fun h9 => (show ¬ (nI cn < nI rm_) from c_1) ((nI_ltI (by omega) (by omega)).mpr h9)
    refine lv_iconst (v := nI 1) hx hb dX2_isFull_12 (by decide) ?_
    refine lv_goto (tgt := 17) hx hb dX2_isFull_13 (by decide) ?_
    exact hret _ _ _ (bI_1 (decide_eq_true (by omega))) dX2_isFull_17
set_option maxHeartbeats 4000000 in
set_option maxRecDepth 100000 in
theorem k_X2_itemAt (l : Launch) (D : va_G) (cI cB : ClassId) (ro : Nat) (qi : Nat) (it : Nat → Int32) (cn : Nat) (rm_ : Nat) (i_ : Int32) (hrm : rm_ ≤ 120) (hcn : cn ≤ rm_) : Rd l yX2_itemAt wsX2_itemAt ({ frames := 0, cells := 0, slots := 0, locals := 0 }) D cI cB [.ref ro, .int i_] [(ro, .inr (2, [.ref qi, .int (nI cn)])), (qi, .inl (cI, rm_, .inl it))] (.int (itm it cn i_)) := by
  refine pu_startI (cc := cX2_itemAt) (maxL := 2) (by decide) rfl (Nat.le_of_ble_eq_true rfl) ?_
  intro p e s m args below meth c Q hx hb hml hown hts hP hG hret ls hl
  have hown : s.vm.findClass RX2 = some m.cls := hown
  have hl : lv_has ls 2 [(0, .ref ro), (1, .int i_)] := hl
  refine lv_iload_n hx hb dX2_itemAt_0 rfl (lv_at hl 1 rfl) ?_
  refine lv_if_lt (tgt := 21) hx hb dX2_itemAt_1 (by decide) (fun c_1 => ?_) (fun c_1 => ?_)
  · skip
    refine lv_iconst (v := (-1)) hx hb dX2_itemAt_21 (by decide) ?_
    exact hret _ _ _ (by simp only [itm, hasR, decide_true, decide_false, reduceIte, Bool.false_eq_true, not_true_eq_false, not_false_eq_true, and_self, and_true, true_and, and_false, false_and, c_1]) dX2_itemAt_22
  · skip
    refine lv_iload_n hx hb dX2_itemAt_4 rfl (lv_at hl 1 rfl) ?_
    refine lv_aload_n hx hb dX2_itemAt_5 rfl (lv_at hl 0 rfl) ?_
    refine va_get (D := D) (ci := 2) (v := .int (nI cn)) (C := RX2) (T := TX2) (N := 2) hx hb hts ilX2_itemAt_2 hown hG.1 hP 0 rfl rfl 1 (by decide) (hts (.fieldLink RX2 15 "HornEngine$Row" "count" "I") (List.mem_of_getElem? (i := 1) rfl)) (fun _ h9 => h9) rfl dX2_itemAt_6 ?_
    refine lv_icmp_ge (tgt := 21) hx hb dX2_itemAt_9 (by decide) (fun c_2 => ?_) (fun c_2 => ?_)
    · skip
      refine lv_iconst (v := (-1)) hx hb dX2_itemAt_21 (by decide) ?_
      exact hret _ _ _ (by simp only [itm, hasR, decide_true, decide_false, reduceIte, Bool.false_eq_true, not_true_eq_false, not_false_eq_true, and_self, and_true, true_and, and_false, false_and, c_1, c_2]) dX2_itemAt_22
    · skip
      refine lv_aload_n hx hb dX2_itemAt_12 rfl (lv_at hl 0 rfl) ?_
      refine va_get (D := D) (ci := 2) (v := .ref qi) (C := RX2) (T := TX2) (N := 2) hx hb hts ilX2_itemAt_2 hown hG.1 hP 0 rfl rfl 0 (by decide) (hts (.fieldLink RX2 9 "HornEngine$Row" "items" "[I") (List.mem_of_getElem? (i := 2) rfl)) (fun _ h9 => h9) rfl dX2_itemAt_13 ?_
      refine lv_iload_n hx hb dX2_itemAt_16 rfl (lv_at hl 1 rfl) ?_
      refine ia_ld hx hb hG hP 1 rfl i_.toNatClampNeg (itm_ix c_1 c_2 (by omega)).1 (Nat.lt_of_lt_of_le (itm_ix c_1 c_2 (by omega)).2 (by omega)) (by omega) dX2_itemAt_17 ?_
      refine lv_goto (tgt := 22) hx hb dX2_itemAt_18 (by decide) ?_
      exact hret _ _ _ (by simp only [itm, hasR, decide_true, decide_false, reduceIte, Bool.false_eq_true, not_true_eq_false, not_false_eq_true, and_self, and_true, true_and, and_false, false_and, c_1, c_2]) dX2_itemAt_22
set_option maxHeartbeats 4000000 in
set_option maxRecDepth 100000 in
theorem k_X2_empty (l : Launch) (D : va_G) (cI cB : ClassId) (ro : Nat) (qi : Nat) (it : Nat → Int32) (cn : Nat) (rm_ : Nat) (hrm : rm_ ≤ 120) (hcn : cn ≤ rm_) (sz : Nat) : Wr l yX2_empty wsX2_empty ({ frames := 0, cells := 0, slots := 0, locals := 0 }) D cI cB [.ref ro] [(ro, .inr (2, [.ref qi, .int (nI cn)])), (qi, .inl (cI, rm_, .inl it))] sz (S := Unit) (fun v u => v = none) (fun u => [(ro, .inr (2, [.ref qi, .int (nI 0)])), (qi, .inl (cI, rm_, .inl it))]) 0 0 := by
  refine ef_startV (cc := cX2_empty) (maxL := 1) (by decide) rfl (Nat.le_of_ble_eq_true rfl) ?_
  intro p e s m args below meth c Q A hx hb hml hown hts hP hG hD hA hin hret ls hl
  have hown : s.vm.findClass RX2 = some m.cls := hown
  have hl : lv_has ls 1 [(0, .ref ro)] := hl
  have hS : va_S A s.heap s.heap [] := va_S.rf
  refine lv_aload_n hx hb dX2_empty_0 rfl (lv_at hl 0 rfl) ?_
  refine lv_iconst (v := nI 0) hx hb dX2_empty_1 (by decide) ?_
  refine va_put (D := D) (ci := 2) (v := .int (nI 0)) (ty := .int) (C := RX2) (T := TX2) (N := 2) hx hb hts ilX2_empty_2 tyX2 tyX2_ok nmX2 hown hG.1 hP hD hS 0 rfl rfl 1 (by decide) (hts (.fieldLink RX2 15 "HornEngine$Row" "count" "I") (List.mem_of_getElem? (i := 1) rfl)) (fun _ h9 => h9) rfl (by decide +kernel) rfl rfl (Nat.le_of_ble_eq_true rfl) dX2_empty_2 (fun H locs hP hD hS => ?_)
  have hP : va_P D vwCl [(ro, .inr (2, [.ref qi, .int (nI 0)])), (qi, .inl (cI, rm_, .inl it))] H := hP
  have hD : va_D A [(ro, .inr (2, [.ref qi, .int (nI 0)])), (qi, .inl (cI, rm_, .inl it))] := hD
  exact hret () _ _ _ _ (rfl) (hP) (hD) hS dX2_empty_5
set_option maxHeartbeats 4000000 in
set_option maxRecDepth 100000 in
theorem k_X2_addLast (l : Launch) (D : va_G) (cI cB : ClassId) (ro : Nat) (qi : Nat) (it : Nat → Int32) (cn : Nat) (rm_ : Nat) (x : Int32) (hrm : rm_ ≤ 120) (hcn : cn < rm_) (sz : Nat) : Wr l yX2_addLast wsX2_addLast ({ frames := 1, cells := 0, slots := 0, locals := 20 }) D cI cB [.ref ro, .int x] [(ro, .inr (2, [.ref qi, .int (nI cn)])), (qi, .inl (cI, rm_, .inl it))] sz (S := Unit) (fun v u => v = none) (fun u => [(ro, .inr (2, [.ref qi, .int (nI (cn + 1))])), (qi, .inl (cI, rm_, .inl (upd it cn x)))]) 0 0 := by
  refine ef_startV (cc := cX2_addLast) (maxL := 2) (by decide) rfl (Nat.le_of_ble_eq_true rfl) ?_
  intro p e s m args below meth c Q A hx hb hml hown hts hP hG hD hA hin hret ls hl
  have hown : s.vm.findClass RX2 = some m.cls := hown
  have hl : lv_has ls 2 [(0, .ref ro), (1, .int x)] := hl
  have hS : va_S A s.heap s.heap [] := va_S.rf
  refine lv_aload_n hx hb dX2_addLast_0 rfl (lv_at hl 0 rfl) ?_
  refine pu_V (As := []) (rest := []) ⟨hx, hb, hml, hown, hts⟩ hG hP (k_X2_isFull l D cI cB ro qi it cn rm_ (by omega) (by omega)) (cwV 0 hts gX2_addLast_X2_isFull rfl rfl rfl (by decide +kernel) ⟨(Nat.le_of_ble_eq_true rfl), (Nat.le_of_ble_eq_true rfl)⟩) [0, 1] rfl 0 rfl rfl rfl rfl hl.1 rfl (Nat.le_of_ble_eq_true rfl) dX2_addLast_1 ⟨Nat.zero_le _, Nat.zero_le _⟩ ?_
  refine lv_if_ne (tgt := 27) hx hb dX2_addLast_4 (by decide) (fun c_1 => ?_) (fun c_1 => ?_)
  · skip
    have c_1 : (decide (rm_ ≤ cn)) = true := bI_t.mp c_1
    exact absurd (of_decide_eq_true c_1) (by omega)
  · skip
    have c_1 : (decide (rm_ ≤ cn)) = false := bI_f.mp c_1
    refine lv_aload_n hx hb dX2_addLast_7 rfl (lv_at hl 0 rfl) ?_
    refine va_get (D := D) (ci := 2) (v := .ref qi) (C := RX2) (T := TX2) (N := 2) hx hb hts ilX2_addLast_2 hown hG.1 hP 0 rfl rfl 0 (by decide) (hts (.fieldLink RX2 9 "HornEngine$Row" "items" "[I") (List.mem_of_getElem? (i := 1) rfl)) (fun _ h9 => h9) rfl dX2_addLast_8 ?_
    refine lv_aload_n hx hb dX2_addLast_11 rfl (lv_at hl 0 rfl) ?_
    refine va_get (D := D) (ci := 2) (v := .int (nI cn)) (C := RX2) (T := TX2) (N := 2) hx hb hts ilX2_addLast_2 hown hG.1 hP 0 rfl rfl 1 (by decide) (hts (.fieldLink RX2 15 "HornEngine$Row" "count" "I") (List.mem_of_getElem? (i := 2) rfl)) (fun _ h9 => h9) rfl dX2_addLast_12 ?_
    refine lv_iload_n hx hb dX2_addLast_15 rfl (lv_at hl 1 rfl) ?_
    refine ia_st hx hb hG hP hD hS 1 rfl cn rfl (by omega) (by omega) dX2_addLast_16 (fun H locs hP hD hS => ?_)
    have hP : va_P D vwCl [(ro, .inr (2, [.ref qi, .int (nI cn)])), (qi, .inl (cI, rm_, .inl (upd it cn x)))] H := hP
    have hD : va_D A [(ro, .inr (2, [.ref qi, .int (nI cn)])), (qi, .inl (cI, rm_, .inl (upd it cn x)))] := hD
    refine lv_aload_n hx hb dX2_addLast_17 rfl (lv_at hl 0 rfl) ?_
    refine lv_dup hx hb dX2_addLast_18 rfl ?_
    refine va_get (D := D) (ci := 2) (v := .int (nI cn)) (C := RX2) (T := TX2) (N := 2) hx hb hts ilX2_addLast_2 hown hG.1 hP 0 rfl rfl 1 (by decide) (hts (.fieldLink RX2 15 "HornEngine$Row" "count" "I") (List.mem_of_getElem? (i := 2) rfl)) (fun _ h9 => h9) rfl dX2_addLast_19 ?_
    refine lv_iconst (v := nI 1) hx hb dX2_addLast_22 (by decide) ?_
    refine lv_iadd hx hb dX2_addLast_23 ?_
    refine lv_eqi (nI_add cn 1) ?_
    refine va_put (D := D) (ci := 2) (v := .int (nI (cn + 1))) (ty := .int) (C := RX2) (T := TX2) (N := 2) hx hb hts ilX2_addLast_2 tyX2 tyX2_ok nmX2 hown hG.1 hP hD hS 0 rfl rfl 1 (by decide) (hts (.fieldLink RX2 15 "HornEngine$Row" "count" "I") (List.mem_of_getElem? (i := 2) rfl)) (fun _ h9 => h9) rfl (by decide +kernel) rfl rfl (Nat.le_of_ble_eq_true rfl) dX2_addLast_24 (fun H locs hP hD hS => ?_)
    have hP : va_P D vwCl [(ro, .inr (2, [.ref qi, .int (nI (cn + 1))])), (qi, .inl (cI, rm_, .inl (upd it cn x)))] H := hP
    have hD : va_D A [(ro, .inr (2, [.ref qi, .int (nI (cn + 1))])), (qi, .inl (cI, rm_, .inl (upd it cn x)))] := hD
    exact hret () _ _ _ _ (rfl) (hP) (hD) hS dX2_addLast_27
set_option maxHeartbeats 4000000 in
set_option maxRecDepth 100000 in
theorem k_X4_addLast (l : Launch) (D : va_G) (cI cB : ClassId) (b : Nat) (qh : Nat) (qb : Nat) (hs : Nat → Int32) (bs : Nat → Int32) (n : Nat) (as_ : Int32) (h : Int32) (y : Int32) (hn : n < 24) (sz : Nat) : Wr l yX4_addLast wsX4_addLast ({ frames := 1, cells := 0, slots := 0, locals := 20 }) D cI cB [.ref b, .int h, .int y] [(b, .inr (4, [.ref qh, .ref qb, .int (nI n), .int as_])), (qh, .inl (cI, 24, .inl hs)), (qb, .inl (cI, 24, .inl bs))] sz (S := Unit) (fun v u => v = none) (fun u => [(b, .inr (4, [.ref qh, .ref qb, .int (nI (n + 1)), .int as_])), (qh, .inl (cI, 24, .inl (upd hs n h))), (qb, .inl (cI, 24, .inl (upd bs n y)))]) 0 0 := by
  refine ef_startV (cc := cX4_addLast) (maxL := 3) (by decide) rfl (Nat.le_of_ble_eq_true rfl) ?_
  intro p e s m args below meth c Q A hx hb hml hown hts hP hG hD hA hin hret ls hl
  have hown : s.vm.findClass RX4 = some m.cls := hown
  have hl : lv_has ls 3 [(0, .ref b), (1, .int h), (2, .int y)] := hl
  have hS : va_S A s.heap s.heap [] := va_S.rf
  refine lv_aload_n hx hb dX4_addLast_0 rfl (lv_at hl 0 rfl) ?_
  refine pu_V (As := []) (rest := []) ⟨hx, hb, hml, hown, hts⟩ hG hP (k_X4_isFull l D cI cB b qh qb hs bs n as_ (by omega)) (cwV 0 hts gX4_addLast_X4_isFull rfl rfl rfl (by decide +kernel) ⟨(Nat.le_of_ble_eq_true rfl), (Nat.le_of_ble_eq_true rfl)⟩) [0, 1, 2] rfl 0 rfl rfl rfl rfl hl.1 rfl (Nat.le_of_ble_eq_true rfl) dX4_addLast_1 ⟨Nat.zero_le _, Nat.zero_le _⟩ ?_
  refine lv_if_ne (tgt := 37) hx hb dX4_addLast_4 (by decide) (fun c_1 => ?_) (fun c_1 => ?_)
  · skip
    have c_1 : (decide (24 ≤ n)) = true := bI_t.mp c_1
    exact absurd (of_decide_eq_true c_1) (by omega)
  · skip
    have c_1 : (decide (24 ≤ n)) = false := bI_f.mp c_1
    refine lv_aload_n hx hb dX4_addLast_7 rfl (lv_at hl 0 rfl) ?_
    refine va_get (D := D) (ci := 4) (v := .ref qh) (C := RX4) (T := TX4) (N := 4) hx hb hts ilX4_addLast_4 hown hG.1 hP 0 rfl rfl 0 (by decide) (hts (.fieldLink RX4 9 "HornEngine$Rulebook" "heads" "[I") (List.mem_of_getElem? (i := 1) rfl)) (fun _ h9 => h9) rfl dX4_addLast_8 ?_
    refine lv_aload_n hx hb dX4_addLast_11 rfl (lv_at hl 0 rfl) ?_
    refine va_get (D := D) (ci := 4) (v := .int (nI n)) (C := RX4) (T := TX4) (N := 4) hx hb hts ilX4_addLast_4 hown hG.1 hP 0 rfl rfl 2 (by decide) (hts (.fieldLink RX4 18 "HornEngine$Rulebook" "count" "I") (List.mem_of_getElem? (i := 2) rfl)) (fun _ h9 => h9) rfl dX4_addLast_12 ?_
    refine lv_iload_n hx hb dX4_addLast_15 rfl (lv_at hl 1 rfl) ?_
    refine ia_st hx hb hG hP hD hS 1 rfl n rfl (by omega) (by decide) dX4_addLast_16 (fun H locs hP hD hS => ?_)
    have hP : va_P D vwCl [(b, .inr (4, [.ref qh, .ref qb, .int (nI n), .int as_])), (qh, .inl (cI, 24, .inl (upd hs n h))), (qb, .inl (cI, 24, .inl bs))] H := hP
    have hD : va_D A [(b, .inr (4, [.ref qh, .ref qb, .int (nI n), .int as_])), (qh, .inl (cI, 24, .inl (upd hs n h))), (qb, .inl (cI, 24, .inl bs))] := hD
    refine lv_aload_n hx hb dX4_addLast_17 rfl (lv_at hl 0 rfl) ?_
    refine va_get (D := D) (ci := 4) (v := .ref qb) (C := RX4) (T := TX4) (N := 4) hx hb hts ilX4_addLast_4 hown hG.1 hP 0 rfl rfl 1 (by decide) (hts (.fieldLink RX4 15 "HornEngine$Rulebook" "bodies" "[I") (List.mem_of_getElem? (i := 3) rfl)) (fun _ h9 => h9) rfl dX4_addLast_18 ?_
    refine lv_aload_n hx hb dX4_addLast_21 rfl (lv_at hl 0 rfl) ?_
    refine va_get (D := D) (ci := 4) (v := .int (nI n)) (C := RX4) (T := TX4) (N := 4) hx hb hts ilX4_addLast_4 hown hG.1 hP 0 rfl rfl 2 (by decide) (hts (.fieldLink RX4 18 "HornEngine$Rulebook" "count" "I") (List.mem_of_getElem? (i := 2) rfl)) (fun _ h9 => h9) rfl dX4_addLast_22 ?_
    refine lv_iload_n hx hb dX4_addLast_25 rfl (lv_at hl 2 rfl) ?_
    refine ia_st hx hb hG hP hD hS 2 rfl n rfl (by omega) (by decide) dX4_addLast_26 (fun H locs hP hD hS => ?_)
    have hP : va_P D vwCl [(b, .inr (4, [.ref qh, .ref qb, .int (nI n), .int as_])), (qh, .inl (cI, 24, .inl (upd hs n h))), (qb, .inl (cI, 24, .inl (upd bs n y)))] H := hP
    have hD : va_D A [(b, .inr (4, [.ref qh, .ref qb, .int (nI n), .int as_])), (qh, .inl (cI, 24, .inl (upd hs n h))), (qb, .inl (cI, 24, .inl (upd bs n y)))] := hD
    refine lv_aload_n hx hb dX4_addLast_27 rfl (lv_at hl 0 rfl) ?_
    refine lv_dup hx hb dX4_addLast_28 rfl ?_
    refine va_get (D := D) (ci := 4) (v := .int (nI n)) (C := RX4) (T := TX4) (N := 4) hx hb hts ilX4_addLast_4 hown hG.1 hP 0 rfl rfl 2 (by decide) (hts (.fieldLink RX4 18 "HornEngine$Rulebook" "count" "I") (List.mem_of_getElem? (i := 2) rfl)) (fun _ h9 => h9) rfl dX4_addLast_29 ?_
    refine lv_iconst (v := nI 1) hx hb dX4_addLast_32 (by decide) ?_
    refine lv_iadd hx hb dX4_addLast_33 ?_
    refine lv_eqi (nI_add n 1) ?_
    refine va_put (D := D) (ci := 4) (v := .int (nI (n + 1))) (ty := .int) (C := RX4) (T := TX4) (N := 4) hx hb hts ilX4_addLast_4 tyX4 tyX4_ok nmX4 hown hG.1 hP hD hS 0 rfl rfl 2 (by decide) (hts (.fieldLink RX4 18 "HornEngine$Rulebook" "count" "I") (List.mem_of_getElem? (i := 2) rfl)) (fun _ h9 => h9) rfl (by decide +kernel) rfl rfl (Nat.le_of_ble_eq_true rfl) dX4_addLast_34 (fun H locs hP hD hS => ?_)
    have hP : va_P D vwCl [(b, .inr (4, [.ref qh, .ref qb, .int (nI (n + 1)), .int as_])), (qh, .inl (cI, 24, .inl (upd hs n h))), (qb, .inl (cI, 24, .inl (upd bs n y)))] H := hP
    have hD : va_D A [(b, .inr (4, [.ref qh, .ref qb, .int (nI (n + 1)), .int as_])), (qh, .inl (cI, 24, .inl (upd hs n h))), (qb, .inl (cI, 24, .inl (upd bs n y)))] := hD
    exact hret () _ _ _ _ (rfl) (hP) (hD) hS dX4_addLast_37
set_option maxHeartbeats 4000000 in
set_option maxRecDepth 100000 in
theorem k_X4_removeAt (l : Launch) (D : va_G) (cI cB : ClassId) (b : Nat) (qh : Nat) (qb : Nat) (hs : Nat → Int32) (bs : Nat → Int32) (n : Nat) (as_ : Int32) (r : Nat) (hn : n ≤ 24) (hr : r < n) (sz : Nat) : Wr l yX4_removeAt wsX4_removeAt ({ frames := 1, cells := 0, slots := 0, locals := 21 }) D cI cB [.ref b, .int (nI r)] [(b, .inr (4, [.ref qh, .ref qb, .int (nI n), .int as_])), (qh, .inl (cI, 24, .inl hs)), (qb, .inl (cI, 24, .inl bs))] sz (S := Unit) (fun v u => v = none) (fun u => [(b, .inr (4, [.ref qh, .ref qb, .int (nI (n - 1)), .int as_])), (qh, .inl (cI, 24, .inl (rmF hs r n))), (qb, .inl (cI, 24, .inl (rmF bs r n)))]) 0 0 := by
  refine ef_startV (cc := cX4_removeAt) (maxL := 3) (by decide) rfl (Nat.le_of_ble_eq_true rfl) ?_
  intro p e s m args below meth c Q A hx hb hml hown hts hP hG hD hA hin hret ls hl
  have hown : s.vm.findClass RX4 = some m.cls := hown
  have hl : lv_has ls 3 [(0, .ref b), (1, .int (nI r))] := hl
  have hS : va_S A s.heap s.heap [] := va_S.rf
  refine lv_aload_n hx hb dX4_removeAt_0 rfl (lv_at hl 0 rfl) ?_
  refine lv_iload_n hx hb dX4_removeAt_1 rfl (lv_at hl 1 rfl) ?_
  refine pu_V (As := [.int (nI r)]) (rest := []) ⟨hx, hb, hml, hown, hts⟩ hG hP (k_X4_hasRule l D cI cB b qh qb hs bs n as_ (nI r) (by omega)) (cwV 1 hts gX4_removeAt_X4_hasRule rfl rfl rfl (by decide +kernel) ⟨(Nat.le_of_ble_eq_true rfl), (Nat.le_of_ble_eq_true rfl)⟩) [0, 1, 2] rfl 0 rfl rfl rfl rfl hl.1 rfl (Nat.le_of_ble_eq_true rfl) dX4_removeAt_2 ⟨Nat.zero_le _, Nat.zero_le _⟩ ?_
  refine lv_if_ne (tgt := 9) hx hb dX4_removeAt_5 (by decide) (fun c_1 => ?_) (fun c_1 => ?_)
  · skip
    have c_1 : (hasR (nI r) n) = true := bI_t.mp c_1
    refine lv_iload_n hx hb dX4_removeAt_9 rfl (lv_at hl 1 rfl) ?_
    refine lv_iconst (v := nI 1) hx hb dX4_removeAt_10 (by decide) ?_
    refine lv_iadd hx hb dX4_removeAt_11 ?_
    refine lv_eqi (nI_add r 1) ?_
    refine lv_istore_n (lv' := [(2, .int (nI (r + 1))), (0, .ref b), (1, .int (nI r))]) hx hb dX4_removeAt_12 rfl hl (by decide) rfl (fun ls hl => ?_)
    have hP : va_P D vwCl [(b, .inr (4, [.ref qh, .ref qb, .int (nI n), .int as_])), (qh, .inl (cI, 24, .inl (rmF hs r (r + 1)))), (qb, .inl (cI, 24, .inl (rmF bs r (r + 1))))] s.heap := by rw [rmF_0, rmF_0]; exact hP
    have hD : va_D A [(b, .inr (4, [.ref qh, .ref qb, .int (nI n), .int as_])), (qh, .inl (cI, 24, .inl (rmF hs r (r + 1)))), (qb, .inl (cI, 24, .inl (rmF bs r (r + 1))))] := by rw [rmF_0, rmF_0]; exact hD
    have lp_13_2 : ∀ (fu_13 : Nat) (k : Nat) (hk : r + 1 ≤ k) (hk2 : k ≤ n) (hfu_13 : n - k < fu_13) (H : Heap) (locs : List Loc) (hP : va_P D vwCl [(b, .inr (4, [.ref qh, .ref qb, .int (nI n), .int as_])), (qh, .inl (cI, 24, .inl (rmF hs r k))), (qb, .inl (cI, 24, .inl (rmF bs r k)))] H) (hD : va_D A [(b, .inr (4, [.ref qh, .ref qb, .int (nI n), .int as_])), (qh, .inl (cI, 24, .inl (rmF hs r k))), (qb, .inl (cI, 24, .inl (rmF bs r k)))]) (hS : va_S A s.heap H locs) (ls : Array Slot) (hl : lv_has ls 3 [(0, .ref b), (1, .int (nI r)), (2, .int (nI k))]), W p l e ({ frames := 1, cells := 0, slots := 0, locals := 21 }) s m args below meth c H locs 0 0 Q (F0 m 13 ls []) := by
      intro fu_13
      induction fu_13 with
      | zero => intro k hk hk2 hfu; exact absurd hfu (Nat.not_lt_zero _)
      | succ fu_13 ih_13 =>
        intro k hk hk2 hfu_13 H locs hP hD hS ls hl
        refine lv_iload_n hx hb dX4_removeAt_13 rfl (lv_at hl 2 rfl) ?_
        refine lv_aload_n hx hb dX4_removeAt_14 rfl (lv_at hl 0 rfl) ?_
        refine va_get (D := D) (ci := 4) (v := .int (nI n)) (C := RX4) (T := TX4) (N := 4) hx hb hts ilX4_removeAt_4 hown hG.1 hP 0 rfl rfl 2 (by decide) (hts (.fieldLink RX4 18 "HornEngine$Rulebook" "count" "I") (List.mem_of_getElem? (i := 1) rfl)) (fun _ h9 => h9) rfl dX4_removeAt_15 ?_
        refine lv_icmp_ge (tgt := 55) hx hb dX4_removeAt_18 (by decide) (fun c_3 => ?_) (fun c_3 => ?_)
        · skip
          have c_3 : n ≤ k := (nI_leI (by omega) (by omega)).mp (show nI n ≤ nI k from c_3)
          refine lv_aload_n hx hb dX4_removeAt_55 rfl (lv_at hl 0 rfl) ?_
          refine lv_dup hx hb dX4_removeAt_56 rfl ?_
          refine va_get (D := D) (ci := 4) (v := .int (nI n)) (C := RX4) (T := TX4) (N := 4) hx hb hts ilX4_removeAt_4 hown hG.1 hP 0 rfl rfl 2 (by decide) (hts (.fieldLink RX4 18 "HornEngine$Rulebook" "count" "I") (List.mem_of_getElem? (i := 1) rfl)) (fun _ h9 => h9) rfl dX4_removeAt_57 ?_
          refine lv_iconst (v := nI 1) hx hb dX4_removeAt_60 (by decide) ?_
          refine lv_isub hx hb dX4_removeAt_61 ?_
          refine lv_eqi (nI_sub1 (by omega)) ?_
          refine va_put (D := D) (ci := 4) (v := .int (nI (n - 1))) (ty := .int) (C := RX4) (T := TX4) (N := 4) hx hb hts ilX4_removeAt_4 tyX4 tyX4_ok nmX4 hown hG.1 hP hD hS 0 rfl rfl 2 (by decide) (hts (.fieldLink RX4 18 "HornEngine$Rulebook" "count" "I") (List.mem_of_getElem? (i := 1) rfl)) (fun _ h9 => h9) rfl (by decide +kernel) rfl rfl (Nat.le_of_ble_eq_true rfl) dX4_removeAt_62 (fun H locs hP hD hS => ?_)
          have hP : va_P D vwCl [(b, .inr (4, [.ref qh, .ref qb, .int (nI (n - 1)), .int as_])), (qh, .inl (cI, 24, .inl (rmF hs r k))), (qb, .inl (cI, 24, .inl (rmF bs r k)))] H := hP
          have hD : va_D A [(b, .inr (4, [.ref qh, .ref qb, .int (nI (n - 1)), .int as_])), (qh, .inl (cI, 24, .inl (rmF hs r k))), (qb, .inl (cI, 24, .inl (rmF bs r k)))] := hD
          exact hret () _ _ _ _ (rfl) (by rw [show n = k from by omega]; rw [show n = k from by omega] at hP; exact hP) (by rw [show n = k from by omega]; rw [show n = k from by omega] at hD; exact hD) hS dX4_removeAt_65
        · skip
          have c_3 : ¬ (n ≤ k) := fun h9 => (show ¬ (nI n ≤ nI k) from c_3) ((nI_leI (by omega) (by omega)).mpr h9)
          refine lv_aload_n hx hb dX4_removeAt_21 rfl (lv_at hl 0 rfl) ?_
          refine va_get (D := D) (ci := 4) (v := .ref qh) (C := RX4) (T := TX4) (N := 4) hx hb hts ilX4_removeAt_4 hown hG.1 hP 0 rfl rfl 0 (by decide) (hts (.fieldLink RX4 9 "HornEngine$Rulebook" "heads" "[I") (List.mem_of_getElem? (i := 2) rfl)) (fun _ h9 => h9) rfl dX4_removeAt_22 ?_
          refine lv_iload_n hx hb dX4_removeAt_25 rfl (lv_at hl 2 rfl) ?_
          refine lv_iconst (v := nI 1) hx hb dX4_removeAt_26 (by decide) ?_
          refine lv_isub hx hb dX4_removeAt_27 ?_
          refine lv_eqi (nI_sub1 (by omega)) ?_
          refine lv_aload_n hx hb dX4_removeAt_28 rfl (lv_at hl 0 rfl) ?_
          refine va_get (D := D) (ci := 4) (v := .ref qh) (C := RX4) (T := TX4) (N := 4) hx hb hts ilX4_removeAt_4 hown hG.1 hP 0 rfl rfl 0 (by decide) (hts (.fieldLink RX4 9 "HornEngine$Rulebook" "heads" "[I") (List.mem_of_getElem? (i := 2) rfl)) (fun _ h9 => h9) rfl dX4_removeAt_29 ?_
          refine lv_iload_n hx hb dX4_removeAt_32 rfl (lv_at hl 2 rfl) ?_
          refine ia_ld hx hb hG hP 1 rfl k rfl (by omega) (by decide) dX4_removeAt_33 ?_
          refine lv_eqi (rmF_at hs r k) ?_
          refine ia_st hx hb hG hP hD hS 1 rfl (k - 1) rfl (by omega) (by decide) dX4_removeAt_34 (fun H locs hP hD hS => ?_)
          rw [show upd (rmF hs r k) (k - 1) (hs k) = rmF hs r (k + 1) from rmF_st hs (by omega)] at hP hD
          have hP : va_P D vwCl [(b, .inr (4, [.ref qh, .ref qb, .int (nI n), .int as_])), (qh, .inl (cI, 24, .inl (rmF hs r (k + 1)))), (qb, .inl (cI, 24, .inl (rmF bs r k)))] H := hP
          have hD : va_D A [(b, .inr (4, [.ref qh, .ref qb, .int (nI n), .int as_])), (qh, .inl (cI, 24, .inl (rmF hs r (k + 1)))), (qb, .inl (cI, 24, .inl (rmF bs r k)))] := hD
          refine lv_aload_n hx hb dX4_removeAt_35 rfl (lv_at hl 0 rfl) ?_
          refine va_get (D := D) (ci := 4) (v := .ref qb) (C := RX4) (T := TX4) (N := 4) hx hb hts ilX4_removeAt_4 hown hG.1 hP 0 rfl rfl 1 (by decide) (hts (.fieldLink RX4 15 "HornEngine$Rulebook" "bodies" "[I") (List.mem_of_getElem? (i := 3) rfl)) (fun _ h9 => h9) rfl dX4_removeAt_36 ?_
          refine lv_iload_n hx hb dX4_removeAt_39 rfl (lv_at hl 2 rfl) ?_
          refine lv_iconst (v := nI 1) hx hb dX4_removeAt_40 (by decide) ?_
          refine lv_isub hx hb dX4_removeAt_41 ?_
          refine lv_eqi (nI_sub1 (by omega)) ?_
          refine lv_aload_n hx hb dX4_removeAt_42 rfl (lv_at hl 0 rfl) ?_
          refine va_get (D := D) (ci := 4) (v := .ref qb) (C := RX4) (T := TX4) (N := 4) hx hb hts ilX4_removeAt_4 hown hG.1 hP 0 rfl rfl 1 (by decide) (hts (.fieldLink RX4 15 "HornEngine$Rulebook" "bodies" "[I") (List.mem_of_getElem? (i := 3) rfl)) (fun _ h9 => h9) rfl dX4_removeAt_43 ?_
          refine lv_iload_n hx hb dX4_removeAt_46 rfl (lv_at hl 2 rfl) ?_
          refine ia_ld hx hb hG hP 2 rfl k rfl (by omega) (by decide) dX4_removeAt_47 ?_
          refine lv_eqi (rmF_at bs r k) ?_
          refine ia_st hx hb hG hP hD hS 2 rfl (k - 1) rfl (by omega) (by decide) dX4_removeAt_48 (fun H locs hP hD hS => ?_)
          rw [show upd (rmF bs r k) (k - 1) (bs k) = rmF bs r (k + 1) from rmF_st bs (by omega)] at hP hD
          have hP : va_P D vwCl [(b, .inr (4, [.ref qh, .ref qb, .int (nI n), .int as_])), (qh, .inl (cI, 24, .inl (rmF hs r (k + 1)))), (qb, .inl (cI, 24, .inl (rmF bs r (k + 1))))] H := hP
          have hD : va_D A [(b, .inr (4, [.ref qh, .ref qb, .int (nI n), .int as_])), (qh, .inl (cI, 24, .inl (rmF hs r (k + 1)))), (qb, .inl (cI, 24, .inl (rmF bs r (k + 1))))] := hD
          refine lv_iinc (v := nI (k + 1)) (lv' := [(2, .int (nI (k + 1))), (0, .ref b), (1, .int (nI r))]) hx hb dX4_removeAt_49 hl (k := 2) rfl (nI_s1 k) (by decide) rfl (fun ls hl => ?_)
          refine lv_goto (tgt := 13) hx hb dX4_removeAt_52 (by decide) ?_
          exact ih_13 (k + 1) (by omega) (by omega) (by omega) _ _ hP hD hS ls (lv_sub hl [1, 2, 0] rfl)
    exact lp_13_2 (n - (r + 1) + 1) (r + 1) (by omega) (by omega) (Nat.lt_succ_self _) _ _ hP hD hS ls (lv_sub hl [1, 2, 0] rfl)
  · skip
    have c_1 : (hasR (nI r) n) = false := bI_f.mp c_1
    exact absurd (hasR_of hr (by omega)) (by rw [c_1]; decide)
set_option maxHeartbeats 4000000 in
set_option maxRecDepth 100000 in
theorem k_X4_replaceAssumable (l : Launch) (D : va_G) (cI cB : ClassId) (b : Nat) (qh : Nat) (qb : Nat) (hs : Nat → Int32) (bs : Nat → Int32) (n : Nat) (as_ : Int32) (x : Int32) (hn : n ≤ 24) (sz : Nat) : Wr l yX4_replaceAssumable wsX4_replaceAssumable ({ frames := 0, cells := 0, slots := 0, locals := 0 }) D cI cB [.ref b, .int x] [(b, .inr (4, [.ref qh, .ref qb, .int (nI n), .int as_])), (qh, .inl (cI, 24, .inl hs)), (qb, .inl (cI, 24, .inl bs))] sz (S := Unit) (fun v u => v = some (.int as_)) (fun u => [(b, .inr (4, [.ref qh, .ref qb, .int (nI n), .int x])), (qh, .inl (cI, 24, .inl hs)), (qb, .inl (cI, 24, .inl bs))]) 0 0 := by
  refine ef_startI (cc := cX4_replaceAssumable) (maxL := 3) (by decide) rfl (Nat.le_of_ble_eq_true rfl) ?_
  intro p e s m args below meth c Q A hx hb hml hown hts hP hG hD hA hret ls hl
  have hown : s.vm.findClass RX4 = some m.cls := hown
  have hl : lv_has ls 3 [(0, .ref b), (1, .int x)] := hl
  have hS : va_S A s.heap s.heap [] := va_S.rf
  refine lv_aload_n hx hb dX4_replaceAssumable_0 rfl (lv_at hl 0 rfl) ?_
  refine va_get (D := D) (ci := 4) (v := .int as_) (C := RX4) (T := TX4) (N := 4) hx hb hts ilX4_replaceAssumable_4 hown hG.1 hP 0 rfl rfl 3 (by decide) (hts (.fieldLink RX4 26 "HornEngine$Rulebook" "assumable" "I") (List.mem_of_getElem? (i := 1) rfl)) (fun _ h9 => h9) rfl dX4_replaceAssumable_1 ?_
  refine lv_istore_n (lv' := [(2, .int as_), (0, .ref b), (1, .int x)]) hx hb dX4_replaceAssumable_4 rfl hl (by decide) rfl (fun ls hl => ?_)
  refine lv_aload_n hx hb dX4_replaceAssumable_5 rfl (lv_at hl 1 rfl) ?_
  refine lv_iload_n hx hb dX4_replaceAssumable_6 rfl (lv_at hl 2 rfl) ?_
  refine va_put (D := D) (ci := 4) (v := .int x) (ty := .int) (C := RX4) (T := TX4) (N := 4) hx hb hts ilX4_replaceAssumable_4 tyX4 tyX4_ok nmX4 hown hG.1 hP hD hS 0 rfl rfl 3 (by decide) (hts (.fieldLink RX4 26 "HornEngine$Rulebook" "assumable" "I") (List.mem_of_getElem? (i := 1) rfl)) (fun _ h9 => h9) rfl (by decide +kernel) rfl rfl (Nat.le_of_ble_eq_true rfl) dX4_replaceAssumable_7 (fun H locs hP hD hS => ?_)
  have hP : va_P D vwCl [(b, .inr (4, [.ref qh, .ref qb, .int (nI n), .int x])), (qh, .inl (cI, 24, .inl hs)), (qb, .inl (cI, 24, .inl bs))] H := hP
  have hD : va_D A [(b, .inr (4, [.ref qh, .ref qb, .int (nI n), .int x])), (qh, .inl (cI, 24, .inl hs)), (qb, .inl (cI, 24, .inl bs))] := hD
  refine lv_iload_n hx hb dX4_replaceAssumable_10 rfl (lv_at hl 0 rfl) ?_
  exact hret _ () _ _ _ _ (rfl) (hP) (hD) hS dX4_replaceAssumable_11
set_option maxHeartbeats 4000000 in
set_option maxRecDepth 100000 in
theorem k_X4_copyFrom (l : Launch) (D : va_G) (cI cB : ClassId) (b : Nat) (qh : Nat) (qb : Nat) (hs : Nat → Int32) (bs : Nat → Int32) (n : Nat) (as_ : Int32) (b2 : Nat) (qh2 : Nat) (qb2 : Nat) (hs2 : Nat → Int32) (bs2 : Nat → Int32) (n2 : Nat) (as2 : Int32) (hn2 : n2 ≤ 24) (sz : Nat) : Wr l yX4_copyFrom wsX4_copyFrom ({ frames := 0, cells := 0, slots := 0, locals := 0 }) D cI cB [.ref b, .ref b2] [(b, .inr (4, [.ref qh, .ref qb, .int (nI n), .int as_])), (qh, .inl (cI, 24, .inl hs)), (qb, .inl (cI, 24, .inl bs)), (b2, .inr (4, [.ref qh2, .ref qb2, .int (nI n2), .int as2])), (qh2, .inl (cI, 24, .inl hs2)), (qb2, .inl (cI, 24, .inl bs2))] sz (S := Unit) (fun v u => v = none) (fun u => [(b, .inr (4, [.ref qh, .ref qb, .int (nI n2), .int as2])), (qh, .inl (cI, 24, .inl (cpF hs2 hs n2))), (qb, .inl (cI, 24, .inl (cpF bs2 bs n2))), (b2, .inr (4, [.ref qh2, .ref qb2, .int (nI n2), .int as2])), (qh2, .inl (cI, 24, .inl hs2)), (qb2, .inl (cI, 24, .inl bs2))]) 0 0 := by
  refine ef_startV (cc := cX4_copyFrom) (maxL := 3) (by decide) rfl (Nat.le_of_ble_eq_true rfl) ?_
  intro p e s m args below meth c Q A hx hb hml hown hts hP hG hD hA hin hret ls hl
  have hown : s.vm.findClass RX4 = some m.cls := hown
  have hl : lv_has ls 3 [(0, .ref b), (1, .ref b2)] := hl
  have hS : va_S A s.heap s.heap [] := va_S.rf
  refine lv_iconst (v := nI 0) hx hb dX4_copyFrom_0 (by decide) ?_
  refine lv_istore_n (lv' := [(2, .int (nI 0)), (0, .ref b), (1, .ref b2)]) hx hb dX4_copyFrom_1 rfl hl (by decide) rfl (fun ls hl => ?_)
  have hP : va_P D vwCl [(b, .inr (4, [.ref qh, .ref qb, .int (nI n), .int as_])), (qh, .inl (cI, 24, .inl (cpF hs2 hs 0))), (qb, .inl (cI, 24, .inl (cpF bs2 bs 0))), (b2, .inr (4, [.ref qh2, .ref qb2, .int (nI n2), .int as2])), (qh2, .inl (cI, 24, .inl hs2)), (qb2, .inl (cI, 24, .inl bs2))] s.heap := by rw [cpF_0, cpF_0]; exact hP
  have hD : va_D A [(b, .inr (4, [.ref qh, .ref qb, .int (nI n), .int as_])), (qh, .inl (cI, 24, .inl (cpF hs2 hs 0))), (qb, .inl (cI, 24, .inl (cpF bs2 bs 0))), (b2, .inr (4, [.ref qh2, .ref qb2, .int (nI n2), .int as2])), (qh2, .inl (cI, 24, .inl hs2)), (qb2, .inl (cI, 24, .inl bs2))] := by rw [cpF_0, cpF_0]; exact hD
  have lp_2_1 : ∀ (fu_2 : Nat) (k : Nat) (hk : k ≤ n2) (hfu_2 : n2 - k < fu_2) (H : Heap) (locs : List Loc) (hP : va_P D vwCl [(b, .inr (4, [.ref qh, .ref qb, .int (nI n), .int as_])), (qh, .inl (cI, 24, .inl (cpF hs2 hs k))), (qb, .inl (cI, 24, .inl (cpF bs2 bs k))), (b2, .inr (4, [.ref qh2, .ref qb2, .int (nI n2), .int as2])), (qh2, .inl (cI, 24, .inl hs2)), (qb2, .inl (cI, 24, .inl bs2))] H) (hD : va_D A [(b, .inr (4, [.ref qh, .ref qb, .int (nI n), .int as_])), (qh, .inl (cI, 24, .inl (cpF hs2 hs k))), (qb, .inl (cI, 24, .inl (cpF bs2 bs k))), (b2, .inr (4, [.ref qh2, .ref qb2, .int (nI n2), .int as2])), (qh2, .inl (cI, 24, .inl hs2)), (qb2, .inl (cI, 24, .inl bs2))]) (hS : va_S A s.heap H locs) (ls : Array Slot) (hl : lv_has ls 3 [(0, .ref b), (1, .ref b2), (2, .int (nI k))]), W p l e ({ frames := 0, cells := 0, slots := 0, locals := 0 }) s m args below meth c H locs 0 0 Q (F0 m 2 ls []) := by
    intro fu_2
    induction fu_2 with
    | zero => intro k hk hfu; exact absurd hfu (Nat.not_lt_zero _)
    | succ fu_2 ih_2 =>
      intro k hk hfu_2 H locs hP hD hS ls hl
      refine lv_iload_n hx hb dX4_copyFrom_2 rfl (lv_at hl 2 rfl) ?_
      refine lv_aload_n hx hb dX4_copyFrom_3 rfl (lv_at hl 1 rfl) ?_
      refine va_get (D := D) (ci := 4) (v := .int (nI n2)) (C := RX4) (T := TX4) (N := 4) hx hb hts ilX4_copyFrom_4 hown hG.1 hP 3 rfl rfl 2 (by decide) (hts (.fieldLink RX4 18 "HornEngine$Rulebook" "count" "I") (List.mem_of_getElem? (i := 1) rfl)) (fun _ h9 => h9) rfl dX4_copyFrom_4 ?_
      refine lv_icmp_ge (tgt := 40) hx hb dX4_copyFrom_7 (by decide) (fun c_2 => ?_) (fun c_2 => ?_)
      · skip
        have c_2 : n2 ≤ k := (nI_leI (by omega) (by omega)).mp (show nI n2 ≤ nI k from c_2)
        refine lv_aload_n hx hb dX4_copyFrom_40 rfl (lv_at hl 0 rfl) ?_
        refine lv_aload_n hx hb dX4_copyFrom_41 rfl (lv_at hl 1 rfl) ?_
        refine va_get (D := D) (ci := 4) (v := .int (nI n2)) (C := RX4) (T := TX4) (N := 4) hx hb hts ilX4_copyFrom_4 hown hG.1 hP 3 rfl rfl 2 (by decide) (hts (.fieldLink RX4 18 "HornEngine$Rulebook" "count" "I") (List.mem_of_getElem? (i := 1) rfl)) (fun _ h9 => h9) rfl dX4_copyFrom_42 ?_
        refine va_put (D := D) (ci := 4) (v := .int (nI n2)) (ty := .int) (C := RX4) (T := TX4) (N := 4) hx hb hts ilX4_copyFrom_4 tyX4 tyX4_ok nmX4 hown hG.1 hP hD hS 0 rfl rfl 2 (by decide) (hts (.fieldLink RX4 18 "HornEngine$Rulebook" "count" "I") (List.mem_of_getElem? (i := 1) rfl)) (fun _ h9 => h9) rfl (by decide +kernel) rfl rfl (Nat.le_of_ble_eq_true rfl) dX4_copyFrom_45 (fun H locs hP hD hS => ?_)
        have hP : va_P D vwCl [(b, .inr (4, [.ref qh, .ref qb, .int (nI n2), .int as_])), (qh, .inl (cI, 24, .inl (cpF hs2 hs k))), (qb, .inl (cI, 24, .inl (cpF bs2 bs k))), (b2, .inr (4, [.ref qh2, .ref qb2, .int (nI n2), .int as2])), (qh2, .inl (cI, 24, .inl hs2)), (qb2, .inl (cI, 24, .inl bs2))] H := hP
        have hD : va_D A [(b, .inr (4, [.ref qh, .ref qb, .int (nI n2), .int as_])), (qh, .inl (cI, 24, .inl (cpF hs2 hs k))), (qb, .inl (cI, 24, .inl (cpF bs2 bs k))), (b2, .inr (4, [.ref qh2, .ref qb2, .int (nI n2), .int as2])), (qh2, .inl (cI, 24, .inl hs2)), (qb2, .inl (cI, 24, .inl bs2))] := hD
        refine lv_aload_n hx hb dX4_copyFrom_48 rfl (lv_at hl 0 rfl) ?_
        refine lv_aload_n hx hb dX4_copyFrom_49 rfl (lv_at hl 1 rfl) ?_
        refine va_get (D := D) (ci := 4) (v := .int as2) (C := RX4) (T := TX4) (N := 4) hx hb hts ilX4_copyFrom_4 hown hG.1 hP 3 rfl rfl 3 (by decide) (hts (.fieldLink RX4 26 "HornEngine$Rulebook" "assumable" "I") (List.mem_of_getElem? (i := 4) rfl)) (fun _ h9 => h9) rfl dX4_copyFrom_50 ?_
        refine va_put (D := D) (ci := 4) (v := .int as2) (ty := .int) (C := RX4) (T := TX4) (N := 4) hx hb hts ilX4_copyFrom_4 tyX4 tyX4_ok nmX4 hown hG.1 hP hD hS 0 rfl rfl 3 (by decide) (hts (.fieldLink RX4 26 "HornEngine$Rulebook" "assumable" "I") (List.mem_of_getElem? (i := 4) rfl)) (fun _ h9 => h9) rfl (by decide +kernel) rfl rfl (Nat.le_of_ble_eq_true rfl) dX4_copyFrom_53 (fun H locs hP hD hS => ?_)
        have hP : va_P D vwCl [(b, .inr (4, [.ref qh, .ref qb, .int (nI n2), .int as2])), (qh, .inl (cI, 24, .inl (cpF hs2 hs k))), (qb, .inl (cI, 24, .inl (cpF bs2 bs k))), (b2, .inr (4, [.ref qh2, .ref qb2, .int (nI n2), .int as2])), (qh2, .inl (cI, 24, .inl hs2)), (qb2, .inl (cI, 24, .inl bs2))] H := hP
        have hD : va_D A [(b, .inr (4, [.ref qh, .ref qb, .int (nI n2), .int as2])), (qh, .inl (cI, 24, .inl (cpF hs2 hs k))), (qb, .inl (cI, 24, .inl (cpF bs2 bs k))), (b2, .inr (4, [.ref qh2, .ref qb2, .int (nI n2), .int as2])), (qh2, .inl (cI, 24, .inl hs2)), (qb2, .inl (cI, 24, .inl bs2))] := hD
        exact hret () _ _ _ _ (rfl) (by rw [show n2 = k from by omega]; rw [show n2 = k from by omega] at hP; exact hP) (by rw [show n2 = k from by omega]; rw [show n2 = k from by omega] at hD; exact hD) hS dX4_copyFrom_56
      · skip
        have c_2 : ¬ (n2 ≤ k) := fun h9 => (show ¬ (nI n2 ≤ nI k) from c_2) ((nI_leI (by omega) (by omega)).mpr h9)
        refine lv_aload_n hx hb dX4_copyFrom_10 rfl (lv_at hl 0 rfl) ?_
        refine va_get (D := D) (ci := 4) (v := .ref qh) (C := RX4) (T := TX4) (N := 4) hx hb hts ilX4_copyFrom_4 hown hG.1 hP 0 rfl rfl 0 (by decide) (hts (.fieldLink RX4 9 "HornEngine$Rulebook" "heads" "[I") (List.mem_of_getElem? (i := 2) rfl)) (fun _ h9 => h9) rfl dX4_copyFrom_11 ?_
        refine lv_iload_n hx hb dX4_copyFrom_14 rfl (lv_at hl 2 rfl) ?_
        refine lv_aload_n hx hb dX4_copyFrom_15 rfl (lv_at hl 1 rfl) ?_
        refine va_get (D := D) (ci := 4) (v := .ref qh2) (C := RX4) (T := TX4) (N := 4) hx hb hts ilX4_copyFrom_4 hown hG.1 hP 3 rfl rfl 0 (by decide) (hts (.fieldLink RX4 9 "HornEngine$Rulebook" "heads" "[I") (List.mem_of_getElem? (i := 2) rfl)) (fun _ h9 => h9) rfl dX4_copyFrom_16 ?_
        refine lv_iload_n hx hb dX4_copyFrom_19 rfl (lv_at hl 2 rfl) ?_
        refine ia_ld hx hb hG hP 4 rfl k rfl (by omega) (by decide) dX4_copyFrom_20 ?_
        refine ia_st hx hb hG hP hD hS 1 rfl k rfl (by omega) (by decide) dX4_copyFrom_21 (fun H locs hP hD hS => ?_)
        rw [show upd (cpF hs2 hs k) k (hs2 k) = cpF hs2 hs (k + 1) from cpF_st hs2 hs k] at hP hD
        have hP : va_P D vwCl [(b, .inr (4, [.ref qh, .ref qb, .int (nI n), .int as_])), (qh, .inl (cI, 24, .inl (cpF hs2 hs (k + 1)))), (qb, .inl (cI, 24, .inl (cpF bs2 bs k))), (b2, .inr (4, [.ref qh2, .ref qb2, .int (nI n2), .int as2])), (qh2, .inl (cI, 24, .inl hs2)), (qb2, .inl (cI, 24, .inl bs2))] H := hP
        have hD : va_D A [(b, .inr (4, [.ref qh, .ref qb, .int (nI n), .int as_])), (qh, .inl (cI, 24, .inl (cpF hs2 hs (k + 1)))), (qb, .inl (cI, 24, .inl (cpF bs2 bs k))), (b2, .inr (4, [.ref qh2, .ref qb2, .int (nI n2), .int as2])), (qh2, .inl (cI, 24, .inl hs2)), (qb2, .inl (cI, 24, .inl bs2))] := hD
        refine lv_aload_n hx hb dX4_copyFrom_22 rfl (lv_at hl 0 rfl) ?_
        refine va_get (D := D) (ci := 4) (v := .ref qb) (C := RX4) (T := TX4) (N := 4) hx hb hts ilX4_copyFrom_4 hown hG.1 hP 0 rfl rfl 1 (by decide) (hts (.fieldLink RX4 15 "HornEngine$Rulebook" "bodies" "[I") (List.mem_of_getElem? (i := 3) rfl)) (fun _ h9 => h9) rfl dX4_copyFrom_23 ?_
        refine lv_iload_n hx hb dX4_copyFrom_26 rfl (lv_at hl 2 rfl) ?_
        refine lv_aload_n hx hb dX4_copyFrom_27 rfl (lv_at hl 1 rfl) ?_
        refine va_get (D := D) (ci := 4) (v := .ref qb2) (C := RX4) (T := TX4) (N := 4) hx hb hts ilX4_copyFrom_4 hown hG.1 hP 3 rfl rfl 1 (by decide) (hts (.fieldLink RX4 15 "HornEngine$Rulebook" "bodies" "[I") (List.mem_of_getElem? (i := 3) rfl)) (fun _ h9 => h9) rfl dX4_copyFrom_28 ?_
        refine lv_iload_n hx hb dX4_copyFrom_31 rfl (lv_at hl 2 rfl) ?_
        refine ia_ld hx hb hG hP 5 rfl k rfl (by omega) (by decide) dX4_copyFrom_32 ?_
        refine ia_st hx hb hG hP hD hS 2 rfl k rfl (by omega) (by decide) dX4_copyFrom_33 (fun H locs hP hD hS => ?_)
        rw [show upd (cpF bs2 bs k) k (bs2 k) = cpF bs2 bs (k + 1) from cpF_st bs2 bs k] at hP hD
        have hP : va_P D vwCl [(b, .inr (4, [.ref qh, .ref qb, .int (nI n), .int as_])), (qh, .inl (cI, 24, .inl (cpF hs2 hs (k + 1)))), (qb, .inl (cI, 24, .inl (cpF bs2 bs (k + 1)))), (b2, .inr (4, [.ref qh2, .ref qb2, .int (nI n2), .int as2])), (qh2, .inl (cI, 24, .inl hs2)), (qb2, .inl (cI, 24, .inl bs2))] H := hP
        have hD : va_D A [(b, .inr (4, [.ref qh, .ref qb, .int (nI n), .int as_])), (qh, .inl (cI, 24, .inl (cpF hs2 hs (k + 1)))), (qb, .inl (cI, 24, .inl (cpF bs2 bs (k + 1)))), (b2, .inr (4, [.ref qh2, .ref qb2, .int (nI n2), .int as2])), (qh2, .inl (cI, 24, .inl hs2)), (qb2, .inl (cI, 24, .inl bs2))] := hD
        refine lv_iinc (v := nI (k + 1)) (lv' := [(2, .int (nI (k + 1))), (0, .ref b), (1, .ref b2)]) hx hb dX4_copyFrom_34 hl (k := 2) rfl (nI_s1 k) (by decide) rfl (fun ls hl => ?_)
        refine lv_goto (tgt := 2) hx hb dX4_copyFrom_37 (by decide) ?_
        exact ih_2 (k + 1) (by omega) (by omega) _ _ hP hD hS ls (lv_sub hl [1, 2, 0] rfl)
  exact lp_2_1 (n2 - 0 + 1) 0 (by omega) (Nat.lt_succ_self _) _ _ hP hD hS ls (lv_sub hl [1, 2, 0] rfl)
