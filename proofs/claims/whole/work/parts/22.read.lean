theorem ilX3_errorAt_3 : ∀ w ∈ u_ws RX3 TX3 3, w ∈ wsX3_errorAt := by decide +kernel
theorem ilX3_refuse_3 : ∀ w ∈ u_ws RX3 TX3 3, w ∈ wsX3_refuse := by decide +kernel
theorem ilX3_skipSpaces_3 : ∀ w ∈ u_ws RX3 TX3 3, w ∈ wsX3_skipSpaces := by decide +kernel
theorem ilX3_readAtom_3 : ∀ w ∈ u_ws RX3 TX3 3, w ∈ wsX3_readAtom := by decide +kernel
theorem ilX3_take_3 : ∀ w ∈ u_ws RX3 TX3 3, w ∈ wsX3_take := by decide +kernel
theorem ilX3_readBody_3 : ∀ w ∈ u_ws RX3 TX3 3, w ∈ wsX3_readBody := by decide +kernel
theorem ilX3_copyResultTo_3 : ∀ w ∈ u_ws RX3 TX3 3, w ∈ wsX3_copyResultTo := by decide +kernel
theorem ilX3_readRule_3 : ∀ w ∈ u_ws RX3 TX3 3, w ∈ wsX3_readRule := by decide +kernel
theorem ilX3_readOnto_3 : ∀ w ∈ u_ws RX3 TX3 3, w ∈ wsX3_readOnto := by decide +kernel
set_option maxHeartbeats 4000000 in
set_option maxRecDepth 100000 in
theorem k_X3_isDigit (l : Launch) (D : va_G) (cI cB : ClassId) (c_ : Int32) : Rd l yX3_isDigit wsX3_isDigit ({ frames := 0, cells := 0, slots := 0, locals := 0 }) D cI cB [.int c_] [] (.int (bI (isD c_))) := by
  refine pu_startZ (cc := cX3_isDigit) (maxL := 1) (by decide) rfl (Nat.le_of_ble_eq_true rfl) ?_
  intro p e s m args below meth c Q hx hb hml hown hts hP hG hret ls hl
  have hown : s.vm.findClass RX3 = some m.cls := hown
  have hl : lv_has ls 1 [(0, .int c_)] := hl
  refine lv_iload_n hx hb dX3_isDigit_0 rfl (lv_at hl 0 rfl) ?_
  refine lv_bipush (v := nI 48) hx hb dX3_isDigit_1 (by decide) ?_
  refine lv_icmp_lt (tgt := 16) hx hb dX3_isDigit_3 (by decide) (fun c_1 => ?_) (fun c_1 => ?_)
  · skip
    refine lv_iconst (v := nI 0) hx hb dX3_isDigit_16 (by decide) ?_
    exact hret _ _ _ (bI_0 (decide_eq_false (by simp only [decide_true, decide_false, reduceIte, Bool.false_eq_true, not_true_eq_false, not_false_eq_true, and_self, and_true, true_and, and_false, false_and, c_1]))) dX3_isDigit_17
  · skip
    refine lv_iload_n hx hb dX3_isDigit_6 rfl (lv_at hl 0 rfl) ?_
    refine lv_bipush (v := nI 57) hx hb dX3_isDigit_7 (by decide) ?_
    refine lv_icmp_gt (tgt := 16) hx hb dX3_isDigit_9 (by decide) (fun c_2 => ?_) (fun c_2 => ?_)
    · skip
      refine lv_iconst (v := nI 0) hx hb dX3_isDigit_16 (by decide) ?_
      exact hret _ _ _ (bI_0 (decide_eq_false (by simp only [decide_true, decide_false, reduceIte, Bool.false_eq_true, not_true_eq_false, not_false_eq_true, and_self, and_true, true_and, and_false, false_and, c_1, c_2]))) dX3_isDigit_17
    · skip
      refine lv_iconst (v := nI 1) hx hb dX3_isDigit_12 (by decide) ?_
      refine lv_goto (tgt := 17) hx hb dX3_isDigit_13 (by decide) ?_
      exact hret _ _ _ (bI_1 (decide_eq_true (by simp only [decide_true, decide_false, reduceIte, Bool.false_eq_true, not_true_eq_false, not_false_eq_true, and_self, and_true, true_and, and_false, false_and, c_1, c_2]))) dX3_isDigit_17
set_option maxHeartbeats 4000000 in
set_option maxRecDepth 100000 in
theorem k_X3_errorAt (l : Launch) (D : va_G) (cI cB : ClassId) (rr : Nat) (dr : Nat) (pos : Nat) (err : Int32) : Rd l yX3_errorAt wsX3_errorAt ({ frames := 0, cells := 0, slots := 0, locals := 0 }) D cI cB [.ref rr] [(rr, .inr (3, [.ref dr, .int (nI pos), .int err]))] (.int err) := by
  refine pu_startI (cc := cX3_errorAt) (maxL := 1) (by decide) rfl (Nat.le_of_ble_eq_true rfl) ?_
  intro p e s m args below meth c Q hx hb hml hown hts hP hG hret ls hl
  have hown : s.vm.findClass RX3 = some m.cls := hown
  have hl : lv_has ls 1 [(0, .ref rr)] := hl
  refine lv_aload_n hx hb dX3_errorAt_0 rfl (lv_at hl 0 rfl) ?_
  refine va_get (D := D) (ci := 3) (v := .int err) (C := RX3) (T := TX3) (N := 3) hx hb hts ilX3_errorAt_3 hown hG.1 hP 0 rfl rfl 2 (by decide) (hts (.fieldLink RX3 18 "HornEngine$RuleReader" "errorPosition" "I") (List.mem_of_getElem? (i := 1) rfl)) (fun _ h9 => h9) rfl dX3_errorAt_1 ?_
  exact hret _ _ _ rfl dX3_errorAt_4
set_option maxHeartbeats 4000000 in
set_option maxRecDepth 100000 in
theorem k_X3_refuse (l : Launch) (D : va_G) (cI cB : ClassId) (rr : Nat) (dr : Nat) (pos : Nat) (err : Int32) (x : Int32) (sz : Nat) : Wr l yX3_refuse wsX3_refuse ({ frames := 0, cells := 0, slots := 0, locals := 0 }) D cI cB [.ref rr, .int x] [(rr, .inr (3, [.ref dr, .int (nI pos), .int err]))] sz (S := Unit) (fun v u => v = some (.int (-1))) (fun u => [(rr, .inr (3, [.ref dr, .int (nI pos), .int x]))]) 0 0 := by
  refine ef_startI (cc := cX3_refuse) (maxL := 2) (by decide) rfl (Nat.le_of_ble_eq_true rfl) ?_
  intro p e s m args below meth c Q A hx hb hml hown hts hP hG hD hA hret ls hl
  have hown : s.vm.findClass RX3 = some m.cls := hown
  have hl : lv_has ls 2 [(0, .ref rr), (1, .int x)] := hl
  have hS : va_S A s.heap s.heap [] := va_S.rf
  refine lv_aload_n hx hb dX3_refuse_0 rfl (lv_at hl 0 rfl) ?_
  refine lv_iload_n hx hb dX3_refuse_1 rfl (lv_at hl 1 rfl) ?_
  refine va_put (D := D) (ci := 3) (v := .int x) (ty := .int) (C := RX3) (T := TX3) (N := 3) hx hb hts ilX3_refuse_3 tyX3 tyX3_ok nmX3 hown hG.1 hP hD hS 0 rfl rfl 2 (by decide) (hts (.fieldLink RX3 18 "HornEngine$RuleReader" "errorPosition" "I") (List.mem_of_getElem? (i := 1) rfl)) (fun _ h9 => h9) rfl (by decide +kernel) rfl rfl (Nat.le_of_ble_eq_true rfl) dX3_refuse_2 (fun H locs hP hD hS => ?_)
  have hP : va_P D vwCl [(rr, .inr (3, [.ref dr, .int (nI pos), .int x]))] H := hP
  have hD : va_D A [(rr, .inr (3, [.ref dr, .int (nI pos), .int x]))] := hD
  refine lv_iconst (v := (-1)) hx hb dX3_refuse_5 (by decide) ?_
  exact hret _ () _ _ _ _ (rfl) (hP) (hD) hS dX3_refuse_6
set_option maxHeartbeats 4000000 in
set_option maxRecDepth 100000 in
theorem k_X3_skipSpaces (l : Launch) (D : va_G) (cI cB : ClassId) (rr : Nat) (dr : Nat) (pos : Nat) (err : Int32) (ro : Nat) (qi : Nat) (it : Nat → Int32) (cn : Nat) (hcn : cn ≤ 120) (hpos : pos ≤ cn) (sz : Nat) : Wr l yX3_skipSpaces wsX3_skipSpaces ({ frames := 1, cells := 0, slots := 0, locals := 21 }) D cI cB [.ref rr, .ref ro] [(rr, .inr (3, [.ref dr, .int (nI pos), .int err])), (ro, .inr (2, [.ref qi, .int (nI cn)])), (qi, .inl (cI, 120, .inl it))] sz (S := Unit) (fun v u => v = none) (fun u => [(rr, .inr (3, [.ref dr, .int (nI (skp it cn pos)), .int err])), (ro, .inr (2, [.ref qi, .int (nI cn)])), (qi, .inl (cI, 120, .inl it))]) 0 0 := by
  refine ef_startV (cc := cX3_skipSpaces) (maxL := 2) (by decide) rfl (Nat.le_of_ble_eq_true rfl) ?_
  intro p e s m args below meth c Q A hx hb hml hown hts hP hG hD hA hin hret ls hl
  have hown : s.vm.findClass RX3 = some m.cls := hown
  have hl : lv_has ls 2 [(0, .ref rr), (1, .ref ro)] := hl
  have hS : va_S A s.heap s.heap [] := va_S.rf
  have lp_0_1 : ∀ (fu_0 : Nat) (p1 : Nat) (hp1 : p1 ≤ cn) (e1 : skp it cn p1 = skp it cn pos) (hfu_0 : cn - p1 < fu_0) (H : Heap) (locs : List Loc) (hP : va_P D vwCl [(rr, .inr (3, [.ref dr, .int (nI p1), .int err])), (ro, .inr (2, [.ref qi, .int (nI cn)])), (qi, .inl (cI, 120, .inl it))] H) (hD : va_D A [(rr, .inr (3, [.ref dr, .int (nI p1), .int err])), (ro, .inr (2, [.ref qi, .int (nI cn)])), (qi, .inl (cI, 120, .inl it))]) (hS : va_S A s.heap H locs) (ls : Array Slot) (hl : lv_has ls 2 [(0, .ref rr), (1, .ref ro)]), W p l e ({ frames := 1, cells := 0, slots := 0, locals := 21 }) s m args below meth c H locs 0 0 Q (F0 m 0 ls []) := by
    intro fu_0
    induction fu_0 with
    | zero => intro p1 hp1 e1 hfu; exact absurd hfu (Nat.not_lt_zero _)
    | succ fu_0 ih_0 =>
      intro p1 hp1 e1 hfu_0 H locs hP hD hS ls hl
      refine lv_aload_n hx hb dX3_skipSpaces_0 rfl (lv_at hl 0 rfl) ?_
      refine va_get (D := D) (ci := 3) (v := .int (nI p1)) (C := RX3) (T := TX3) (N := 3) hx hb hts ilX3_skipSpaces_3 hown hG.1 hP 0 rfl rfl 1 (by decide) (hts (.fieldLink RX3 26 "HornEngine$RuleReader" "position" "I") (List.mem_of_getElem? (i := 1) rfl)) (fun _ h9 => h9) rfl dX3_skipSpaces_1 ?_
      refine lv_aload_n hx hb dX3_skipSpaces_4 rfl (lv_at hl 1 rfl) ?_
      refine pu_V (As := []) (rest := [.int (nI p1)]) ⟨hx, hb, hml, hown, hts⟩ hG hP (k_X2_size l D cI cB ro qi it cn 120 (by decide) (by omega)) (cwV 0 hts gX3_skipSpaces_X2_size rfl rfl rfl (by decide +kernel) ⟨(Nat.le_of_ble_eq_true rfl), (Nat.le_of_ble_eq_true rfl)⟩) [1, 2] rfl 1 rfl rfl rfl rfl hl.1 rfl (Nat.le_of_ble_eq_true rfl) dX3_skipSpaces_5 ⟨Nat.zero_le _, Nat.zero_le _⟩ ?_
      refine lv_icmp_ge (tgt := 37) hx hb dX3_skipSpaces_8 (by decide) (fun c_2 => ?_) (fun c_2 => ?_)
      · skip
        have c_2 : cn ≤ p1 := (nI_leI (by omega) (by omega)).mp (show nI cn ≤ nI p1 from c_2)
        have hst : skp it cn pos = p1 := by rw [← e1]; exact skp_stop (fun q => by omega)
        exact hret () _ _ _ _ (rfl) (by rw [hst]; exact hP) (by rw [hst]; exact hD) hS dX3_skipSpaces_37
      · skip
        have c_2 : ¬ (cn ≤ p1) := fun h9 => (show ¬ (nI cn ≤ nI p1) from c_2) ((nI_leI (by omega) (by omega)).mpr h9)
        have hlt : p1 < cn := by omega
        refine lv_aload_n hx hb dX3_skipSpaces_11 rfl (lv_at hl 1 rfl) ?_
        refine lv_aload_n hx hb dX3_skipSpaces_12 rfl (lv_at hl 0 rfl) ?_
        refine va_get (D := D) (ci := 3) (v := .int (nI p1)) (C := RX3) (T := TX3) (N := 3) hx hb hts ilX3_skipSpaces_3 hown hG.1 hP 0 rfl rfl 1 (by decide) (hts (.fieldLink RX3 26 "HornEngine$RuleReader" "position" "I") (List.mem_of_getElem? (i := 1) rfl)) (fun _ h9 => h9) rfl dX3_skipSpaces_13 ?_
        refine pu_V (As := [.int (nI p1)]) (rest := []) ⟨hx, hb, hml, hown, hts⟩ hG hP (k_X2_itemAt l D cI cB ro qi it cn 120 (nI p1) (by decide) (by omega)) (cwV 1 hts gX3_skipSpaces_X2_itemAt rfl rfl rfl (by decide +kernel) ⟨(Nat.le_of_ble_eq_true rfl), (Nat.le_of_ble_eq_true rfl)⟩) [1, 2] rfl 1 rfl rfl rfl rfl hl.1 rfl (Nat.le_of_ble_eq_true rfl) dX3_skipSpaces_16 ⟨Nat.zero_le _, Nat.zero_le _⟩ ?_
        refine lv_eqi (itm_tc it (by omega) (by omega)) ?_
        refine lv_bipush (v := nI 32) hx hb dX3_skipSpaces_19 (by decide) ?_
        refine lv_icmp_ne (tgt := 37) hx hb dX3_skipSpaces_21 (by decide) (fun c_3 => ?_) (fun c_3 => ?_)
        · skip
          have hst : skp it cn pos = p1 := by rw [← e1]; exact skp_stop (fun q => c_3 (by rw [tc, if_pos q.1]; exact q.2))
          exact hret () _ _ _ _ (rfl) (by rw [hst]; exact hP) (by rw [hst]; exact hD) hS dX3_skipSpaces_37
        · skip
          have h32 : it p1 = nI 32 := by rw [tc, if_pos hlt] at c_3; exact c_3
          refine lv_aload_n hx hb dX3_skipSpaces_24 rfl (lv_at hl 0 rfl) ?_
          refine lv_dup hx hb dX3_skipSpaces_25 rfl ?_
          refine va_get (D := D) (ci := 3) (v := .int (nI p1)) (C := RX3) (T := TX3) (N := 3) hx hb hts ilX3_skipSpaces_3 hown hG.1 hP 0 rfl rfl 1 (by decide) (hts (.fieldLink RX3 26 "HornEngine$RuleReader" "position" "I") (List.mem_of_getElem? (i := 1) rfl)) (fun _ h9 => h9) rfl dX3_skipSpaces_26 ?_
          refine lv_iconst (v := nI 1) hx hb dX3_skipSpaces_29 (by decide) ?_
          refine lv_iadd hx hb dX3_skipSpaces_30 ?_
          refine lv_eqi (nI_add p1 1) ?_
          refine va_put (D := D) (ci := 3) (v := .int (nI (p1 + 1))) (ty := .int) (C := RX3) (T := TX3) (N := 3) hx hb hts ilX3_skipSpaces_3 tyX3 tyX3_ok nmX3 hown hG.1 hP hD hS 0 rfl rfl 1 (by decide) (hts (.fieldLink RX3 26 "HornEngine$RuleReader" "position" "I") (List.mem_of_getElem? (i := 1) rfl)) (fun _ h9 => h9) rfl (by decide +kernel) rfl rfl (Nat.le_of_ble_eq_true rfl) dX3_skipSpaces_31 (fun H locs hP hD hS => ?_)
          have hP : va_P D vwCl [(rr, .inr (3, [.ref dr, .int (nI (p1 + 1)), .int err])), (ro, .inr (2, [.ref qi, .int (nI cn)])), (qi, .inl (cI, 120, .inl it))] H := hP
          have hD : va_D A [(rr, .inr (3, [.ref dr, .int (nI (p1 + 1)), .int err])), (ro, .inr (2, [.ref qi, .int (nI cn)])), (qi, .inl (cI, 120, .inl it))] := hD
          refine lv_goto (tgt := 0) hx hb dX3_skipSpaces_34 (by decide) ?_
          exact ih_0 (p1 + 1) (by omega) (by rw [← skp_go hlt h32]; exact e1) (by omega) _ _ hP hD hS ls (lv_sub hl [0, 1] rfl)
  exact lp_0_1 (cn - pos + 1) pos (by omega) rfl (Nat.lt_succ_self _) _ _ hP hD hS ls (lv_sub hl [0, 1] rfl)
set_option maxHeartbeats 4000000 in
set_option maxRecDepth 100000 in
theorem k_X3_readAtom (l : Launch) (D : va_G) (cI cB : ClassId) (rr : Nat) (dr : Nat) (pos : Nat) (err : Int32) (ro : Nat) (qi : Nat) (it : Nat → Int32) (cn : Nat) (hcn : cn ≤ 120) (hpos : pos ≤ cn) (sz : Nat) : Wr l yX3_readAtom wsX3_readAtom ({ frames := 1, cells := 0, slots := 0, locals := 21 }) D cI cB [.ref rr, .ref ro] [(rr, .inr (3, [.ref dr, .int (nI pos), .int err])), (ro, .inr (2, [.ref qi, .int (nI cn)])), (qi, .inl (cI, 120, .inl it))] sz (S := Int32 × Nat × Int32) (fun v u => v = some (.int u.1) ∧ (rdR (rdA it cn pos) u.1 u.2.1 u.2.2 ∧ u.2.1 ≤ cn)) (fun u => [(rr, .inr (3, [.ref dr, .int (nI u.2.1), .int u.2.2])), (ro, .inr (2, [.ref qi, .int (nI cn)])), (qi, .inl (cI, 120, .inl it))]) 0 0 := by
  refine ef_startI (cc := cX3_readAtom) (maxL := 4) (by decide) rfl (Nat.le_of_ble_eq_true rfl) ?_
  intro p e s m args below meth c Q A hx hb hml hown hts hP hG hD hA hret ls hl
  have hown : s.vm.findClass RX3 = some m.cls := hown
  have hl : lv_has ls 4 [(0, .ref rr), (1, .ref ro)] := hl
  have hS : va_S A s.heap s.heap [] := va_S.rf
  refine lv_aload_n hx hb dX3_readAtom_0 rfl (lv_at hl 0 rfl) ?_
  refine va_get (D := D) (ci := 3) (v := .int (nI pos)) (C := RX3) (T := TX3) (N := 3) hx hb hts ilX3_readAtom_3 hown hG.1 hP 0 rfl rfl 1 (by decide) (hts (.fieldLink RX3 26 "HornEngine$RuleReader" "position" "I") (List.mem_of_getElem? (i := 1) rfl)) (fun _ h9 => h9) rfl dX3_readAtom_1 ?_
  refine lv_istore_n (lv' := [(2, .int (nI pos)), (0, .ref rr), (1, .ref ro)]) hx hb dX3_readAtom_4 rfl hl (by decide) rfl (fun ls hl => ?_)
  refine lv_aload_n hx hb dX3_readAtom_5 rfl (lv_at hl 2 rfl) ?_
  refine lv_iload_n hx hb dX3_readAtom_6 rfl (lv_at hl 0 rfl) ?_
  refine pu_V (As := [.int (nI pos)]) (rest := []) ⟨hx, hb, hml, hown, hts⟩ hG hP (k_X2_itemAt l D cI cB ro qi it cn 120 (nI pos) (by decide) (by omega)) (cwV 1 hts gX3_readAtom_X2_itemAt rfl rfl rfl (by decide +kernel) ⟨(Nat.le_of_ble_eq_true rfl), (Nat.le_of_ble_eq_true rfl)⟩) [1, 2] rfl 1 rfl rfl rfl rfl hl.1 rfl (Nat.le_of_ble_eq_true rfl) dX3_readAtom_7 ⟨Nat.zero_le _, Nat.zero_le _⟩ ?_
  refine lv_eqi (itm_tc it (by omega) (by omega)) ?_
  refine pu_S (As := [.int (tc it cn pos)]) (rest := []) ⟨hx, hb, hml, hown, hts⟩ hG hP (k_X3_isDigit l D cI cB (tc it cn pos) ) (cwS 1 hts gX3_readAtom_X3_isDigit rfl rfl rfl (by decide +kernel) ⟨(Nat.le_of_ble_eq_true rfl), (Nat.le_of_ble_eq_true rfl)⟩) [] rfl rfl hl.1 rfl (Nat.le_of_ble_eq_true rfl) dX3_readAtom_10 ⟨Nat.zero_le _, Nat.zero_le _⟩ ?_
  refine lv_if_ne (tgt := 22) hx hb dX3_readAtom_13 (by decide) (fun c_1 => ?_) (fun c_1 => ?_)
  · skip
    have c_1 : (isD (tc it cn pos)) = true := bI_t.mp c_1
    have h1 : isD (tc it cn pos) = true := c_1
    have hl1 := isD_lt h1
    refine lv_aload_n hx hb dX3_readAtom_22 rfl (lv_at hl 2 rfl) ?_
    refine lv_iload_n hx hb dX3_readAtom_23 rfl (lv_at hl 0 rfl) ?_
    refine pu_V (As := [.int (nI pos)]) (rest := []) ⟨hx, hb, hml, hown, hts⟩ hG hP (k_X2_itemAt l D cI cB ro qi it cn 120 (nI pos) (by decide) (by omega)) (cwV 1 hts gX3_readAtom_X2_itemAt rfl rfl rfl (by decide +kernel) ⟨(Nat.le_of_ble_eq_true rfl), (Nat.le_of_ble_eq_true rfl)⟩) [1, 2] rfl 1 rfl rfl rfl rfl hl.1 rfl (Nat.le_of_ble_eq_true rfl) dX3_readAtom_24 ⟨Nat.zero_le _, Nat.zero_le _⟩ ?_
    refine lv_eqi (itm_tc it (by omega) (by omega)) ?_
    refine lv_bipush (v := nI 48) hx hb dX3_readAtom_27 (by decide) ?_
    refine lv_isub hx hb dX3_readAtom_29 ?_
    refine lv_istore_n (lv' := [(3, .int ((tc it cn pos) - (nI 48))), (2, .int (nI pos)), (0, .ref rr), (1, .ref ro)]) hx hb dX3_readAtom_30 rfl hl (by decide) rfl (fun ls hl => ?_)
    refine lv_aload_n hx hb dX3_readAtom_31 rfl (lv_at hl 2 rfl) ?_
    refine lv_dup hx hb dX3_readAtom_32 rfl ?_
    refine va_get (D := D) (ci := 3) (v := .int (nI pos)) (C := RX3) (T := TX3) (N := 3) hx hb hts ilX3_readAtom_3 hown hG.1 hP 0 rfl rfl 1 (by decide) (hts (.fieldLink RX3 26 "HornEngine$RuleReader" "position" "I") (List.mem_of_getElem? (i := 1) rfl)) (fun _ h9 => h9) rfl dX3_readAtom_33 ?_
    refine lv_iconst (v := nI 1) hx hb dX3_readAtom_36 (by decide) ?_
    refine lv_iadd hx hb dX3_readAtom_37 ?_
    refine lv_eqi (nI_add pos 1) ?_
    refine va_put (D := D) (ci := 3) (v := .int (nI (pos + 1))) (ty := .int) (C := RX3) (T := TX3) (N := 3) hx hb hts ilX3_readAtom_3 tyX3 tyX3_ok nmX3 hown hG.1 hP hD hS 0 rfl rfl 1 (by decide) (hts (.fieldLink RX3 26 "HornEngine$RuleReader" "position" "I") (List.mem_of_getElem? (i := 1) rfl)) (fun _ h9 => h9) rfl (by decide +kernel) rfl rfl (Nat.le_of_ble_eq_true rfl) dX3_readAtom_38 (fun H locs hP hD hS => ?_)
    have hP : va_P D vwCl [(rr, .inr (3, [.ref dr, .int (nI (pos + 1)), .int err])), (ro, .inr (2, [.ref qi, .int (nI cn)])), (qi, .inl (cI, 120, .inl it))] H := hP
    have hD : va_D A [(rr, .inr (3, [.ref dr, .int (nI (pos + 1)), .int err])), (ro, .inr (2, [.ref qi, .int (nI cn)])), (qi, .inl (cI, 120, .inl it))] := hD
    refine lv_aload_n hx hb dX3_readAtom_41 rfl (lv_at hl 3 rfl) ?_
    refine lv_aload_n hx hb dX3_readAtom_42 rfl (lv_at hl 2 rfl) ?_
    refine va_get (D := D) (ci := 3) (v := .int (nI (pos + 1))) (C := RX3) (T := TX3) (N := 3) hx hb hts ilX3_readAtom_3 hown hG.1 hP 0 rfl rfl 1 (by decide) (hts (.fieldLink RX3 26 "HornEngine$RuleReader" "position" "I") (List.mem_of_getElem? (i := 1) rfl)) (fun _ h9 => h9) rfl dX3_readAtom_43 ?_
    refine pu_V (As := [.int (nI (pos + 1))]) (rest := []) ⟨hx, hb, hml, hown, hts⟩ hG hP (k_X2_itemAt l D cI cB ro qi it cn 120 (nI (pos + 1)) (by decide) (by omega)) (cwV 1 hts gX3_readAtom_X2_itemAt rfl rfl rfl (by decide +kernel) ⟨(Nat.le_of_ble_eq_true rfl), (Nat.le_of_ble_eq_true rfl)⟩) [1, 2] rfl 1 rfl rfl rfl rfl hl.1 rfl (Nat.le_of_ble_eq_true rfl) dX3_readAtom_46 ⟨Nat.zero_le _, Nat.zero_le _⟩ ?_
    refine lv_eqi (itm_tc it (by omega) (by omega)) ?_
    refine pu_S (As := [.int (tc it cn (pos + 1))]) (rest := []) ⟨hx, hb, hml, hown, hts⟩ hG hP (k_X3_isDigit l D cI cB (tc it cn (pos + 1)) ) (cwS 1 hts gX3_readAtom_X3_isDigit rfl rfl rfl (by decide +kernel) ⟨(Nat.le_of_ble_eq_true rfl), (Nat.le_of_ble_eq_true rfl)⟩) [] rfl rfl hl.1 rfl (Nat.le_of_ble_eq_true rfl) dX3_readAtom_49 ⟨Nat.zero_le _, Nat.zero_le _⟩ ?_
    refine lv_if_eq (tgt := 82) hx hb dX3_readAtom_52 (by decide) (fun c_2 => ?_) (fun c_2 => ?_)
    · skip
      have c_2 : (isD (tc it cn (pos + 1))) = false := bI_f.mp c_2
      have h2 : isD (tc it cn (pos + 1)) = false := c_2
      refine lv_aload_n hx hb dX3_readAtom_82 rfl (lv_at hl 3 rfl) ?_
      refine lv_aload_n hx hb dX3_readAtom_83 rfl (lv_at hl 2 rfl) ?_
      refine va_get (D := D) (ci := 3) (v := .int (nI (pos + 1))) (C := RX3) (T := TX3) (N := 3) hx hb hts ilX3_readAtom_3 hown hG.1 hP 0 rfl rfl 1 (by decide) (hts (.fieldLink RX3 26 "HornEngine$RuleReader" "position" "I") (List.mem_of_getElem? (i := 1) rfl)) (fun _ h9 => h9) rfl dX3_readAtom_84 ?_
      refine pu_V (As := [.int (nI (pos + 1))]) (rest := []) ⟨hx, hb, hml, hown, hts⟩ hG hP (k_X2_itemAt l D cI cB ro qi it cn 120 (nI (pos + 1)) (by decide) (by omega)) (cwV 1 hts gX3_readAtom_X2_itemAt rfl rfl rfl (by decide +kernel) ⟨(Nat.le_of_ble_eq_true rfl), (Nat.le_of_ble_eq_true rfl)⟩) [1, 2] rfl 1 rfl rfl rfl rfl hl.1 rfl (Nat.le_of_ble_eq_true rfl) dX3_readAtom_87 ⟨Nat.zero_le _, Nat.zero_le _⟩ ?_
      refine lv_eqi (itm_tc it (by omega) (by omega)) ?_
      refine pu_S (As := [.int (tc it cn (pos + 1))]) (rest := []) ⟨hx, hb, hml, hown, hts⟩ hG hP (k_X3_isDigit l D cI cB (tc it cn (pos + 1)) ) (cwS 1 hts gX3_readAtom_X3_isDigit rfl rfl rfl (by decide +kernel) ⟨(Nat.le_of_ble_eq_true rfl), (Nat.le_of_ble_eq_true rfl)⟩) [] rfl rfl hl.1 rfl (Nat.le_of_ble_eq_true rfl) dX3_readAtom_90 ⟨Nat.zero_le _, Nat.zero_le _⟩ ?_
      refine lv_if_eq (tgt := 105) hx hb dX3_readAtom_93 (by decide) (fun c_3 => ?_) (fun c_3 => ?_)
      · skip
        have c_3 : (isD (tc it cn (pos + 1))) = false := bI_f.mp c_3
        refine lv_iload_n hx hb dX3_readAtom_105 rfl (lv_at hl 0 rfl) ?_
        refine pu_SN (As := [.int ((tc it cn pos) - (nI 48))]) (rest := []) ⟨hx, hb, hml, hown, hts⟩ hG hP (k_X5_isAtom l D cI cB ((tc it cn pos) - (nI 48)) ) (va_cnB 1 hts gX3_readAtom_X5_isAtom_n77 rfl rfl rfl (hG.2 _ (List.mem_of_getElem? (i := 8) rfl)) (hts (.initialized RX5) (List.mem_of_getElem? (i := 19) rfl)) (by decide +kernel) ⟨(Nat.le_of_ble_eq_true rfl), (Nat.le_of_ble_eq_true rfl)⟩) (hts (.static yX5_isAtom) (List.mem_of_getElem? (i := 18) rfl)) [] rfl rfl hl.1 rfl (Nat.le_of_ble_eq_true rfl) dX3_readAtom_106 ⟨Nat.zero_le _, Nat.zero_le _⟩ ?_
        refine lv_if_eq (tgt := 116) hx hb dX3_readAtom_109 (by decide) (fun c_4 => ?_) (fun c_4 => ?_)
        · skip
          have c_4 : (isA ((tc it cn pos) - (nI 48))) = false := bI_f.mp c_4
          have h4 : isA (num1 it cn pos) = false := c_4
          refine lv_aload_n hx hb dX3_readAtom_116 rfl (lv_at hl 2 rfl) ?_
          refine lv_iload_n hx hb dX3_readAtom_117 rfl (lv_at hl 1 rfl) ?_
          refine ef_V (As := [.int (nI pos)]) (rest := []) (wr := [(ro, .inr (2, [.ref qi, .int (nI cn)])), (qi, .inl (cI, 120, .inl it))]) ⟨hx, hb, hml, hown, hts⟩ hG hP hD hS hA (k_X3_refuse l D cI cB rr dr (pos + 1) err (nI pos)  _) (cwV 1 hts gX3_readAtom_X3_refuse rfl rfl rfl (by decide +kernel) ⟨(Nat.le_of_ble_eq_true rfl), (Nat.le_of_ble_eq_true rfl)⟩) [0] [1, 2] rfl rfl rfl rfl (by decide) 0 rfl rfl rfl rfl hl.1 rfl (Nat.le_of_ble_eq_true rfl) dX3_readAtom_118 ⟨(Nat.le_of_ble_eq_true rfl), (Nat.le_of_ble_eq_true rfl)⟩ (fun v_5 u_5 H locs w_5 hP hD hS => ?_)
          have w_5 : v_5 = some (.int (-1)) := w_5
          subst w_5
          have hP : va_P D vwCl [(rr, .inr (3, [.ref dr, .int (nI (pos + 1)), .int (nI pos)])), (ro, .inr (2, [.ref qi, .int (nI cn)])), (qi, .inl (cI, 120, .inl it))] H := hP.sub [2, 0, 1] rfl
          have hD : va_D A [(rr, .inr (3, [.ref dr, .int (nI (pos + 1)), .int (nI pos)])), (ro, .inr (2, [.ref qi, .int (nI cn)])), (qi, .inl (cI, 120, .inl it))] := hD.sub [2, 0, 1] rfl rfl
          refine W.eq (g2 := F0 m 121 ls [.int (-1)]) rfl ?_
          exact hret _ (-1, pos + 1, nI pos) _ _ _ _ (⟨rfl, by rw [rdA, if_pos h1, if_neg (by rw [h2]; decide), if_neg (by rw [h4]; decide)]; exact ⟨rfl, rfl⟩, isD_lt h1⟩) (hP) (hD) hS dX3_readAtom_121
        · skip
          have c_4 : (isA ((tc it cn pos) - (nI 48))) = true := bI_t.mp c_4
          have h4 : isA (num1 it cn pos) = true := c_4
          refine lv_iload_n hx hb dX3_readAtom_112 rfl (lv_at hl 0 rfl) ?_
          refine lv_goto (tgt := 121) hx hb dX3_readAtom_113 (by decide) ?_
          exact hret _ (num1 it cn pos, pos + 1, err) _ _ _ _ (⟨rfl, by rw [rdA, if_pos h1, if_neg (by rw [h2]; decide), if_pos h4]; exact ⟨rfl, rfl⟩, isD_lt h1⟩) (hP) (hD) hS dX3_readAtom_121
      · skip
        have c_3 : (isD (tc it cn (pos + 1))) = true := bI_t.mp c_3
        exact absurd c_3 (by rw [h2]; decide)
    · skip
      have c_2 : (isD (tc it cn (pos + 1))) = true := bI_t.mp c_2
      have h2 : isD (tc it cn (pos + 1)) = true := c_2
      have hl2 := isD_lt h2
      refine lv_iload_n hx hb dX3_readAtom_55 rfl (lv_at hl 0 rfl) ?_
      refine lv_bipush (v := nI 10) hx hb dX3_readAtom_56 (by decide) ?_
      refine lv_imul hx hb dX3_readAtom_58 ?_
      refine lv_aload_n hx hb dX3_readAtom_59 rfl (lv_at hl 3 rfl) ?_
      refine lv_aload_n hx hb dX3_readAtom_60 rfl (lv_at hl 2 rfl) ?_
      refine va_get (D := D) (ci := 3) (v := .int (nI (pos + 1))) (C := RX3) (T := TX3) (N := 3) hx hb hts ilX3_readAtom_3 hown hG.1 hP 0 rfl rfl 1 (by decide) (hts (.fieldLink RX3 26 "HornEngine$RuleReader" "position" "I") (List.mem_of_getElem? (i := 1) rfl)) (fun _ h9 => h9) rfl dX3_readAtom_61 ?_
      refine pu_V (As := [.int (nI (pos + 1))]) (rest := [.int (((tc it cn pos) - (nI 48)) * (nI 10))]) ⟨hx, hb, hml, hown, hts⟩ hG hP (k_X2_itemAt l D cI cB ro qi it cn 120 (nI (pos + 1)) (by decide) (by omega)) (cwV 1 hts gX3_readAtom_X2_itemAt rfl rfl rfl (by decide +kernel) ⟨(Nat.le_of_ble_eq_true rfl), (Nat.le_of_ble_eq_true rfl)⟩) [1, 2] rfl 1 rfl rfl rfl rfl hl.1 rfl (Nat.le_of_ble_eq_true rfl) dX3_readAtom_64 ⟨Nat.zero_le _, Nat.zero_le _⟩ ?_
      refine lv_eqi (itm_tc it (by omega) (by omega)) ?_
      refine lv_iadd hx hb dX3_readAtom_67 ?_
      refine lv_bipush (v := nI 48) hx hb dX3_readAtom_68 (by decide) ?_
      refine lv_isub hx hb dX3_readAtom_70 ?_
      refine lv_istore_n (lv' := [(3, .int (((((tc it cn pos) - (nI 48)) * (nI 10)) + (tc it cn (pos + 1))) - (nI 48))), (2, .int (nI pos)), (0, .ref rr), (1, .ref ro)]) hx hb dX3_readAtom_71 rfl hl (by decide) rfl (fun ls hl => ?_)
      refine lv_aload_n hx hb dX3_readAtom_72 rfl (lv_at hl 2 rfl) ?_
      refine lv_dup hx hb dX3_readAtom_73 rfl ?_
      refine va_get (D := D) (ci := 3) (v := .int (nI (pos + 1))) (C := RX3) (T := TX3) (N := 3) hx hb hts ilX3_readAtom_3 hown hG.1 hP 0 rfl rfl 1 (by decide) (hts (.fieldLink RX3 26 "HornEngine$RuleReader" "position" "I") (List.mem_of_getElem? (i := 1) rfl)) (fun _ h9 => h9) rfl dX3_readAtom_74 ?_
      refine lv_iconst (v := nI 1) hx hb dX3_readAtom_77 (by decide) ?_
      refine lv_iadd hx hb dX3_readAtom_78 ?_
      refine lv_eqi (nI_add (pos + 1) 1) ?_
      refine va_put (D := D) (ci := 3) (v := .int (nI (pos + 1 + 1))) (ty := .int) (C := RX3) (T := TX3) (N := 3) hx hb hts ilX3_readAtom_3 tyX3 tyX3_ok nmX3 hown hG.1 hP hD hS 0 rfl rfl 1 (by decide) (hts (.fieldLink RX3 26 "HornEngine$RuleReader" "position" "I") (List.mem_of_getElem? (i := 1) rfl)) (fun _ h9 => h9) rfl (by decide +kernel) rfl rfl (Nat.le_of_ble_eq_true rfl) dX3_readAtom_79 (fun H locs hP hD hS => ?_)
      have hP : va_P D vwCl [(rr, .inr (3, [.ref dr, .int (nI (pos + 1 + 1)), .int err])), (ro, .inr (2, [.ref qi, .int (nI cn)])), (qi, .inl (cI, 120, .inl it))] H := hP
      have hD : va_D A [(rr, .inr (3, [.ref dr, .int (nI (pos + 1 + 1)), .int err])), (ro, .inr (2, [.ref qi, .int (nI cn)])), (qi, .inl (cI, 120, .inl it))] := hD
      refine lv_aload_n hx hb dX3_readAtom_82 rfl (lv_at hl 3 rfl) ?_
      refine lv_aload_n hx hb dX3_readAtom_83 rfl (lv_at hl 2 rfl) ?_
      refine va_get (D := D) (ci := 3) (v := .int (nI (pos + 1 + 1))) (C := RX3) (T := TX3) (N := 3) hx hb hts ilX3_readAtom_3 hown hG.1 hP 0 rfl rfl 1 (by decide) (hts (.fieldLink RX3 26 "HornEngine$RuleReader" "position" "I") (List.mem_of_getElem? (i := 1) rfl)) (fun _ h9 => h9) rfl dX3_readAtom_84 ?_
      refine pu_V (As := [.int (nI (pos + 1 + 1))]) (rest := []) ⟨hx, hb, hml, hown, hts⟩ hG hP (k_X2_itemAt l D cI cB ro qi it cn 120 (nI (pos + 1 + 1)) (by decide) (by omega)) (cwV 1 hts gX3_readAtom_X2_itemAt rfl rfl rfl (by decide +kernel) ⟨(Nat.le_of_ble_eq_true rfl), (Nat.le_of_ble_eq_true rfl)⟩) [1, 2] rfl 1 rfl rfl rfl rfl hl.1 rfl (Nat.le_of_ble_eq_true rfl) dX3_readAtom_87 ⟨Nat.zero_le _, Nat.zero_le _⟩ ?_
      refine lv_eqi (itm_tc it (by omega) (by omega)) ?_
      refine pu_S (As := [.int (tc it cn (pos + 1 + 1))]) (rest := []) ⟨hx, hb, hml, hown, hts⟩ hG hP (k_X3_isDigit l D cI cB (tc it cn (pos + 1 + 1)) ) (cwS 1 hts gX3_readAtom_X3_isDigit rfl rfl rfl (by decide +kernel) ⟨(Nat.le_of_ble_eq_true rfl), (Nat.le_of_ble_eq_true rfl)⟩) [] rfl rfl hl.1 rfl (Nat.le_of_ble_eq_true rfl) dX3_readAtom_90 ⟨Nat.zero_le _, Nat.zero_le _⟩ ?_
      refine lv_if_eq (tgt := 105) hx hb dX3_readAtom_93 (by decide) (fun c_6 => ?_) (fun c_6 => ?_)
      · skip
        have c_6 : (isD (tc it cn (pos + 1 + 1))) = false := bI_f.mp c_6
        have h3 : isD (tc it cn (pos + 1 + 1)) = false := c_6
        refine lv_iload_n hx hb dX3_readAtom_105 rfl (lv_at hl 0 rfl) ?_
        refine pu_SN (As := [.int (((((tc it cn pos) - (nI 48)) * (nI 10)) + (tc it cn (pos + 1))) - (nI 48))]) (rest := []) ⟨hx, hb, hml, hown, hts⟩ hG hP (k_X5_isAtom l D cI cB (((((tc it cn pos) - (nI 48)) * (nI 10)) + (tc it cn (pos + 1))) - (nI 48)) ) (va_cnB 1 hts gX3_readAtom_X5_isAtom_n77 rfl rfl rfl (hG.2 _ (List.mem_of_getElem? (i := 8) rfl)) (hts (.initialized RX5) (List.mem_of_getElem? (i := 19) rfl)) (by decide +kernel) ⟨(Nat.le_of_ble_eq_true rfl), (Nat.le_of_ble_eq_true rfl)⟩) (hts (.static yX5_isAtom) (List.mem_of_getElem? (i := 18) rfl)) [] rfl rfl hl.1 rfl (Nat.le_of_ble_eq_true rfl) dX3_readAtom_106 ⟨Nat.zero_le _, Nat.zero_le _⟩ ?_
        refine lv_if_eq (tgt := 116) hx hb dX3_readAtom_109 (by decide) (fun c_7 => ?_) (fun c_7 => ?_)
        · skip
          have c_7 : (isA (((((tc it cn pos) - (nI 48)) * (nI 10)) + (tc it cn (pos + 1))) - (nI 48))) = false := bI_f.mp c_7
          have h4 : isA (num2 it cn pos) = false := c_7
          refine lv_aload_n hx hb dX3_readAtom_116 rfl (lv_at hl 2 rfl) ?_
          refine lv_iload_n hx hb dX3_readAtom_117 rfl (lv_at hl 1 rfl) ?_
          refine ef_V (As := [.int (nI pos)]) (rest := []) (wr := [(ro, .inr (2, [.ref qi, .int (nI cn)])), (qi, .inl (cI, 120, .inl it))]) ⟨hx, hb, hml, hown, hts⟩ hG hP hD hS hA (k_X3_refuse l D cI cB rr dr (pos + 1 + 1) err (nI pos)  _) (cwV 1 hts gX3_readAtom_X3_refuse rfl rfl rfl (by decide +kernel) ⟨(Nat.le_of_ble_eq_true rfl), (Nat.le_of_ble_eq_true rfl)⟩) [0] [1, 2] rfl rfl rfl rfl (by decide) 0 rfl rfl rfl rfl hl.1 rfl (Nat.le_of_ble_eq_true rfl) dX3_readAtom_118 ⟨(Nat.le_of_ble_eq_true rfl), (Nat.le_of_ble_eq_true rfl)⟩ (fun v_8 u_8 H locs w_8 hP hD hS => ?_)
          have w_8 : v_8 = some (.int (-1)) := w_8
          subst w_8
          have hP : va_P D vwCl [(rr, .inr (3, [.ref dr, .int (nI (pos + 1 + 1)), .int (nI pos)])), (ro, .inr (2, [.ref qi, .int (nI cn)])), (qi, .inl (cI, 120, .inl it))] H := hP.sub [2, 0, 1] rfl
          have hD : va_D A [(rr, .inr (3, [.ref dr, .int (nI (pos + 1 + 1)), .int (nI pos)])), (ro, .inr (2, [.ref qi, .int (nI cn)])), (qi, .inl (cI, 120, .inl it))] := hD.sub [2, 0, 1] rfl rfl
          refine W.eq (g2 := F0 m 121 ls [.int (-1)]) rfl ?_
          exact hret _ (-1, pos + 1 + 1, nI pos) _ _ _ _ (⟨rfl, by rw [rdA, if_pos h1, if_pos h2, if_neg (by rw [h3]; decide), if_neg (by rw [h4]; decide)]; exact ⟨rfl, rfl⟩, isD_lt h2⟩) (hP) (hD) hS dX3_readAtom_121
        · skip
          have c_7 : (isA (((((tc it cn pos) - (nI 48)) * (nI 10)) + (tc it cn (pos + 1))) - (nI 48))) = true := bI_t.mp c_7
          have h4 : isA (num2 it cn pos) = true := c_7
          refine lv_iload_n hx hb dX3_readAtom_112 rfl (lv_at hl 0 rfl) ?_
          refine lv_goto (tgt := 121) hx hb dX3_readAtom_113 (by decide) ?_
          exact hret _ (num2 it cn pos, pos + 1 + 1, err) _ _ _ _ (⟨rfl, by rw [rdA, if_pos h1, if_pos h2, if_neg (by rw [h3]; decide), if_pos h4]; exact ⟨rfl, rfl⟩, isD_lt h2⟩) (hP) (hD) hS dX3_readAtom_121
      · skip
        have c_6 : (isD (tc it cn (pos + 1 + 1))) = true := bI_t.mp c_6
        have h3 : isD (tc it cn (pos + 1 + 1)) = true := c_6
        refine lv_aload_n hx hb dX3_readAtom_96 rfl (lv_at hl 2 rfl) ?_
        refine lv_aload_n hx hb dX3_readAtom_97 rfl (lv_at hl 2 rfl) ?_
        refine va_get (D := D) (ci := 3) (v := .int (nI (pos + 1 + 1))) (C := RX3) (T := TX3) (N := 3) hx hb hts ilX3_readAtom_3 hown hG.1 hP 0 rfl rfl 1 (by decide) (hts (.fieldLink RX3 26 "HornEngine$RuleReader" "position" "I") (List.mem_of_getElem? (i := 1) rfl)) (fun _ h9 => h9) rfl dX3_readAtom_98 ?_
        refine ef_V (As := [.int (nI (pos + 1 + 1))]) (rest := []) (wr := [(ro, .inr (2, [.ref qi, .int (nI cn)])), (qi, .inl (cI, 120, .inl it))]) ⟨hx, hb, hml, hown, hts⟩ hG hP hD hS hA (k_X3_refuse l D cI cB rr dr (pos + 1 + 1) err (nI (pos + 1 + 1))  _) (cwV 1 hts gX3_readAtom_X3_refuse rfl rfl rfl (by decide +kernel) ⟨(Nat.le_of_ble_eq_true rfl), (Nat.le_of_ble_eq_true rfl)⟩) [0] [1, 2] rfl rfl rfl rfl (by decide) 0 rfl rfl rfl rfl hl.1 rfl (Nat.le_of_ble_eq_true rfl) dX3_readAtom_101 ⟨(Nat.le_of_ble_eq_true rfl), (Nat.le_of_ble_eq_true rfl)⟩ (fun v_9 u_9 H locs w_9 hP hD hS => ?_)
        have w_9 : v_9 = some (.int (-1)) := w_9
        subst w_9
        have hP : va_P D vwCl [(rr, .inr (3, [.ref dr, .int (nI (pos + 1 + 1)), .int (nI (pos + 1 + 1))])), (ro, .inr (2, [.ref qi, .int (nI cn)])), (qi, .inl (cI, 120, .inl it))] H := hP.sub [2, 0, 1] rfl
        have hD : va_D A [(rr, .inr (3, [.ref dr, .int (nI (pos + 1 + 1)), .int (nI (pos + 1 + 1))])), (ro, .inr (2, [.ref qi, .int (nI cn)])), (qi, .inl (cI, 120, .inl it))] := hD.sub [2, 0, 1] rfl rfl
        refine W.eq (g2 := F0 m 104 ls [.int (-1)]) rfl ?_
        exact hret _ (-1, pos + 1 + 1, nI (pos + 1 + 1)) _ _ _ _ (⟨rfl, by rw [rdA, if_pos h1, if_pos h2, if_pos h3]; exact ⟨rfl, rfl⟩, isD_lt h2⟩) (hP) (hD) hS dX3_readAtom_104
  · skip
    have c_1 : (isD (tc it cn pos)) = false := bI_f.mp c_1
    have h1 : isD (tc it cn pos) = false := c_1
    refine lv_aload_n hx hb dX3_readAtom_16 rfl (lv_at hl 1 rfl) ?_
    refine lv_iload_n hx hb dX3_readAtom_17 rfl (lv_at hl 0 rfl) ?_
    refine ef_V (As := [.int (nI pos)]) (rest := []) (wr := [(ro, .inr (2, [.ref qi, .int (nI cn)])), (qi, .inl (cI, 120, .inl it))]) ⟨hx, hb, hml, hown, hts⟩ hG hP hD hS hA (k_X3_refuse l D cI cB rr dr pos err (nI pos)  _) (cwV 1 hts gX3_readAtom_X3_refuse rfl rfl rfl (by decide +kernel) ⟨(Nat.le_of_ble_eq_true rfl), (Nat.le_of_ble_eq_true rfl)⟩) [0] [1, 2] rfl rfl rfl rfl (by decide) 0 rfl rfl rfl rfl hl.1 rfl (Nat.le_of_ble_eq_true rfl) dX3_readAtom_18 ⟨(Nat.le_of_ble_eq_true rfl), (Nat.le_of_ble_eq_true rfl)⟩ (fun v_10 u_10 H locs w_10 hP hD hS => ?_)
    have w_10 : v_10 = some (.int (-1)) := w_10
    subst w_10
    have hP : va_P D vwCl [(rr, .inr (3, [.ref dr, .int (nI pos), .int (nI pos)])), (ro, .inr (2, [.ref qi, .int (nI cn)])), (qi, .inl (cI, 120, .inl it))] H := hP.sub [2, 0, 1] rfl
    have hD : va_D A [(rr, .inr (3, [.ref dr, .int (nI pos), .int (nI pos)])), (ro, .inr (2, [.ref qi, .int (nI cn)])), (qi, .inl (cI, 120, .inl it))] := hD.sub [2, 0, 1] rfl rfl
    refine W.eq (g2 := F0 m 21 ls [.int (-1)]) rfl ?_
    exact hret _ (-1, pos, nI pos) _ _ _ _ (⟨rfl, by rw [rdA, if_neg (by rw [h1]; decide)]; exact ⟨rfl, rfl⟩, hpos⟩) (hP) (hD) hS dX3_readAtom_21
set_option maxHeartbeats 4000000 in
set_option maxRecDepth 100000 in
theorem k_X3_take (l : Launch) (D : va_G) (cI cB : ClassId) (rr : Nat) (dr : Nat) (pos : Nat) (err : Int32) (ro : Nat) (qi : Nat) (it : Nat → Int32) (cn : Nat) (sg : Nat) (hcn : cn ≤ 120) (hpos : pos ≤ cn) (hsg : sg < 128) (sz : Nat) : Wr l yX3_take wsX3_take ({ frames := 2, cells := 0, slots := 0, locals := 42 }) D cI cB [.ref rr, .ref ro, .int (nI sg)] [(rr, .inr (3, [.ref dr, .int (nI pos), .int err])), (ro, .inr (2, [.ref qi, .int (nI cn)])), (qi, .inl (cI, 120, .inl it))] sz (S := Bool × Nat × Int32) (fun v u => v = some (.int (bI u.1)) ∧ (tkR it cn pos sg u.1 u.2.1 u.2.2 ∧ u.2.1 ≤ cn)) (fun u => [(rr, .inr (3, [.ref dr, .int (nI u.2.1), .int u.2.2])), (ro, .inr (2, [.ref qi, .int (nI cn)])), (qi, .inl (cI, 120, .inl it))]) 0 0 := by
  refine ef_startZ (cc := cX3_take) (maxL := 3) (by decide) rfl (Nat.le_of_ble_eq_true rfl) ?_
  intro p e s m args below meth c Q A hx hb hml hown hts hP hG hD hA hret ls hl
  have hown : s.vm.findClass RX3 = some m.cls := hown
  have hl : lv_has ls 3 [(0, .ref rr), (1, .ref ro), (2, .int (nI sg))] := hl
  have hS : va_S A s.heap s.heap [] := va_S.rf
  have hsk := skp_le (it := it) hpos
  refine lv_aload_n hx hb dX3_take_0 rfl (lv_at hl 0 rfl) ?_
  refine lv_aload_n hx hb dX3_take_1 rfl (lv_at hl 1 rfl) ?_
  refine ef_V (As := [.ref ro]) (rest := []) (wr := []) ⟨hx, hb, hml, hown, hts⟩ hG hP hD hS hA (k_X3_skipSpaces l D cI cB rr dr pos err ro qi it cn (by omega) (by omega) _) (cwV 1 hts gX3_take_X3_skipSpaces rfl rfl rfl (by decide +kernel) ⟨(Nat.le_of_ble_eq_true rfl), (Nat.le_of_ble_eq_true rfl)⟩) [0, 1, 2] [] rfl rfl rfl rfl (by decide) 0 rfl rfl rfl rfl hl.1 rfl (Nat.le_of_ble_eq_true rfl) dX3_take_2 ⟨(Nat.le_of_ble_eq_true rfl), (Nat.le_of_ble_eq_true rfl)⟩ (fun v_1 u_1 H locs w_1 hP hD hS => ?_)
  have w_1 : v_1 = none := w_1
  subst w_1
  have hP : va_P D vwCl [(rr, .inr (3, [.ref dr, .int (nI (skp it cn pos)), .int err])), (ro, .inr (2, [.ref qi, .int (nI cn)])), (qi, .inl (cI, 120, .inl it))] H := hP.sub [0, 1, 2] rfl
  have hD : va_D A [(rr, .inr (3, [.ref dr, .int (nI (skp it cn pos)), .int err])), (ro, .inr (2, [.ref qi, .int (nI cn)])), (qi, .inl (cI, 120, .inl it))] := hD.sub [0, 1, 2] rfl rfl
  refine W.eq (g2 := F0 m 5 ls []) rfl ?_
  refine lv_aload_n hx hb dX3_take_5 rfl (lv_at hl 1 rfl) ?_
  refine lv_aload_n hx hb dX3_take_6 rfl (lv_at hl 0 rfl) ?_
  refine va_get (D := D) (ci := 3) (v := .int (nI (skp it cn pos))) (C := RX3) (T := TX3) (N := 3) hx hb hts ilX3_take_3 hown hG.1 hP 0 rfl rfl 1 (by decide) (hts (.fieldLink RX3 26 "HornEngine$RuleReader" "position" "I") (List.mem_of_getElem? (i := 1) rfl)) (fun _ h9 => h9) rfl dX3_take_7 ?_
  refine pu_V (As := [.int (nI (skp it cn pos))]) (rest := []) ⟨hx, hb, hml, hown, hts⟩ hG hP (k_X2_itemAt l D cI cB ro qi it cn 120 (nI (skp it cn pos)) (by decide) (by omega)) (cwV 1 hts gX3_take_X2_itemAt rfl rfl rfl (by decide +kernel) ⟨(Nat.le_of_ble_eq_true rfl), (Nat.le_of_ble_eq_true rfl)⟩) [1, 2] rfl 1 rfl rfl rfl rfl hl.1 rfl (Nat.le_of_ble_eq_true rfl) dX3_take_10 ⟨Nat.zero_le _, Nat.zero_le _⟩ ?_
  refine lv_eqi (itm_tc it (by omega) (by omega)) ?_
  refine lv_iload_n hx hb dX3_take_13 rfl (lv_at hl 2 rfl) ?_
  refine lv_icmp_eq (tgt := 28) hx hb dX3_take_14 (by decide) (fun c_2 => ?_) (fun c_2 => ?_)
  · skip
    have ht : tc it cn (skp it cn pos) = nI sg := c_2
    have hl1 := tc_lt ht hsg
    refine lv_aload_n hx hb dX3_take_28 rfl (lv_at hl 0 rfl) ?_
    refine lv_dup hx hb dX3_take_29 rfl ?_
    refine va_get (D := D) (ci := 3) (v := .int (nI (skp it cn pos))) (C := RX3) (T := TX3) (N := 3) hx hb hts ilX3_take_3 hown hG.1 hP 0 rfl rfl 1 (by decide) (hts (.fieldLink RX3 26 "HornEngine$RuleReader" "position" "I") (List.mem_of_getElem? (i := 1) rfl)) (fun _ h9 => h9) rfl dX3_take_30 ?_
    refine lv_iconst (v := nI 1) hx hb dX3_take_33 (by decide) ?_
    refine lv_iadd hx hb dX3_take_34 ?_
    refine lv_eqi (nI_add (skp it cn pos) 1) ?_
    refine va_put (D := D) (ci := 3) (v := .int (nI (skp it cn pos + 1))) (ty := .int) (C := RX3) (T := TX3) (N := 3) hx hb hts ilX3_take_3 tyX3 tyX3_ok nmX3 hown hG.1 hP hD hS 0 rfl rfl 1 (by decide) (hts (.fieldLink RX3 26 "HornEngine$RuleReader" "position" "I") (List.mem_of_getElem? (i := 1) rfl)) (fun _ h9 => h9) rfl (by decide +kernel) rfl rfl (Nat.le_of_ble_eq_true rfl) dX3_take_35 (fun H locs hP hD hS => ?_)
    have hP : va_P D vwCl [(rr, .inr (3, [.ref dr, .int (nI (skp it cn pos + 1)), .int err])), (ro, .inr (2, [.ref qi, .int (nI cn)])), (qi, .inl (cI, 120, .inl it))] H := hP
    have hD : va_D A [(rr, .inr (3, [.ref dr, .int (nI (skp it cn pos + 1)), .int err])), (ro, .inr (2, [.ref qi, .int (nI cn)])), (qi, .inl (cI, 120, .inl it))] := hD
    refine lv_iconst (v := nI 1) hx hb dX3_take_38 (by decide) ?_
    exact hret (true) (true, skp it cn pos + 1, err) _ _ _ _ (⟨rfl, by rw [tkR, if_pos ht]; exact ⟨rfl, rfl⟩, hl1⟩) (hP) (hD) hS dX3_take_39
  · skip
    have ht : ¬ tc it cn (skp it cn pos) = nI sg := c_2
    refine lv_aload_n hx hb dX3_take_17 rfl (lv_at hl 0 rfl) ?_
    refine lv_aload_n hx hb dX3_take_18 rfl (lv_at hl 0 rfl) ?_
    refine va_get (D := D) (ci := 3) (v := .int (nI (skp it cn pos))) (C := RX3) (T := TX3) (N := 3) hx hb hts ilX3_take_3 hown hG.1 hP 0 rfl rfl 1 (by decide) (hts (.fieldLink RX3 26 "HornEngine$RuleReader" "position" "I") (List.mem_of_getElem? (i := 1) rfl)) (fun _ h9 => h9) rfl dX3_take_19 ?_
    refine ef_V (As := [.int (nI (skp it cn pos))]) (rest := []) (wr := [(ro, .inr (2, [.ref qi, .int (nI cn)])), (qi, .inl (cI, 120, .inl it))]) ⟨hx, hb, hml, hown, hts⟩ hG hP hD hS hA (k_X3_refuse l D cI cB rr dr (skp it cn pos) err (nI (skp it cn pos))  _) (cwV 1 hts gX3_take_X3_refuse rfl rfl rfl (by decide +kernel) ⟨(Nat.le_of_ble_eq_true rfl), (Nat.le_of_ble_eq_true rfl)⟩) [0] [1, 2] rfl rfl rfl rfl (by decide) 0 rfl rfl rfl rfl hl.1 rfl (Nat.le_of_ble_eq_true rfl) dX3_take_22 ⟨(Nat.le_of_ble_eq_true rfl), (Nat.le_of_ble_eq_true rfl)⟩ (fun v_3 u_3 H locs w_3 hP hD hS => ?_)
    have w_3 : v_3 = some (.int (-1)) := w_3
    subst w_3
    have hP : va_P D vwCl [(rr, .inr (3, [.ref dr, .int (nI (skp it cn pos)), .int (nI (skp it cn pos))])), (ro, .inr (2, [.ref qi, .int (nI cn)])), (qi, .inl (cI, 120, .inl it))] H := hP.sub [2, 0, 1] rfl
    have hD : va_D A [(rr, .inr (3, [.ref dr, .int (nI (skp it cn pos)), .int (nI (skp it cn pos))])), (ro, .inr (2, [.ref qi, .int (nI cn)])), (qi, .inl (cI, 120, .inl it))] := hD.sub [2, 0, 1] rfl rfl
    refine W.eq (g2 := F0 m 25 ls [.int (-1)]) rfl ?_
    refine lv_pop hx hb dX3_take_25 rfl ?_
    refine lv_iconst (v := nI 0) hx hb dX3_take_26 (by decide) ?_
    exact hret (false) (false, skp it cn pos, nI (skp it cn pos)) _ _ _ _ (⟨rfl, by rw [tkR, if_neg ht]; exact ⟨rfl, rfl⟩, hsk⟩) (hP) (hD) hS dX3_take_27
set_option maxHeartbeats 4000000 in
set_option maxRecDepth 100000 in
theorem k_X3_readBody (l : Launch) (D : va_G) (cI cB : ClassId) (rr : Nat) (dr : Nat) (pos : Nat) (err : Int32) (ro : Nat) (qi : Nat) (it : Nat → Int32) (cn : Nat) (hcn : cn ≤ 120) (hpos : pos ≤ cn) (sz : Nat) : Wr l yX3_readBody wsX3_readBody ({ frames := 2, cells := 0, slots := 0, locals := 44 }) D cI cB [.ref rr, .ref ro] [(rr, .inr (3, [.ref dr, .int (nI pos), .int err])), (ro, .inr (2, [.ref qi, .int (nI cn)])), (qi, .inl (cI, 120, .inl it))] sz (S := Int32 × Nat × Int32) (fun v u => v = some (.int u.1) ∧ (rdR (rdB it cn pos) u.1 u.2.1 u.2.2 ∧ u.2.1 ≤ cn)) (fun u => [(rr, .inr (3, [.ref dr, .int (nI u.2.1), .int u.2.2])), (ro, .inr (2, [.ref qi, .int (nI cn)])), (qi, .inl (cI, 120, .inl it))]) 0 0 := by
  refine ef_startI (cc := cX3_readBody) (maxL := 6) (by decide) rfl (Nat.le_of_ble_eq_true rfl) ?_
  intro p e s m args below meth c Q A hx hb hml hown hts hP hG hD hA hret ls hl
  have hown : s.vm.findClass RX3 = some m.cls := hown
  have hl : lv_has ls 6 [(0, .ref rr), (1, .ref ro)] := hl
  have hS : va_S A s.heap s.heap [] := va_S.rf
  have hsk := skp_le (it := it) hpos
  refine lv_iconst (v := nI 0) hx hb dX3_readBody_0 (by decide) ?_
  refine lv_istore_n (lv' := [(2, .int (nI 0)), (0, .ref rr), (1, .ref ro)]) hx hb dX3_readBody_1 rfl hl (by decide) rfl (fun ls hl => ?_)
  refine lv_aload_n hx hb dX3_readBody_2 rfl (lv_at hl 1 rfl) ?_
  refine lv_aload_n hx hb dX3_readBody_3 rfl (lv_at hl 2 rfl) ?_
  refine ef_V (As := [.ref ro]) (rest := []) (wr := []) ⟨hx, hb, hml, hown, hts⟩ hG hP hD hS hA (k_X3_skipSpaces l D cI cB rr dr pos err ro qi it cn (by omega) (by omega) _) (cwV 1 hts gX3_readBody_X3_skipSpaces rfl rfl rfl (by decide +kernel) ⟨(Nat.le_of_ble_eq_true rfl), (Nat.le_of_ble_eq_true rfl)⟩) [0, 1, 2] [] rfl rfl rfl rfl (by decide) 0 rfl rfl rfl rfl hl.1 rfl (Nat.le_of_ble_eq_true rfl) dX3_readBody_4 ⟨(Nat.le_of_ble_eq_true rfl), (Nat.le_of_ble_eq_true rfl)⟩ (fun v_1 u_1 H locs w_1 hP hD hS => ?_)
  have w_1 : v_1 = none := w_1
  subst w_1
  have hP : va_P D vwCl [(rr, .inr (3, [.ref dr, .int (nI (skp it cn pos)), .int err])), (ro, .inr (2, [.ref qi, .int (nI cn)])), (qi, .inl (cI, 120, .inl it))] H := hP.sub [0, 1, 2] rfl
  have hD : va_D A [(rr, .inr (3, [.ref dr, .int (nI (skp it cn pos)), .int err])), (ro, .inr (2, [.ref qi, .int (nI cn)])), (qi, .inl (cI, 120, .inl it))] := hD.sub [0, 1, 2] rfl rfl
  refine W.eq (g2 := F0 m 7 ls []) rfl ?_
  refine lv_aload_n hx hb dX3_readBody_7 rfl (lv_at hl 2 rfl) ?_
  refine lv_aload_n hx hb dX3_readBody_8 rfl (lv_at hl 1 rfl) ?_
  refine va_get (D := D) (ci := 3) (v := .int (nI (skp it cn pos))) (C := RX3) (T := TX3) (N := 3) hx hb hts ilX3_readBody_3 hown hG.1 hP 0 rfl rfl 1 (by decide) (hts (.fieldLink RX3 26 "HornEngine$RuleReader" "position" "I") (List.mem_of_getElem? (i := 1) rfl)) (fun _ h9 => h9) rfl dX3_readBody_9 ?_
  refine pu_V (As := [.int (nI (skp it cn pos))]) (rest := []) ⟨hx, hb, hml, hown, hts⟩ hG hP (k_X2_itemAt l D cI cB ro qi it cn 120 (nI (skp it cn pos)) (by decide) (by omega)) (cwV 1 hts gX3_readBody_X2_itemAt rfl rfl rfl (by decide +kernel) ⟨(Nat.le_of_ble_eq_true rfl), (Nat.le_of_ble_eq_true rfl)⟩) [1, 2] rfl 1 rfl rfl rfl rfl hl.1 rfl (Nat.le_of_ble_eq_true rfl) dX3_readBody_12 ⟨Nat.zero_le _, Nat.zero_le _⟩ ?_
  refine lv_eqi (itm_tc it (by omega) (by omega)) ?_
  refine lv_bipush (v := nI 59) hx hb dX3_readBody_15 (by decide) ?_
  refine lv_icmp_ne (tgt := 22) hx hb dX3_readBody_17 (by decide) (fun c_2 => ?_) (fun c_2 => ?_)
  · skip
    have h59 : ¬ tc it cn (skp it cn pos) = nI 59 := c_2
    refine lv_iconst (v := nI 0) hx hb dX3_readBody_22 (by decide) ?_
    refine lv_istore_n (lv' := [(3, .int (nI 0)), (2, .int (nI 0)), (0, .ref rr), (1, .ref ro)]) hx hb dX3_readBody_23 rfl hl (by decide) rfl (fun ls hl => ?_)
    have lp_24_3 : ∀ (fu_24 : Nat) (k : Nat) (x2 : Int32) (p1 : Nat) (err1 : Int32) (hk : k ≤ 4) (hp1 : p1 ≤ cn) (eB : rdBL it cn (4 - k) x2 p1 = rdB it cn pos) (hfu_24 : 4 - k < fu_24) (H : Heap) (locs : List Loc) (hP : va_P D vwCl [(rr, .inr (3, [.ref dr, .int (nI p1), .int err1])), (ro, .inr (2, [.ref qi, .int (nI cn)])), (qi, .inl (cI, 120, .inl it))] H) (hD : va_D A [(rr, .inr (3, [.ref dr, .int (nI p1), .int err1])), (ro, .inr (2, [.ref qi, .int (nI cn)])), (qi, .inl (cI, 120, .inl it))]) (hS : va_S A s.heap H locs) (ls : Array Slot) (hl : lv_has ls 6 [(0, .ref rr), (1, .ref ro), (2, .int x2), (3, .int (nI k))]), W p l e ({ frames := 2, cells := 0, slots := 0, locals := 44 }) s m args below meth c H locs 0 0 Q (F0 m 24 ls []) := by
      intro fu_24
      induction fu_24 with
      | zero => intro k x2 p1 err1 hk hp1 eB hfu; exact absurd hfu (Nat.not_lt_zero _)
      | succ fu_24 ih_24 =>
        intro k x2 p1 err1 hk hp1 eB hfu_24 H locs hP hD hS ls hl
        refine lv_iload_n hx hb dX3_readBody_24 rfl (lv_at hl 3 rfl) ?_
        refine lv_iconst (v := nI 4) hx hb dX3_readBody_25 (by decide) ?_
        refine lv_icmp_ge (tgt := 114) hx hb dX3_readBody_26 (by decide) (fun c_4 => ?_) (fun c_4 => ?_)
        · skip
          have c_4 : 4 ≤ k := (nI_leI (by omega) (by omega)).mp (show nI 4 ≤ nI k from c_4)
          refine lv_aload_n hx hb dX3_readBody_114 rfl (lv_at hl 0 rfl) ?_
          refine lv_aload_n hx hb dX3_readBody_115 rfl (lv_at hl 0 rfl) ?_
          refine va_get (D := D) (ci := 3) (v := .int (nI p1)) (C := RX3) (T := TX3) (N := 3) hx hb hts ilX3_readBody_3 hown hG.1 hP 0 rfl rfl 1 (by decide) (hts (.fieldLink RX3 26 "HornEngine$RuleReader" "position" "I") (List.mem_of_getElem? (i := 1) rfl)) (fun _ h9 => h9) rfl dX3_readBody_116 ?_
          refine ef_V (As := [.int (nI p1)]) (rest := []) (wr := [(ro, .inr (2, [.ref qi, .int (nI cn)])), (qi, .inl (cI, 120, .inl it))]) ⟨hx, hb, hml, hown, hts⟩ hG hP hD hS hA (k_X3_refuse l D cI cB rr dr p1 err1 (nI p1)  _) (cwV 1 hts gX3_readBody_X3_refuse rfl rfl rfl (by decide +kernel) ⟨(Nat.le_of_ble_eq_true rfl), (Nat.le_of_ble_eq_true rfl)⟩) [0] [1, 2] rfl rfl rfl rfl (by decide) 0 rfl rfl rfl rfl hl.1 rfl (Nat.le_of_ble_eq_true rfl) dX3_readBody_119 ⟨(Nat.le_of_ble_eq_true rfl), (Nat.le_of_ble_eq_true rfl)⟩ (fun v_5 u_5 H locs w_5 hP hD hS => ?_)
          have w_5 : v_5 = some (.int (-1)) := w_5
          subst w_5
          have hP : va_P D vwCl [(rr, .inr (3, [.ref dr, .int (nI p1), .int (nI p1)])), (ro, .inr (2, [.ref qi, .int (nI cn)])), (qi, .inl (cI, 120, .inl it))] H := hP.sub [2, 0, 1] rfl
          have hD : va_D A [(rr, .inr (3, [.ref dr, .int (nI p1), .int (nI p1)])), (ro, .inr (2, [.ref qi, .int (nI cn)])), (qi, .inl (cI, 120, .inl it))] := hD.sub [2, 0, 1] rfl rfl
          refine W.eq (g2 := F0 m 122 ls [.int (-1)]) rfl ?_
          exact hret _ (-1, p1, nI p1) _ _ _ _ (⟨rfl, by rw [← eB, show 4 - k = 0 from by omega]; exact ⟨rfl, rfl⟩, hp1⟩) (hP) (hD) hS dX3_readBody_122
        · skip
          have c_4 : ¬ (4 ≤ k) := fun h9 => (show ¬ (nI 4 ≤ nI k) from c_4) ((nI_leI (by omega) (by omega)).mpr h9)
          refine lv_aload_n hx hb dX3_readBody_29 rfl (lv_at hl 0 rfl) ?_
          refine va_get (D := D) (ci := 3) (v := .int (nI p1)) (C := RX3) (T := TX3) (N := 3) hx hb hts ilX3_readBody_3 hown hG.1 hP 0 rfl rfl 1 (by decide) (hts (.fieldLink RX3 26 "HornEngine$RuleReader" "position" "I") (List.mem_of_getElem? (i := 1) rfl)) (fun _ h9 => h9) rfl dX3_readBody_30 ?_
          refine lv_istore (lv' := [(4, .int (nI p1)), (0, .ref rr), (1, .ref ro), (2, .int x2), (3, .int (nI k))]) hx hb dX3_readBody_33 hl (by decide) rfl (fun ls hl => ?_)
          refine lv_aload_n hx hb dX3_readBody_35 rfl (lv_at hl 1 rfl) ?_
          refine lv_aload_n hx hb dX3_readBody_36 rfl (lv_at hl 2 rfl) ?_
          refine ef_V (As := [.ref ro]) (rest := []) (wr := []) ⟨hx, hb, hml, hown, hts⟩ hG hP hD hS hA (k_X3_readAtom l D cI cB rr dr p1 err1 ro qi it cn (by omega) (by omega) _) (cwV 1 hts gX3_readBody_X3_readAtom rfl rfl rfl (by decide +kernel) ⟨(Nat.le_of_ble_eq_true rfl), (Nat.le_of_ble_eq_true rfl)⟩) [0, 1, 2] [] rfl rfl rfl rfl (by decide) 0 rfl rfl rfl rfl hl.1 rfl (Nat.le_of_ble_eq_true rfl) dX3_readBody_37 ⟨(Nat.le_of_ble_eq_true rfl), (Nat.le_of_ble_eq_true rfl)⟩ (fun v_6 u_6 H locs w_6 hP hD hS => ?_)
          obtain ⟨rv9_6, pos9_6, err9_6⟩ := u_6
          obtain ⟨e_6, w_6⟩ := w_6
          have w_6 : rdR (rdA it cn p1) rv9_6 pos9_6 err9_6 ∧ pos9_6 ≤ cn := w_6
          have e_6 : v_6 = some (.int rv9_6) := e_6
          subst e_6
          have hP : va_P D vwCl [(rr, .inr (3, [.ref dr, .int (nI pos9_6), .int err9_6])), (ro, .inr (2, [.ref qi, .int (nI cn)])), (qi, .inl (cI, 120, .inl it))] H := hP.sub [0, 1, 2] rfl
          have hD : va_D A [(rr, .inr (3, [.ref dr, .int (nI pos9_6), .int err9_6])), (ro, .inr (2, [.ref qi, .int (nI cn)])), (qi, .inl (cI, 120, .inl it))] := hD.sub [0, 1, 2] rfl rfl
          refine W.eq (g2 := F0 m 40 ls [.int rv9_6]) rfl ?_
          have hrd := w_6.1
          have hpl := w_6.2
          refine lv_istore (lv' := [(5, .int rv9_6), (4, .int (nI p1)), (0, .ref rr), (1, .ref ro), (2, .int x2), (3, .int (nI k))]) hx hb dX3_readBody_40 hl (by decide) rfl (fun ls hl => ?_)
          refine lv_iload hx hb dX3_readBody_42 (lv_at hl 0 rfl) ?_
          refine lv_iconst (v := (-1)) hx hb dX3_readBody_44 (by decide) ?_
          refine lv_icmp_ne (tgt := 50) hx hb dX3_readBody_45 (by decide) (fun c_7 => ?_) (fun c_7 => ?_)
          · skip
            have hRA := rdA_ok hrd c_7
            refine lv_iload_n hx hb dX3_readBody_50 rfl (lv_at hl 4 rfl) ?_
            refine lv_iload hx hb dX3_readBody_51 (lv_at hl 0 rfl) ?_
            refine pu_SN (As := [.int x2, .int rv9_6]) (rest := []) ⟨hx, hb, hml, hown, hts⟩ hG hP (k_X5_contains l D cI cB x2 rv9_6 ) (va_cnB 2 hts gX3_readBody_X5_contains_n69 rfl rfl rfl (hG.2 _ (List.mem_of_getElem? (i := 9) rfl)) (hts (.initialized RX5) (List.mem_of_getElem? (i := 31) rfl)) (by decide +kernel) ⟨(Nat.le_of_ble_eq_true rfl), (Nat.le_of_ble_eq_true rfl)⟩) (hts (.static yX5_contains) (List.mem_of_getElem? (i := 33) rfl)) [] rfl rfl hl.1 rfl (Nat.le_of_ble_eq_true rfl) dX3_readBody_53 ⟨Nat.zero_le _, Nat.zero_le _⟩ ?_
            refine lv_if_eq (tgt := 66) hx hb dX3_readBody_56 (by decide) (fun c_8 => ?_) (fun c_8 => ?_)
            · skip
              have c_8 : (has x2 rv9_6) = false := bI_f.mp c_8
              have hd : has x2 rv9_6 = false := c_8
              have hs1 := skp_le (it := it) hpl
              refine lv_iload_n hx hb dX3_readBody_66 rfl (lv_at hl 4 rfl) ?_
              refine lv_iconst (v := nI 1) hx hb dX3_readBody_67 (by decide) ?_
              refine lv_iload hx hb dX3_readBody_68 (lv_at hl 0 rfl) ?_
              refine lv_ishl hx hb dX3_readBody_70 ?_
              refine lv_ior hx hb dX3_readBody_71 ?_
              refine lv_istore_n (lv' := [(2, .int (x2 ||| ((nI 1) <<< (rv9_6 &&& 31)))), (5, .int rv9_6), (4, .int (nI p1)), (0, .ref rr), (1, .ref ro), (3, .int (nI k))]) hx hb dX3_readBody_72 rfl hl (by decide) rfl (fun ls hl => ?_)
              refine lv_aload_n hx hb dX3_readBody_73 rfl (lv_at hl 3 rfl) ?_
              refine lv_aload_n hx hb dX3_readBody_74 rfl (lv_at hl 4 rfl) ?_
              refine ef_V (As := [.ref ro]) (rest := []) (wr := []) ⟨hx, hb, hml, hown, hts⟩ hG hP hD hS hA (k_X3_skipSpaces l D cI cB rr dr pos9_6 err9_6 ro qi it cn (by omega) (by omega) _) (cwV 1 hts gX3_readBody_X3_skipSpaces rfl rfl rfl (by decide +kernel) ⟨(Nat.le_of_ble_eq_true rfl), (Nat.le_of_ble_eq_true rfl)⟩) [0, 1, 2] [] rfl rfl rfl rfl (by decide) 0 rfl rfl rfl rfl hl.1 rfl (Nat.le_of_ble_eq_true rfl) dX3_readBody_75 ⟨(Nat.le_of_ble_eq_true rfl), (Nat.le_of_ble_eq_true rfl)⟩ (fun v_9 u_9 H locs w_9 hP hD hS => ?_)
              have w_9 : v_9 = none := w_9
              subst w_9
              have hP : va_P D vwCl [(rr, .inr (3, [.ref dr, .int (nI (skp it cn pos9_6)), .int err9_6])), (ro, .inr (2, [.ref qi, .int (nI cn)])), (qi, .inl (cI, 120, .inl it))] H := hP.sub [0, 1, 2] rfl
              have hD : va_D A [(rr, .inr (3, [.ref dr, .int (nI (skp it cn pos9_6)), .int err9_6])), (ro, .inr (2, [.ref qi, .int (nI cn)])), (qi, .inl (cI, 120, .inl it))] := hD.sub [0, 1, 2] rfl rfl
              refine W.eq (g2 := F0 m 78 ls []) rfl ?_
              refine lv_aload_n hx hb dX3_readBody_78 rfl (lv_at hl 4 rfl) ?_
              refine lv_aload_n hx hb dX3_readBody_79 rfl (lv_at hl 3 rfl) ?_
              refine va_get (D := D) (ci := 3) (v := .int (nI (skp it cn pos9_6))) (C := RX3) (T := TX3) (N := 3) hx hb hts ilX3_readBody_3 hown hG.1 hP 0 rfl rfl 1 (by decide) (hts (.fieldLink RX3 26 "HornEngine$RuleReader" "position" "I") (List.mem_of_getElem? (i := 1) rfl)) (fun _ h9 => h9) rfl dX3_readBody_80 ?_
              refine pu_V (As := [.int (nI (skp it cn pos9_6))]) (rest := []) ⟨hx, hb, hml, hown, hts⟩ hG hP (k_X2_itemAt l D cI cB ro qi it cn 120 (nI (skp it cn pos9_6)) (by decide) (by omega)) (cwV 1 hts gX3_readBody_X2_itemAt rfl rfl rfl (by decide +kernel) ⟨(Nat.le_of_ble_eq_true rfl), (Nat.le_of_ble_eq_true rfl)⟩) [1, 2] rfl 1 rfl rfl rfl rfl hl.1 rfl (Nat.le_of_ble_eq_true rfl) dX3_readBody_83 ⟨Nat.zero_le _, Nat.zero_le _⟩ ?_
              refine lv_eqi (itm_tc it (by omega) (by omega)) ?_
              refine lv_bipush (v := nI 44) hx hb dX3_readBody_86 (by decide) ?_
              refine lv_icmp_eq (tgt := 93) hx hb dX3_readBody_88 (by decide) (fun c_10 => ?_) (fun c_10 => ?_)
              · skip
                have h44 : tc it cn (skp it cn pos9_6) = nI 44 := c_10
                have hl4 := tc_lt h44 (by decide)
                have hs2 := skp_le (it := it) (show skp it cn pos9_6 + 1 ≤ cn from hl4)
                refine lv_aload_n hx hb dX3_readBody_93 rfl (lv_at hl 3 rfl) ?_
                refine lv_dup hx hb dX3_readBody_94 rfl ?_
                refine va_get (D := D) (ci := 3) (v := .int (nI (skp it cn pos9_6))) (C := RX3) (T := TX3) (N := 3) hx hb hts ilX3_readBody_3 hown hG.1 hP 0 rfl rfl 1 (by decide) (hts (.fieldLink RX3 26 "HornEngine$RuleReader" "position" "I") (List.mem_of_getElem? (i := 1) rfl)) (fun _ h9 => h9) rfl dX3_readBody_95 ?_
                refine lv_iconst (v := nI 1) hx hb dX3_readBody_98 (by decide) ?_
                refine lv_iadd hx hb dX3_readBody_99 ?_
                refine lv_eqi (nI_add (skp it cn pos9_6) 1) ?_
                refine va_put (D := D) (ci := 3) (v := .int (nI (skp it cn pos9_6 + 1))) (ty := .int) (C := RX3) (T := TX3) (N := 3) hx hb hts ilX3_readBody_3 tyX3 tyX3_ok nmX3 hown hG.1 hP hD hS 0 rfl rfl 1 (by decide) (hts (.fieldLink RX3 26 "HornEngine$RuleReader" "position" "I") (List.mem_of_getElem? (i := 1) rfl)) (fun _ h9 => h9) rfl (by decide +kernel) rfl rfl (Nat.le_of_ble_eq_true rfl) dX3_readBody_100 (fun H locs hP hD hS => ?_)
                have hP : va_P D vwCl [(rr, .inr (3, [.ref dr, .int (nI (skp it cn pos9_6 + 1)), .int err9_6])), (ro, .inr (2, [.ref qi, .int (nI cn)])), (qi, .inl (cI, 120, .inl it))] H := hP
                have hD : va_D A [(rr, .inr (3, [.ref dr, .int (nI (skp it cn pos9_6 + 1)), .int err9_6])), (ro, .inr (2, [.ref qi, .int (nI cn)])), (qi, .inl (cI, 120, .inl it))] := hD
                refine lv_aload_n hx hb dX3_readBody_103 rfl (lv_at hl 3 rfl) ?_
                refine lv_aload_n hx hb dX3_readBody_104 rfl (lv_at hl 4 rfl) ?_
                refine ef_V (As := [.ref ro]) (rest := []) (wr := []) ⟨hx, hb, hml, hown, hts⟩ hG hP hD hS hA (k_X3_skipSpaces l D cI cB rr dr (skp it cn pos9_6 + 1) err9_6 ro qi it cn (by omega) (by omega) _) (cwV 1 hts gX3_readBody_X3_skipSpaces rfl rfl rfl (by decide +kernel) ⟨(Nat.le_of_ble_eq_true rfl), (Nat.le_of_ble_eq_true rfl)⟩) [0, 1, 2] [] rfl rfl rfl rfl (by decide) 0 rfl rfl rfl rfl hl.1 rfl (Nat.le_of_ble_eq_true rfl) dX3_readBody_105 ⟨(Nat.le_of_ble_eq_true rfl), (Nat.le_of_ble_eq_true rfl)⟩ (fun v_11 u_11 H locs w_11 hP hD hS => ?_)
                have w_11 : v_11 = none := w_11
                subst w_11
                have hP : va_P D vwCl [(rr, .inr (3, [.ref dr, .int (nI (skp it cn (skp it cn pos9_6 + 1))), .int err9_6])), (ro, .inr (2, [.ref qi, .int (nI cn)])), (qi, .inl (cI, 120, .inl it))] H := hP.sub [0, 1, 2] rfl
                have hD : va_D A [(rr, .inr (3, [.ref dr, .int (nI (skp it cn (skp it cn pos9_6 + 1))), .int err9_6])), (ro, .inr (2, [.ref qi, .int (nI cn)])), (qi, .inl (cI, 120, .inl it))] := hD.sub [0, 1, 2] rfl rfl
                refine W.eq (g2 := F0 m 108 ls []) rfl ?_
                refine lv_iinc (v := nI (k + 1)) (lv' := [(3, .int (nI (k + 1))), (2, .int (x2 ||| ((nI 1) <<< (rv9_6 &&& 31)))), (5, .int rv9_6), (4, .int (nI p1)), (0, .ref rr), (1, .ref ro)]) hx hb dX3_readBody_108 hl (k := 5) rfl (nI_s1 k) (by decide) rfl (fun ls hl => ?_)
                refine lv_goto (tgt := 24) hx hb dX3_readBody_111 (by decide) ?_
                exact ih_24 (k + 1) (x2 ||| ((nI 1) <<< (rv9_6 &&& 31))) (skp it cn (skp it cn pos9_6 + 1)) err9_6 (by omega) hs2 (by rw [← eB, show 4 - k = (4 - (k + 1)) + 1 from by omega, rdBL, hRA.1]; dsimp only; rw [if_neg (by rw [hd]; decide), if_pos h44]) (by omega) _ _ hP hD hS ls (lv_sub hl [4, 5, 1, 0] rfl)
              · skip
                have h44 : ¬ tc it cn (skp it cn pos9_6) = nI 44 := c_10
                refine lv_iload_n hx hb dX3_readBody_91 rfl (lv_at hl 0 rfl) ?_
                exact hret _ (x2 ||| (nI 1 <<< (rv9_6 &&& 31)), skp it cn pos9_6, err9_6) _ _ _ _ (⟨rfl, by rw [← eB, show 4 - k = (4 - (k + 1)) + 1 from by omega, rdBL, hRA.1]; dsimp only; rw [if_neg (by rw [hd]; decide), if_neg h44]; exact ⟨rfl, rfl⟩, hs1⟩) (hP) (hD) hS dX3_readBody_92
            · skip
              have c_8 : (has x2 rv9_6) = true := bI_t.mp c_8
              have hd : has x2 rv9_6 = true := c_8
              refine lv_aload_n hx hb dX3_readBody_59 rfl (lv_at hl 2 rfl) ?_
              refine lv_iload hx hb dX3_readBody_60 (lv_at hl 1 rfl) ?_
              refine ef_V (As := [.int (nI p1)]) (rest := []) (wr := [(ro, .inr (2, [.ref qi, .int (nI cn)])), (qi, .inl (cI, 120, .inl it))]) ⟨hx, hb, hml, hown, hts⟩ hG hP hD hS hA (k_X3_refuse l D cI cB rr dr pos9_6 err9_6 (nI p1)  _) (cwV 1 hts gX3_readBody_X3_refuse rfl rfl rfl (by decide +kernel) ⟨(Nat.le_of_ble_eq_true rfl), (Nat.le_of_ble_eq_true rfl)⟩) [0] [1, 2] rfl rfl rfl rfl (by decide) 0 rfl rfl rfl rfl hl.1 rfl (Nat.le_of_ble_eq_true rfl) dX3_readBody_62 ⟨(Nat.le_of_ble_eq_true rfl), (Nat.le_of_ble_eq_true rfl)⟩ (fun v_12 u_12 H locs w_12 hP hD hS => ?_)
              have w_12 : v_12 = some (.int (-1)) := w_12
              subst w_12
              have hP : va_P D vwCl [(rr, .inr (3, [.ref dr, .int (nI pos9_6), .int (nI p1)])), (ro, .inr (2, [.ref qi, .int (nI cn)])), (qi, .inl (cI, 120, .inl it))] H := hP.sub [2, 0, 1] rfl
              have hD : va_D A [(rr, .inr (3, [.ref dr, .int (nI pos9_6), .int (nI p1)])), (ro, .inr (2, [.ref qi, .int (nI cn)])), (qi, .inl (cI, 120, .inl it))] := hD.sub [2, 0, 1] rfl rfl
              refine W.eq (g2 := F0 m 65 ls [.int (-1)]) rfl ?_
              exact hret _ (-1, pos9_6, nI p1) _ _ _ _ (⟨rfl, by rw [← eB, show 4 - k = (4 - (k + 1)) + 1 from by omega, rdBL, hRA.1]; dsimp only; rw [if_pos hd]; exact ⟨rfl, rfl⟩, hpl⟩) (hP) (hD) hS dX3_readBody_65
          · skip
            obtain ⟨z, hz, hze⟩ := rdA_err hrd c_7
            refine lv_iconst (v := (-1)) hx hb dX3_readBody_48 (by decide) ?_
            exact hret _ (-1, pos9_6, err9_6) _ _ _ _ (⟨rfl, by rw [← eB, show 4 - k = (4 - (k + 1)) + 1 from by omega, rdBL, hz]; exact ⟨rfl, hze⟩, hpl⟩) (hP) (hD) hS dX3_readBody_49
    exact lp_24_3 (4 - 0 + 1) 0 (nI 0) (skp it cn pos) err (by omega) hsk (by rw [rdB, if_neg h59]) (Nat.lt_succ_self _) _ _ hP hD hS ls (lv_sub hl [2, 3, 1, 0] rfl)
  · skip
    have h59 : tc it cn (skp it cn pos) = nI 59 := c_2
    refine lv_iload_n hx hb dX3_readBody_20 rfl (lv_at hl 0 rfl) ?_
    exact hret _ (nI 0, skp it cn pos, err) _ _ _ _ (⟨rfl, by rw [rdB, if_pos h59]; exact ⟨rfl, rfl⟩, hsk⟩) (hP) (hD) hS dX3_readBody_21
set_option maxHeartbeats 4000000 in
set_option maxRecDepth 100000 in
theorem k_X3_copyResultTo (l : Launch) (D : va_G) (cI cB : ClassId) (rr : Nat) (dr : Nat) (pos : Nat) (err : Int32) (dqh : Nat) (dqb : Nat) (dh : Nat → Int32) (db : Nat → Int32) (dn : Nat) (das : Int32) (b : Nat) (qh : Nat) (qb : Nat) (hs : Nat → Int32) (bs : Nat → Int32) (n : Nat) (as_ : Int32) (hdn : dn ≤ 24) (sz : Nat) : Wr l yX3_copyResultTo wsX3_copyResultTo ({ frames := 1, cells := 0, slots := 0, locals := 22 }) D cI cB [.ref rr, .ref b] [(rr, .inr (3, [.ref dr, .int (nI pos), .int err])), (dr, .inr (4, [.ref dqh, .ref dqb, .int (nI dn), .int das])), (dqh, .inl (cI, 24, .inl dh)), (dqb, .inl (cI, 24, .inl db)), (b, .inr (4, [.ref qh, .ref qb, .int (nI n), .int as_])), (qh, .inl (cI, 24, .inl hs)), (qb, .inl (cI, 24, .inl bs))] sz (S := Unit) (fun v u => v = none) (fun u => [(rr, .inr (3, [.ref dr, .int (nI pos), .int err])), (dr, .inr (4, [.ref dqh, .ref dqb, .int (nI dn), .int das])), (dqh, .inl (cI, 24, .inl dh)), (dqb, .inl (cI, 24, .inl db)), (b, .inr (4, [.ref qh, .ref qb, .int (nI dn), .int das])), (qh, .inl (cI, 24, .inl (cpF dh hs dn))), (qb, .inl (cI, 24, .inl (cpF db bs dn)))]) 0 0 := by
  refine ef_startV (cc := cX3_copyResultTo) (maxL := 2) (by decide) rfl (Nat.le_of_ble_eq_true rfl) ?_
  intro p e s m args below meth c Q A hx hb hml hown hts hP hG hD hA hin hret ls hl
  have hown : s.vm.findClass RX3 = some m.cls := hown
  have hl : lv_has ls 2 [(0, .ref rr), (1, .ref b)] := hl
  have hS : va_S A s.heap s.heap [] := va_S.rf
  refine lv_aload_n hx hb dX3_copyResultTo_0 rfl (lv_at hl 1 rfl) ?_
  refine lv_aload_n hx hb dX3_copyResultTo_1 rfl (lv_at hl 0 rfl) ?_
  refine va_get (D := D) (ci := 3) (v := .ref dr) (C := RX3) (T := TX3) (N := 3) hx hb hts ilX3_copyResultTo_3 hown hG.1 hP 0 rfl rfl 0 (by decide) (hts (.fieldLink RX3 12 "HornEngine$RuleReader" "draft" "LHornEngine$Rulebook;") (List.mem_of_getElem? (i := 1) rfl)) (fun _ h9 => h9) rfl dX3_copyResultTo_2 ?_
  refine ef_V (As := [.ref dr]) (rest := []) (wr := [(rr, .inr (3, [.ref dr, .int (nI pos), .int err]))]) ⟨hx, hb, hml, hown, hts⟩ hG hP hD hS hA (k_X4_copyFrom l D cI cB b qh qb hs bs n as_ dr dqh dqb dh db dn das (by omega) _) (cwV 1 hts gX3_copyResultTo_X4_copyFrom rfl rfl rfl (by decide +kernel) ⟨(Nat.le_of_ble_eq_true rfl), (Nat.le_of_ble_eq_true rfl)⟩) [4, 5, 6, 1, 2, 3] [0] rfl rfl rfl rfl (by decide) 4 rfl rfl rfl rfl hl.1 rfl (Nat.le_of_ble_eq_true rfl) dX3_copyResultTo_5 ⟨(Nat.le_of_ble_eq_true rfl), (Nat.le_of_ble_eq_true rfl)⟩ (fun v_1 u_1 H locs w_1 hP hD hS => ?_)
  have w_1 : v_1 = none := w_1
  subst w_1
  have hP : va_P D vwCl [(rr, .inr (3, [.ref dr, .int (nI pos), .int err])), (dr, .inr (4, [.ref dqh, .ref dqb, .int (nI dn), .int das])), (dqh, .inl (cI, 24, .inl dh)), (dqb, .inl (cI, 24, .inl db)), (b, .inr (4, [.ref qh, .ref qb, .int (nI dn), .int das])), (qh, .inl (cI, 24, .inl (cpF dh hs dn))), (qb, .inl (cI, 24, .inl (cpF db bs dn)))] H := hP.sub [0, 4, 5, 6, 1, 2, 3] rfl
  have hD : va_D A [(rr, .inr (3, [.ref dr, .int (nI pos), .int err])), (dr, .inr (4, [.ref dqh, .ref dqb, .int (nI dn), .int das])), (dqh, .inl (cI, 24, .inl dh)), (dqb, .inl (cI, 24, .inl db)), (b, .inr (4, [.ref qh, .ref qb, .int (nI dn), .int das])), (qh, .inl (cI, 24, .inl (cpF dh hs dn))), (qb, .inl (cI, 24, .inl (cpF db bs dn)))] := hD.sub [0, 4, 5, 6, 1, 2, 3] rfl rfl
  refine W.eq (g2 := F0 m 8 ls []) rfl ?_
  exact hret () _ _ _ _ (rfl) (hP) (hD) hS dX3_copyResultTo_8
set_option maxHeartbeats 4000000 in
set_option maxRecDepth 100000 in
theorem k_X3_readRule (l : Launch) (D : va_G) (cI cB : ClassId) (rr : Nat) (dr : Nat) (pos : Nat) (err : Int32) (dqh : Nat) (dqb : Nat) (dh : Nat → Int32) (db : Nat → Int32) (dn : Nat) (das : Int32) (ro : Nat) (qi : Nat) (it : Nat → Int32) (cn : Nat) (hcn : cn ≤ 120) (hpos : pos ≤ cn) (hdn : dn ≤ 24) (sz : Nat) : Wr l yX3_readRule wsX3_readRule ({ frames := 3, cells := 0, slots := 0, locals := 69 }) D cI cB [.ref rr, .ref ro] [(rr, .inr (3, [.ref dr, .int (nI pos), .int err])), (dr, .inr (4, [.ref dqh, .ref dqb, .int (nI dn), .int das])), (dqh, .inl (cI, 24, .inl dh)), (dqb, .inl (cI, 24, .inl db)), (ro, .inr (2, [.ref qi, .int (nI cn)])), (qi, .inl (cI, 120, .inl it))] sz (S := Bool × Nat × Int32 × (Nat → Int32) × (Nat → Int32) × Nat) (fun v u => v = some (.int (bI u.1)) ∧ (ruR (rdU it cn dn pos) dh db dn u.1 u.2.1 u.2.2.1 u.2.2.2.1 u.2.2.2.2.1 u.2.2.2.2.2 ∧ u.2.1 ≤ cn ∧ u.2.2.2.2.2 ≤ 24)) (fun u => [(rr, .inr (3, [.ref dr, .int (nI u.2.1), .int u.2.2.1])), (dr, .inr (4, [.ref dqh, .ref dqb, .int (nI u.2.2.2.2.2), .int das])), (dqh, .inl (cI, 24, .inl u.2.2.2.1)), (dqb, .inl (cI, 24, .inl u.2.2.2.2.1)), (ro, .inr (2, [.ref qi, .int (nI cn)])), (qi, .inl (cI, 120, .inl it))]) 0 0 := by
  refine ef_startZ (cc := cX3_readRule) (maxL := 4) (by decide) rfl (Nat.le_of_ble_eq_true rfl) ?_
  intro p e s m args below meth c Q A hx hb hml hown hts hP hG hD hA hret ls hl
  have hown : s.vm.findClass RX3 = some m.cls := hown
  have hl : lv_has ls 4 [(0, .ref rr), (1, .ref ro)] := hl
  have hS : va_S A s.heap s.heap [] := va_S.rf
  refine lv_aload_n hx hb dX3_readRule_0 rfl (lv_at hl 0 rfl) ?_
  refine va_get (D := D) (ci := 3) (v := .ref dr) (C := RX3) (T := TX3) (N := 3) hx hb hts ilX3_readRule_3 hown hG.1 hP 0 rfl rfl 0 (by decide) (hts (.fieldLink RX3 12 "HornEngine$RuleReader" "draft" "LHornEngine$Rulebook;") (List.mem_of_getElem? (i := 1) rfl)) (fun _ h9 => h9) rfl dX3_readRule_1 ?_
  refine pu_V (As := []) (rest := []) ⟨hx, hb, hml, hown, hts⟩ hG hP (k_X4_isFull l D cI cB dr dqh dqb dh db dn das hdn) (cwV 0 hts gX3_readRule_X4_isFull rfl rfl rfl (by decide +kernel) ⟨(Nat.le_of_ble_eq_true rfl), (Nat.le_of_ble_eq_true rfl)⟩) [1, 2, 3] rfl 1 rfl rfl rfl rfl hl.1 rfl (Nat.le_of_ble_eq_true rfl) dX3_readRule_4 ⟨Nat.zero_le _, Nat.zero_le _⟩ ?_
  refine lv_if_eq (tgt := 21) hx hb dX3_readRule_7 (by decide) (fun c_1 => ?_) (fun c_1 => ?_)
  · skip
    have c_1 : (decide (24 ≤ dn)) = false := bI_f.mp c_1
    have hnf : ¬ 24 ≤ dn := of_decide_eq_false c_1
    refine lv_aload_n hx hb dX3_readRule_21 rfl (lv_at hl 0 rfl) ?_
    refine lv_aload_n hx hb dX3_readRule_22 rfl (lv_at hl 1 rfl) ?_
    refine ef_V (As := [.ref ro]) (rest := []) (wr := [(dr, .inr (4, [.ref dqh, .ref dqb, .int (nI dn), .int das])), (dqh, .inl (cI, 24, .inl dh)), (dqb, .inl (cI, 24, .inl db))]) ⟨hx, hb, hml, hown, hts⟩ hG hP hD hS hA (k_X3_readAtom l D cI cB rr dr pos err ro qi it cn (by omega) (by omega) _) (cwV 1 hts gX3_readRule_X3_readAtom rfl rfl rfl (by decide +kernel) ⟨(Nat.le_of_ble_eq_true rfl), (Nat.le_of_ble_eq_true rfl)⟩) [0, 4, 5] [1, 2, 3] rfl rfl rfl rfl (by decide) 0 rfl rfl rfl rfl hl.1 rfl (Nat.le_of_ble_eq_true rfl) dX3_readRule_23 ⟨(Nat.le_of_ble_eq_true rfl), (Nat.le_of_ble_eq_true rfl)⟩ (fun v_2 u_2 H locs w_2 hP hD hS => ?_)
    obtain ⟨rv9_2, pos9_2, err9_2⟩ := u_2
    obtain ⟨e_2, w_2⟩ := w_2
    have w_2 : rdR (rdA it cn pos) rv9_2 pos9_2 err9_2 ∧ pos9_2 ≤ cn := w_2
    have e_2 : v_2 = some (.int rv9_2) := e_2
    subst e_2
    have hP : va_P D vwCl [(rr, .inr (3, [.ref dr, .int (nI pos9_2), .int err9_2])), (dr, .inr (4, [.ref dqh, .ref dqb, .int (nI dn), .int das])), (dqh, .inl (cI, 24, .inl dh)), (dqb, .inl (cI, 24, .inl db)), (ro, .inr (2, [.ref qi, .int (nI cn)])), (qi, .inl (cI, 120, .inl it))] H := hP.sub [3, 0, 1, 2, 4, 5] rfl
    have hD : va_D A [(rr, .inr (3, [.ref dr, .int (nI pos9_2), .int err9_2])), (dr, .inr (4, [.ref dqh, .ref dqb, .int (nI dn), .int das])), (dqh, .inl (cI, 24, .inl dh)), (dqb, .inl (cI, 24, .inl db)), (ro, .inr (2, [.ref qi, .int (nI cn)])), (qi, .inl (cI, 120, .inl it))] := hD.sub [3, 0, 1, 2, 4, 5] rfl rfl
    refine W.eq (g2 := F0 m 26 ls [.int rv9_2]) rfl ?_
    have hrd := w_2.1
    have hpl := w_2.2
    refine lv_istore_n (lv' := [(2, .int rv9_2), (0, .ref rr), (1, .ref ro)]) hx hb dX3_readRule_26 rfl hl (by decide) rfl (fun ls hl => ?_)
    refine lv_iload_n hx hb dX3_readRule_27 rfl (lv_at hl 0 rfl) ?_
    refine lv_iconst (v := (-1)) hx hb dX3_readRule_28 (by decide) ?_
    refine lv_icmp_eq (tgt := 42) hx hb dX3_readRule_29 (by decide) (fun c_3 => ?_) (fun c_3 => ?_)
    · skip
      obtain ⟨z, hz, hze⟩ := rdA_err hrd c_3
      refine lv_iconst (v := nI 0) hx hb dX3_readRule_42 (by decide) ?_
      exact hret (false) (false, pos9_2, err9_2, dh, db, dn) _ _ _ _ (⟨rfl, by rw [rdU, if_neg hnf, hz]; exact ⟨rfl, hze⟩, hpl, hdn⟩) (hP) (hD) hS dX3_readRule_43
    · skip
      have hRA := rdA_ok hrd c_3
      refine lv_aload_n hx hb dX3_readRule_32 rfl (lv_at hl 1 rfl) ?_
      refine lv_aload_n hx hb dX3_readRule_33 rfl (lv_at hl 2 rfl) ?_
      refine lv_bipush (v := nI 58) hx hb dX3_readRule_34 (by decide) ?_
      refine ef_V (As := [.ref ro, .int (nI 58)]) (rest := []) (wr := [(dr, .inr (4, [.ref dqh, .ref dqb, .int (nI dn), .int das])), (dqh, .inl (cI, 24, .inl dh)), (dqb, .inl (cI, 24, .inl db))]) ⟨hx, hb, hml, hown, hts⟩ hG hP hD hS hA (k_X3_take l D cI cB rr dr pos9_2 err9_2 ro qi it cn 58 (by omega) (by omega) (by decide) _) (cwV 2 hts gX3_readRule_X3_take rfl rfl rfl (by decide +kernel) ⟨(Nat.le_of_ble_eq_true rfl), (Nat.le_of_ble_eq_true rfl)⟩) [0, 4, 5] [1, 2, 3] rfl rfl rfl rfl (by decide) 0 rfl rfl rfl rfl hl.1 rfl (Nat.le_of_ble_eq_true rfl) dX3_readRule_36 ⟨(Nat.le_of_ble_eq_true rfl), (Nat.le_of_ble_eq_true rfl)⟩ (fun v_4 u_4 H locs w_4 hP hD hS => ?_)
      obtain ⟨rb9_4, pos9_4, err9_4⟩ := u_4
      obtain ⟨e_4, w_4⟩ := w_4
      have w_4 : tkR it cn pos9_2 58 rb9_4 pos9_4 err9_4 ∧ pos9_4 ≤ cn := w_4
      have e_4 : v_4 = some (.int (bI rb9_4)) := e_4
      subst e_4
      have hP : va_P D vwCl [(rr, .inr (3, [.ref dr, .int (nI pos9_4), .int err9_4])), (dr, .inr (4, [.ref dqh, .ref dqb, .int (nI dn), .int das])), (dqh, .inl (cI, 24, .inl dh)), (dqb, .inl (cI, 24, .inl db)), (ro, .inr (2, [.ref qi, .int (nI cn)])), (qi, .inl (cI, 120, .inl it))] H := hP.sub [3, 0, 1, 2, 4, 5] rfl
      have hD : va_D A [(rr, .inr (3, [.ref dr, .int (nI pos9_4), .int err9_4])), (dr, .inr (4, [.ref dqh, .ref dqb, .int (nI dn), .int das])), (dqh, .inl (cI, 24, .inl dh)), (dqb, .inl (cI, 24, .inl db)), (ro, .inr (2, [.ref qi, .int (nI cn)])), (qi, .inl (cI, 120, .inl it))] := hD.sub [3, 0, 1, 2, 4, 5] rfl rfl
      refine W.eq (g2 := F0 m 39 ls [.int (bI rb9_4)]) rfl ?_
      have htk := w_4.1
      have hpt := w_4.2
      refine lv_if_ne (tgt := 44) hx hb dX3_readRule_39 (by decide) (fun c_5 => ?_) (fun c_5 => ?_)
      · skip
        have c_5 : rb9_4 = true := bI_t.mp c_5
        obtain ⟨ht1, ht2⟩ := tk_t htk c_5
        refine lv_aload_n hx hb dX3_readRule_44 rfl (lv_at hl 1 rfl) ?_
        refine lv_aload_n hx hb dX3_readRule_45 rfl (lv_at hl 2 rfl) ?_
        refine ef_V (As := [.ref ro]) (rest := []) (wr := [(dr, .inr (4, [.ref dqh, .ref dqb, .int (nI dn), .int das])), (dqh, .inl (cI, 24, .inl dh)), (dqb, .inl (cI, 24, .inl db))]) ⟨hx, hb, hml, hown, hts⟩ hG hP hD hS hA (k_X3_readBody l D cI cB rr dr pos9_4 err9_4 ro qi it cn (by omega) (by omega) _) (cwV 1 hts gX3_readRule_X3_readBody rfl rfl rfl (by decide +kernel) ⟨(Nat.le_of_ble_eq_true rfl), (Nat.le_of_ble_eq_true rfl)⟩) [0, 4, 5] [1, 2, 3] rfl rfl rfl rfl (by decide) 0 rfl rfl rfl rfl hl.1 rfl (Nat.le_of_ble_eq_true rfl) dX3_readRule_46 ⟨(Nat.le_of_ble_eq_true rfl), (Nat.le_of_ble_eq_true rfl)⟩ (fun v_6 u_6 H locs w_6 hP hD hS => ?_)
        obtain ⟨rv9_6, pos9_6, err9_6⟩ := u_6
        obtain ⟨e_6, w_6⟩ := w_6
        have w_6 : rdR (rdB it cn pos9_4) rv9_6 pos9_6 err9_6 ∧ pos9_6 ≤ cn := w_6
        have e_6 : v_6 = some (.int rv9_6) := e_6
        subst e_6
        have hP : va_P D vwCl [(rr, .inr (3, [.ref dr, .int (nI pos9_6), .int err9_6])), (dr, .inr (4, [.ref dqh, .ref dqb, .int (nI dn), .int das])), (dqh, .inl (cI, 24, .inl dh)), (dqb, .inl (cI, 24, .inl db)), (ro, .inr (2, [.ref qi, .int (nI cn)])), (qi, .inl (cI, 120, .inl it))] H := hP.sub [3, 0, 1, 2, 4, 5] rfl
        have hD : va_D A [(rr, .inr (3, [.ref dr, .int (nI pos9_6), .int err9_6])), (dr, .inr (4, [.ref dqh, .ref dqb, .int (nI dn), .int das])), (dqh, .inl (cI, 24, .inl dh)), (dqb, .inl (cI, 24, .inl db)), (ro, .inr (2, [.ref qi, .int (nI cn)])), (qi, .inl (cI, 120, .inl it))] := hD.sub [3, 0, 1, 2, 4, 5] rfl rfl
        refine W.eq (g2 := F0 m 49 ls [.int rv9_6]) rfl ?_
        have hrd2 := w_6.1
        have hpl2 := w_6.2
        refine lv_istore_n (lv' := [(3, .int rv9_6), (2, .int rv9_2), (0, .ref rr), (1, .ref ro)]) hx hb dX3_readRule_49 rfl hl (by decide) rfl (fun ls hl => ?_)
        refine lv_iload_n hx hb dX3_readRule_50 rfl (lv_at hl 0 rfl) ?_
        refine lv_iconst (v := (-1)) hx hb dX3_readRule_51 (by decide) ?_
        refine lv_icmp_eq (tgt := 65) hx hb dX3_readRule_52 (by decide) (fun c_7 => ?_) (fun c_7 => ?_)
        · skip
          obtain ⟨z2, hz2, hze2⟩ := rdB_err hpt hrd2 c_7
          refine lv_iconst (v := nI 0) hx hb dX3_readRule_65 (by decide) ?_
          exact hret (false) (false, pos9_6, err9_6, dh, db, dn) _ _ _ _ (⟨rfl, by rw [rdU, if_neg hnf, hRA.1]; dsimp only; rw [if_neg (fun h => h ht1), ← ht2, hz2]; exact ⟨rfl, hze2⟩, hpl2, hdn⟩) (hP) (hD) hS dX3_readRule_66
        · skip
          have hRB := rdB_ok hpt hrd2 c_7
          refine lv_aload_n hx hb dX3_readRule_55 rfl (lv_at hl 2 rfl) ?_
          refine lv_aload_n hx hb dX3_readRule_56 rfl (lv_at hl 3 rfl) ?_
          refine lv_bipush (v := nI 59) hx hb dX3_readRule_57 (by decide) ?_
          refine ef_V (As := [.ref ro, .int (nI 59)]) (rest := []) (wr := [(dr, .inr (4, [.ref dqh, .ref dqb, .int (nI dn), .int das])), (dqh, .inl (cI, 24, .inl dh)), (dqb, .inl (cI, 24, .inl db))]) ⟨hx, hb, hml, hown, hts⟩ hG hP hD hS hA (k_X3_take l D cI cB rr dr pos9_6 err9_6 ro qi it cn 59 (by omega) (by omega) (by decide) _) (cwV 2 hts gX3_readRule_X3_take rfl rfl rfl (by decide +kernel) ⟨(Nat.le_of_ble_eq_true rfl), (Nat.le_of_ble_eq_true rfl)⟩) [0, 4, 5] [1, 2, 3] rfl rfl rfl rfl (by decide) 0 rfl rfl rfl rfl hl.1 rfl (Nat.le_of_ble_eq_true rfl) dX3_readRule_59 ⟨(Nat.le_of_ble_eq_true rfl), (Nat.le_of_ble_eq_true rfl)⟩ (fun v_8 u_8 H locs w_8 hP hD hS => ?_)
          obtain ⟨rb9_8, pos9_8, err9_8⟩ := u_8
          obtain ⟨e_8, w_8⟩ := w_8
          have w_8 : tkR it cn pos9_6 59 rb9_8 pos9_8 err9_8 ∧ pos9_8 ≤ cn := w_8
          have e_8 : v_8 = some (.int (bI rb9_8)) := e_8
          subst e_8
          have hP : va_P D vwCl [(rr, .inr (3, [.ref dr, .int (nI pos9_8), .int err9_8])), (dr, .inr (4, [.ref dqh, .ref dqb, .int (nI dn), .int das])), (dqh, .inl (cI, 24, .inl dh)), (dqb, .inl (cI, 24, .inl db)), (ro, .inr (2, [.ref qi, .int (nI cn)])), (qi, .inl (cI, 120, .inl it))] H := hP.sub [3, 0, 1, 2, 4, 5] rfl
          have hD : va_D A [(rr, .inr (3, [.ref dr, .int (nI pos9_8), .int err9_8])), (dr, .inr (4, [.ref dqh, .ref dqb, .int (nI dn), .int das])), (dqh, .inl (cI, 24, .inl dh)), (dqb, .inl (cI, 24, .inl db)), (ro, .inr (2, [.ref qi, .int (nI cn)])), (qi, .inl (cI, 120, .inl it))] := hD.sub [3, 0, 1, 2, 4, 5] rfl rfl
          refine W.eq (g2 := F0 m 62 ls [.int (bI rb9_8)]) rfl ?_
          have htk2 := w_8.1
          have hpt2 := w_8.2
          refine lv_if_ne (tgt := 67) hx hb dX3_readRule_62 (by decide) (fun c_9 => ?_) (fun c_9 => ?_)
          · skip
            have c_9 : rb9_8 = true := bI_t.mp c_9
            obtain ⟨ht3, ht4⟩ := tk_t htk2 c_9
            refine lv_aload_n hx hb dX3_readRule_67 rfl (lv_at hl 2 rfl) ?_
            refine va_get (D := D) (ci := 3) (v := .ref dr) (C := RX3) (T := TX3) (N := 3) hx hb hts ilX3_readRule_3 hown hG.1 hP 0 rfl rfl 0 (by decide) (hts (.fieldLink RX3 12 "HornEngine$RuleReader" "draft" "LHornEngine$Rulebook;") (List.mem_of_getElem? (i := 1) rfl)) (fun _ h9 => h9) rfl dX3_readRule_68 ?_
            refine lv_iload_n hx hb dX3_readRule_71 rfl (lv_at hl 1 rfl) ?_
            refine lv_iload_n hx hb dX3_readRule_72 rfl (lv_at hl 0 rfl) ?_
            refine ef_V (As := [.int rv9_2, .int rv9_6]) (rest := []) (wr := [(rr, .inr (3, [.ref dr, .int (nI pos9_8), .int err9_8])), (ro, .inr (2, [.ref qi, .int (nI cn)])), (qi, .inl (cI, 120, .inl it))]) ⟨hx, hb, hml, hown, hts⟩ hG hP hD hS hA (k_X4_addLast l D cI cB dr dqh dqb dh db dn das rv9_2 rv9_6 (by omega) _) (cwV 2 hts gX3_readRule_X4_addLast rfl rfl rfl (by decide +kernel) ⟨(Nat.le_of_ble_eq_true rfl), (Nat.le_of_ble_eq_true rfl)⟩) [1, 2, 3] [0, 4, 5] rfl rfl rfl rfl (by decide) 1 rfl rfl rfl rfl hl.1 rfl (Nat.le_of_ble_eq_true rfl) dX3_readRule_73 ⟨(Nat.le_of_ble_eq_true rfl), (Nat.le_of_ble_eq_true rfl)⟩ (fun v_10 u_10 H locs w_10 hP hD hS => ?_)
            have w_10 : v_10 = none := w_10
            subst w_10
            have hP : va_P D vwCl [(rr, .inr (3, [.ref dr, .int (nI pos9_8), .int err9_8])), (dr, .inr (4, [.ref dqh, .ref dqb, .int (nI (dn + 1)), .int das])), (dqh, .inl (cI, 24, .inl (upd dh dn rv9_2))), (dqb, .inl (cI, 24, .inl (upd db dn rv9_6))), (ro, .inr (2, [.ref qi, .int (nI cn)])), (qi, .inl (cI, 120, .inl it))] H := hP.sub [0, 3, 4, 5, 1, 2] rfl
            have hD : va_D A [(rr, .inr (3, [.ref dr, .int (nI pos9_8), .int err9_8])), (dr, .inr (4, [.ref dqh, .ref dqb, .int (nI (dn + 1)), .int das])), (dqh, .inl (cI, 24, .inl (upd dh dn rv9_2))), (dqb, .inl (cI, 24, .inl (upd db dn rv9_6))), (ro, .inr (2, [.ref qi, .int (nI cn)])), (qi, .inl (cI, 120, .inl it))] := hD.sub [0, 3, 4, 5, 1, 2] rfl rfl
            refine W.eq (g2 := F0 m 76 ls []) rfl ?_
            refine lv_iconst (v := nI 1) hx hb dX3_readRule_76 (by decide) ?_
            exact hret (true) (true, pos9_8, err9_8, upd dh dn rv9_2, upd db dn rv9_6, dn + 1) _ _ _ _ (⟨rfl, by rw [rdU, if_neg hnf, hRA.1]; dsimp only; rw [if_neg (fun h => h ht1), ← ht2, hRB.1]; dsimp only; rw [if_neg (fun h => h ht3)]; exact ⟨rfl, ht4, rfl, Nat.not_le.mp hnf, tab2_push dh db dn _ _⟩, hpt2, Nat.not_le.mp hnf⟩) (hP) (hD) hS dX3_readRule_77
          · skip
            have c_9 : rb9_8 = false := bI_f.mp c_9
            have hf2 := tk_f htk2 c_9
            refine lv_iconst (v := nI 0) hx hb dX3_readRule_65 (by decide) ?_
            exact hret (false) (false, pos9_8, err9_8, dh, db, dn) _ _ _ _ (⟨rfl, by rw [rdU, if_neg hnf, hRA.1]; dsimp only; rw [if_neg (fun h => h ht1), ← ht2, hRB.1]; dsimp only; rw [if_pos hf2.1]; exact ⟨rfl, hf2.2⟩, hpt2, hdn⟩) (hP) (hD) hS dX3_readRule_66
      · skip
        have c_5 : rb9_4 = false := bI_f.mp c_5
        have hf1 := tk_f htk c_5
        refine lv_iconst (v := nI 0) hx hb dX3_readRule_42 (by decide) ?_
        exact hret (false) (false, pos9_4, err9_4, dh, db, dn) _ _ _ _ (⟨rfl, by rw [rdU, if_neg hnf, hRA.1]; dsimp only; rw [if_pos hf1.1]; exact ⟨rfl, hf1.2⟩, hpt, hdn⟩) (hP) (hD) hS dX3_readRule_43
  · skip
    have c_1 : (decide (24 ≤ dn)) = true := bI_t.mp c_1
    have hfu : 24 ≤ dn := of_decide_eq_true c_1
    refine lv_aload_n hx hb dX3_readRule_10 rfl (lv_at hl 0 rfl) ?_
    refine lv_aload_n hx hb dX3_readRule_11 rfl (lv_at hl 0 rfl) ?_
    refine va_get (D := D) (ci := 3) (v := .int (nI pos)) (C := RX3) (T := TX3) (N := 3) hx hb hts ilX3_readRule_3 hown hG.1 hP 0 rfl rfl 1 (by decide) (hts (.fieldLink RX3 26 "HornEngine$RuleReader" "position" "I") (List.mem_of_getElem? (i := 2) rfl)) (fun _ h9 => h9) rfl dX3_readRule_12 ?_
    refine ef_V (As := [.int (nI pos)]) (rest := []) (wr := [(dr, .inr (4, [.ref dqh, .ref dqb, .int (nI dn), .int das])), (dqh, .inl (cI, 24, .inl dh)), (dqb, .inl (cI, 24, .inl db)), (ro, .inr (2, [.ref qi, .int (nI cn)])), (qi, .inl (cI, 120, .inl it))]) ⟨hx, hb, hml, hown, hts⟩ hG hP hD hS hA (k_X3_refuse l D cI cB rr dr pos err (nI pos)  _) (cwV 1 hts gX3_readRule_X3_refuse rfl rfl rfl (by decide +kernel) ⟨(Nat.le_of_ble_eq_true rfl), (Nat.le_of_ble_eq_true rfl)⟩) [0] [1, 2, 3, 4, 5] rfl rfl rfl rfl (by decide) 0 rfl rfl rfl rfl hl.1 rfl (Nat.le_of_ble_eq_true rfl) dX3_readRule_15 ⟨(Nat.le_of_ble_eq_true rfl), (Nat.le_of_ble_eq_true rfl)⟩ (fun v_11 u_11 H locs w_11 hP hD hS => ?_)
    have w_11 : v_11 = some (.int (-1)) := w_11
    subst w_11
    have hP : va_P D vwCl [(rr, .inr (3, [.ref dr, .int (nI pos), .int (nI pos)])), (dr, .inr (4, [.ref dqh, .ref dqb, .int (nI dn), .int das])), (dqh, .inl (cI, 24, .inl dh)), (dqb, .inl (cI, 24, .inl db)), (ro, .inr (2, [.ref qi, .int (nI cn)])), (qi, .inl (cI, 120, .inl it))] H := hP.sub [5, 0, 1, 2, 3, 4] rfl
    have hD : va_D A [(rr, .inr (3, [.ref dr, .int (nI pos), .int (nI pos)])), (dr, .inr (4, [.ref dqh, .ref dqb, .int (nI dn), .int das])), (dqh, .inl (cI, 24, .inl dh)), (dqb, .inl (cI, 24, .inl db)), (ro, .inr (2, [.ref qi, .int (nI cn)])), (qi, .inl (cI, 120, .inl it))] := hD.sub [5, 0, 1, 2, 3, 4] rfl rfl
    refine W.eq (g2 := F0 m 18 ls [.int (-1)]) rfl ?_
    refine lv_pop hx hb dX3_readRule_18 rfl ?_
    refine lv_iconst (v := nI 0) hx hb dX3_readRule_19 (by decide) ?_
    exact hret (false) (false, pos, nI pos, dh, db, dn) _ _ _ _ (⟨rfl, by rw [rdU, if_pos hfu]; exact ⟨rfl, rfl⟩, hpos, hdn⟩) (hP) (hD) hS dX3_readRule_20
set_option maxHeartbeats 4000000 in
set_option maxRecDepth 100000 in
theorem k_X3_readOnto (l : Launch) (D : va_G) (cI cB : ClassId) (rr : Nat) (dr : Nat) (pos : Nat) (err : Int32) (dqh : Nat) (dqb : Nat) (dh : Nat → Int32) (db : Nat → Int32) (dn : Nat) (das : Int32) (b : Nat) (qh : Nat) (qb : Nat) (hs : Nat → Int32) (bs : Nat → Int32) (n : Nat) (as_ : Int32) (ro : Nat) (qi : Nat) (it : Nat → Int32) (cn : Nat) (hcn : cn ≤ 120) (hn : n ≤ 24) (sz : Nat) : Wr l yX3_readOnto wsX3_readOnto ({ frames := 4, cells := 0, slots := 0, locals := 92 }) D cI cB [.ref rr, .ref b, .ref ro] [(rr, .inr (3, [.ref dr, .int (nI pos), .int err])), (dr, .inr (4, [.ref dqh, .ref dqb, .int (nI dn), .int das])), (dqh, .inl (cI, 24, .inl dh)), (dqb, .inl (cI, 24, .inl db)), (b, .inr (4, [.ref qh, .ref qb, .int (nI n), .int as_])), (qh, .inl (cI, 24, .inl hs)), (qb, .inl (cI, 24, .inl bs)), (ro, .inr (2, [.ref qi, .int (nI cn)])), (qi, .inl (cI, 120, .inl it))] sz (S := Bool × Nat × Int32 × (Nat → Int32) × (Nat → Int32) × Nat) (fun v u => v = some (.int (bI u.1)) ∧ (rlR (rdL it cn n) hs bs n u.1 u.2.2.1 u.2.2.2.1 u.2.2.2.2.1 u.2.2.2.2.2 ∧ u.2.1 ≤ cn ∧ u.2.2.2.2.2 ≤ 24)) (fun u => [(rr, .inr (3, [.ref dr, .int (nI u.2.1), .int u.2.2.1])), (dr, .inr (4, [.ref dqh, .ref dqb, .int (nI u.2.2.2.2.2), .int as_])), (dqh, .inl (cI, 24, .inl u.2.2.2.1)), (dqb, .inl (cI, 24, .inl u.2.2.2.2.1)), (b, .inr (4, [.ref qh, .ref qb, .int (nI n), .int as_])), (qh, .inl (cI, 24, .inl hs)), (qb, .inl (cI, 24, .inl bs)), (ro, .inr (2, [.ref qi, .int (nI cn)])), (qi, .inl (cI, 120, .inl it))]) 0 0 := by
  refine ef_startZ (cc := cX3_readOnto) (maxL := 4) (by decide) rfl (Nat.le_of_ble_eq_true rfl) ?_
  intro p e s m args below meth c Q A hx hb hml hown hts hP hG hD hA hret ls hl
  have hown : s.vm.findClass RX3 = some m.cls := hown
  have hl : lv_has ls 4 [(0, .ref rr), (1, .ref b), (2, .ref ro)] := hl
  have hS : va_S A s.heap s.heap [] := va_S.rf
  refine lv_aload_n hx hb dX3_readOnto_0 rfl (lv_at hl 0 rfl) ?_
  refine va_get (D := D) (ci := 3) (v := .ref dr) (C := RX3) (T := TX3) (N := 3) hx hb hts ilX3_readOnto_3 hown hG.1 hP 0 rfl rfl 0 (by decide) (hts (.fieldLink RX3 12 "HornEngine$RuleReader" "draft" "LHornEngine$Rulebook;") (List.mem_of_getElem? (i := 1) rfl)) (fun _ h9 => h9) rfl dX3_readOnto_1 ?_
  refine lv_aload_n hx hb dX3_readOnto_4 rfl (lv_at hl 1 rfl) ?_
  refine ef_V (As := [.ref b]) (rest := []) (wr := [(rr, .inr (3, [.ref dr, .int (nI pos), .int err])), (ro, .inr (2, [.ref qi, .int (nI cn)])), (qi, .inl (cI, 120, .inl it))]) ⟨hx, hb, hml, hown, hts⟩ hG hP hD hS hA (k_X4_copyFrom l D cI cB dr dqh dqb dh db dn das b qh qb hs bs n as_ (by omega) _) (cwV 1 hts gX3_readOnto_X4_copyFrom rfl rfl rfl (by decide +kernel) ⟨(Nat.le_of_ble_eq_true rfl), (Nat.le_of_ble_eq_true rfl)⟩) [1, 2, 3, 4, 5, 6] [0, 7, 8] rfl rfl rfl rfl (by decide) 1 rfl rfl rfl rfl hl.1 rfl (Nat.le_of_ble_eq_true rfl) dX3_readOnto_5 ⟨(Nat.le_of_ble_eq_true rfl), (Nat.le_of_ble_eq_true rfl)⟩ (fun v_1 u_1 H locs w_1 hP hD hS => ?_)
  have w_1 : v_1 = none := w_1
  subst w_1
  have hP : va_P D vwCl [(rr, .inr (3, [.ref dr, .int (nI pos), .int err])), (dr, .inr (4, [.ref dqh, .ref dqb, .int (nI n), .int as_])), (dqh, .inl (cI, 24, .inl (cpF hs dh n))), (dqb, .inl (cI, 24, .inl (cpF bs db n))), (b, .inr (4, [.ref qh, .ref qb, .int (nI n), .int as_])), (qh, .inl (cI, 24, .inl hs)), (qb, .inl (cI, 24, .inl bs)), (ro, .inr (2, [.ref qi, .int (nI cn)])), (qi, .inl (cI, 120, .inl it))] H := hP.sub [0, 3, 4, 5, 6, 7, 8, 1, 2] rfl
  have hD : va_D A [(rr, .inr (3, [.ref dr, .int (nI pos), .int err])), (dr, .inr (4, [.ref dqh, .ref dqb, .int (nI n), .int as_])), (dqh, .inl (cI, 24, .inl (cpF hs dh n))), (dqb, .inl (cI, 24, .inl (cpF bs db n))), (b, .inr (4, [.ref qh, .ref qb, .int (nI n), .int as_])), (qh, .inl (cI, 24, .inl hs)), (qb, .inl (cI, 24, .inl bs)), (ro, .inr (2, [.ref qi, .int (nI cn)])), (qi, .inl (cI, 120, .inl it))] := hD.sub [0, 3, 4, 5, 6, 7, 8, 1, 2] rfl rfl
  refine W.eq (g2 := F0 m 8 ls []) rfl ?_
  refine lv_aload_n hx hb dX3_readOnto_8 rfl (lv_at hl 0 rfl) ?_
  refine lv_iconst (v := nI 0) hx hb dX3_readOnto_9 (by decide) ?_
  refine va_put (D := D) (ci := 3) (v := .int (nI 0)) (ty := .int) (C := RX3) (T := TX3) (N := 3) hx hb hts ilX3_readOnto_3 tyX3 tyX3_ok nmX3 hown hG.1 hP hD hS 0 rfl rfl 1 (by decide) (hts (.fieldLink RX3 26 "HornEngine$RuleReader" "position" "I") (List.mem_of_getElem? (i := 2) rfl)) (fun _ h9 => h9) rfl (by decide +kernel) rfl rfl (Nat.le_of_ble_eq_true rfl) dX3_readOnto_10 (fun H locs hP hD hS => ?_)
  have hP : va_P D vwCl [(rr, .inr (3, [.ref dr, .int (nI 0), .int err])), (dr, .inr (4, [.ref dqh, .ref dqb, .int (nI n), .int as_])), (dqh, .inl (cI, 24, .inl (cpF hs dh n))), (dqb, .inl (cI, 24, .inl (cpF bs db n))), (b, .inr (4, [.ref qh, .ref qb, .int (nI n), .int as_])), (qh, .inl (cI, 24, .inl hs)), (qb, .inl (cI, 24, .inl bs)), (ro, .inr (2, [.ref qi, .int (nI cn)])), (qi, .inl (cI, 120, .inl it))] H := hP
  have hD : va_D A [(rr, .inr (3, [.ref dr, .int (nI 0), .int err])), (dr, .inr (4, [.ref dqh, .ref dqb, .int (nI n), .int as_])), (dqh, .inl (cI, 24, .inl (cpF hs dh n))), (dqb, .inl (cI, 24, .inl (cpF bs db n))), (b, .inr (4, [.ref qh, .ref qb, .int (nI n), .int as_])), (qh, .inl (cI, 24, .inl hs)), (qb, .inl (cI, 24, .inl bs)), (ro, .inr (2, [.ref qi, .int (nI cn)])), (qi, .inl (cI, 120, .inl it))] := hD
  refine lv_aload_n hx hb dX3_readOnto_13 rfl (lv_at hl 0 rfl) ?_
  refine lv_aload_n hx hb dX3_readOnto_14 rfl (lv_at hl 2 rfl) ?_
  refine ef_V (As := [.ref ro]) (rest := []) (wr := [(dr, .inr (4, [.ref dqh, .ref dqb, .int (nI n), .int as_])), (dqh, .inl (cI, 24, .inl (cpF hs dh n))), (dqb, .inl (cI, 24, .inl (cpF bs db n))), (b, .inr (4, [.ref qh, .ref qb, .int (nI n), .int as_])), (qh, .inl (cI, 24, .inl hs)), (qb, .inl (cI, 24, .inl bs))]) ⟨hx, hb, hml, hown, hts⟩ hG hP hD hS hA (k_X3_skipSpaces l D cI cB rr dr 0 err ro qi it cn (by omega) (Nat.zero_le _) _) (cwV 1 hts gX3_readOnto_X3_skipSpaces rfl rfl rfl (by decide +kernel) ⟨(Nat.le_of_ble_eq_true rfl), (Nat.le_of_ble_eq_true rfl)⟩) [0, 7, 8] [1, 2, 3, 4, 5, 6] rfl rfl rfl rfl (by decide) 0 rfl rfl rfl rfl hl.1 rfl (Nat.le_of_ble_eq_true rfl) dX3_readOnto_15 ⟨(Nat.le_of_ble_eq_true rfl), (Nat.le_of_ble_eq_true rfl)⟩ (fun v_2 u_2 H locs w_2 hP hD hS => ?_)
  have w_2 : v_2 = none := w_2
  subst w_2
  have hP : va_P D vwCl [(rr, .inr (3, [.ref dr, .int (nI (skp it cn 0)), .int err])), (dr, .inr (4, [.ref dqh, .ref dqb, .int (nI n), .int as_])), (dqh, .inl (cI, 24, .inl (cpF hs dh n))), (dqb, .inl (cI, 24, .inl (cpF bs db n))), (b, .inr (4, [.ref qh, .ref qb, .int (nI n), .int as_])), (qh, .inl (cI, 24, .inl hs)), (qb, .inl (cI, 24, .inl bs)), (ro, .inr (2, [.ref qi, .int (nI cn)])), (qi, .inl (cI, 120, .inl it))] H := hP.sub [6, 0, 1, 2, 3, 4, 5, 7, 8] rfl
  have hD : va_D A [(rr, .inr (3, [.ref dr, .int (nI (skp it cn 0)), .int err])), (dr, .inr (4, [.ref dqh, .ref dqb, .int (nI n), .int as_])), (dqh, .inl (cI, 24, .inl (cpF hs dh n))), (dqb, .inl (cI, 24, .inl (cpF bs db n))), (b, .inr (4, [.ref qh, .ref qb, .int (nI n), .int as_])), (qh, .inl (cI, 24, .inl hs)), (qb, .inl (cI, 24, .inl bs)), (ro, .inr (2, [.ref qi, .int (nI cn)])), (qi, .inl (cI, 120, .inl it))] := hD.sub [6, 0, 1, 2, 3, 4, 5, 7, 8] rfl rfl
  refine W.eq (g2 := F0 m 18 ls []) rfl ?_
  refine lv_iconst (v := nI 0) hx hb dX3_readOnto_18 (by decide) ?_
  refine lv_istore_n (lv' := [(3, .int (nI 0)), (0, .ref rr), (1, .ref b), (2, .ref ro)]) hx hb dX3_readOnto_19 rfl hl (by decide) rfl (fun ls hl => ?_)
  have lp_20_3 : ∀ (fu_20 : Nat) (k : Nat) (pos1 : Nat) (err1 : Int32) (dh1 : Nat → Int32) (db1 : Nat → Int32) (dn1 : Nat) (acc : List (Int32 × Int32)) (hk : dn1 = n + k) (hdn1 : dn1 ≤ 24) (hp1 : pos1 ≤ cn) (hacc : tab2 dh1 db1 dn1 = tab2 hs bs n ++ acc) (hal : acc.length = k) (hT : onR acc (rdLF it cn (25 - dn1) dn1 pos1) = rdL it cn n) (hfu_20 : 25 - k < fu_20) (H : Heap) (locs : List Loc) (hP : va_P D vwCl [(rr, .inr (3, [.ref dr, .int (nI pos1), .int err1])), (dr, .inr (4, [.ref dqh, .ref dqb, .int (nI dn1), .int as_])), (dqh, .inl (cI, 24, .inl dh1)), (dqb, .inl (cI, 24, .inl db1)), (b, .inr (4, [.ref qh, .ref qb, .int (nI n), .int as_])), (qh, .inl (cI, 24, .inl hs)), (qb, .inl (cI, 24, .inl bs)), (ro, .inr (2, [.ref qi, .int (nI cn)])), (qi, .inl (cI, 120, .inl it))] H) (hD : va_D A [(rr, .inr (3, [.ref dr, .int (nI pos1), .int err1])), (dr, .inr (4, [.ref dqh, .ref dqb, .int (nI dn1), .int as_])), (dqh, .inl (cI, 24, .inl dh1)), (dqb, .inl (cI, 24, .inl db1)), (b, .inr (4, [.ref qh, .ref qb, .int (nI n), .int as_])), (qh, .inl (cI, 24, .inl hs)), (qb, .inl (cI, 24, .inl bs)), (ro, .inr (2, [.ref qi, .int (nI cn)])), (qi, .inl (cI, 120, .inl it))]) (hS : va_S A s.heap H locs) (ls : Array Slot) (hl : lv_has ls 4 [(0, .ref rr), (1, .ref b), (2, .ref ro), (3, .int (nI k))]), W p l e ({ frames := 4, cells := 0, slots := 0, locals := 92 }) s m args below meth c H locs 0 0 Q (F0 m 20 ls []) := by
    intro fu_20
    induction fu_20 with
    | zero => intro k pos1 err1 dh1 db1 dn1 acc hk hdn1 hp1 hacc hal hT hfu; exact absurd hfu (Nat.not_lt_zero _)
    | succ fu_20 ih_20 =>
      intro k pos1 err1 dh1 db1 dn1 acc hk hdn1 hp1 hacc hal hT hfu_20 H locs hP hD hS ls hl
      refine lv_iload_n hx hb dX3_readOnto_20 rfl (lv_at hl 3 rfl) ?_
      refine lv_bipush (v := nI 24) hx hb dX3_readOnto_21 (by decide) ?_
      refine lv_icmp_gt (tgt := 58) hx hb dX3_readOnto_23 (by decide) (fun c_4 => ?_) (fun c_4 => ?_)
      · skip
        have c_4 : 24 < k := (nI_ltI (by omega) (by omega)).mp (show nI 24 < nI k from c_4)
        exact absurd c_4 (by omega)
      · skip
        have c_4 : ¬ (24 < k) := fun h9 => (show ¬ (nI 24 < nI k) from c_4) ((nI_ltI (by omega) (by omega)).mpr h9)
        refine lv_aload_n hx hb dX3_readOnto_26 rfl (lv_at hl 0 rfl) ?_
        refine va_get (D := D) (ci := 3) (v := .int (nI pos1)) (C := RX3) (T := TX3) (N := 3) hx hb hts ilX3_readOnto_3 hown hG.1 hP 0 rfl rfl 1 (by decide) (hts (.fieldLink RX3 26 "HornEngine$RuleReader" "position" "I") (List.mem_of_getElem? (i := 2) rfl)) (fun _ h9 => h9) rfl dX3_readOnto_27 ?_
        refine lv_aload_n hx hb dX3_readOnto_30 rfl (lv_at hl 2 rfl) ?_
        refine pu_V (As := []) (rest := [.int (nI pos1)]) ⟨hx, hb, hml, hown, hts⟩ hG hP (k_X2_size l D cI cB ro qi it cn 120 (by decide) (by omega)) (cwV 0 hts gX3_readOnto_X2_size rfl rfl rfl (by decide +kernel) ⟨(Nat.le_of_ble_eq_true rfl), (Nat.le_of_ble_eq_true rfl)⟩) [7, 8] rfl 7 rfl rfl rfl rfl hl.1 rfl (Nat.le_of_ble_eq_true rfl) dX3_readOnto_31 ⟨Nat.zero_le _, Nat.zero_le _⟩ ?_
        refine lv_icmp_ge (tgt := 58) hx hb dX3_readOnto_34 (by decide) (fun c_5 => ?_) (fun c_5 => ?_)
        · skip
          have c_5 : cn ≤ pos1 := (nI_leI (by omega) (by omega)).mp (show nI cn ≤ nI pos1 from c_5)
          refine lv_iconst (v := nI 1) hx hb dX3_readOnto_58 (by decide) ?_
          exact hret (true) (true, pos1, err1, dh1, db1, dn1) _ _ _ _ (⟨rfl, by rw [← hT, show 25 - dn1 = (24 - dn1) + 1 from by omega, rdLF, if_neg (by omega)]; exact ⟨rfl, by rw [List.append_nil, hal]; exact hk, hdn1, by rw [List.append_nil]; exact hacc⟩, hp1, hdn1⟩) (hP) (hD) hS dX3_readOnto_59
        · skip
          have c_5 : ¬ (cn ≤ pos1) := fun h9 => (show ¬ (nI cn ≤ nI pos1) from c_5) ((nI_leI (by omega) (by omega)).mpr h9)
          have hlt : pos1 < cn := by omega
          refine lv_aload_n hx hb dX3_readOnto_37 rfl (lv_at hl 0 rfl) ?_
          refine lv_aload_n hx hb dX3_readOnto_38 rfl (lv_at hl 2 rfl) ?_
          refine ef_V (As := [.ref ro]) (rest := []) (wr := [(b, .inr (4, [.ref qh, .ref qb, .int (nI n), .int as_])), (qh, .inl (cI, 24, .inl hs)), (qb, .inl (cI, 24, .inl bs))]) ⟨hx, hb, hml, hown, hts⟩ hG hP hD hS hA (k_X3_readRule l D cI cB rr dr pos1 err1 dqh dqb dh1 db1 dn1 as_ ro qi it cn (by omega) hp1 hdn1 _) (cwV 1 hts gX3_readOnto_X3_readRule rfl rfl rfl (by decide +kernel) ⟨(Nat.le_of_ble_eq_true rfl), (Nat.le_of_ble_eq_true rfl)⟩) [0, 1, 2, 3, 7, 8] [4, 5, 6] rfl rfl rfl rfl (by decide) 0 rfl rfl rfl rfl hl.1 rfl (Nat.le_of_ble_eq_true rfl) dX3_readOnto_39 ⟨(Nat.le_of_ble_eq_true rfl), (Nat.le_of_ble_eq_true rfl)⟩ (fun v_6 u_6 H locs w_6 hP hD hS => ?_)
          obtain ⟨rb9_6, pos9_6, err9_6, dh9_6, db9_6, dn9_6⟩ := u_6
          obtain ⟨e_6, w_6⟩ := w_6
          have w_6 : ruR (rdU it cn dn1 pos1) dh1 db1 dn1 rb9_6 pos9_6 err9_6 dh9_6 db9_6 dn9_6 ∧ pos9_6 ≤ cn ∧ dn9_6 ≤ 24 := w_6
          have e_6 : v_6 = some (.int (bI rb9_6)) := e_6
          subst e_6
          have hP : va_P D vwCl [(rr, .inr (3, [.ref dr, .int (nI pos9_6), .int err9_6])), (dr, .inr (4, [.ref dqh, .ref dqb, .int (nI dn9_6), .int as_])), (dqh, .inl (cI, 24, .inl dh9_6)), (dqb, .inl (cI, 24, .inl db9_6)), (b, .inr (4, [.ref qh, .ref qb, .int (nI n), .int as_])), (qh, .inl (cI, 24, .inl hs)), (qb, .inl (cI, 24, .inl bs)), (ro, .inr (2, [.ref qi, .int (nI cn)])), (qi, .inl (cI, 120, .inl it))] H := hP.sub [3, 4, 5, 6, 0, 1, 2, 7, 8] rfl
          have hD : va_D A [(rr, .inr (3, [.ref dr, .int (nI pos9_6), .int err9_6])), (dr, .inr (4, [.ref dqh, .ref dqb, .int (nI dn9_6), .int as_])), (dqh, .inl (cI, 24, .inl dh9_6)), (dqb, .inl (cI, 24, .inl db9_6)), (b, .inr (4, [.ref qh, .ref qb, .int (nI n), .int as_])), (qh, .inl (cI, 24, .inl hs)), (qb, .inl (cI, 24, .inl bs)), (ro, .inr (2, [.ref qi, .int (nI cn)])), (qi, .inl (cI, 120, .inl it))] := hD.sub [3, 4, 5, 6, 0, 1, 2, 7, 8] rfl rfl
          refine W.eq (g2 := F0 m 42 ls [.int (bI rb9_6)]) rfl ?_
          have hru := w_6.1
          have hq1 := w_6.2.1
          refine lv_if_ne (tgt := 47) hx hb dX3_readOnto_42 (by decide) (fun c_7 => ?_) (fun c_7 => ?_)
          · skip
            have c_7 : rb9_6 = true := bI_t.mp c_7
            obtain ⟨x, q, hu0, hu1, hu2, hu3, hu4⟩ := ru_t hru c_7
            refine lv_aload_n hx hb dX3_readOnto_47 rfl (lv_at hl 0 rfl) ?_
            refine lv_aload_n hx hb dX3_readOnto_48 rfl (lv_at hl 2 rfl) ?_
            refine ef_V (As := [.ref ro]) (rest := []) (wr := [(dr, .inr (4, [.ref dqh, .ref dqb, .int (nI dn9_6), .int as_])), (dqh, .inl (cI, 24, .inl dh9_6)), (dqb, .inl (cI, 24, .inl db9_6)), (b, .inr (4, [.ref qh, .ref qb, .int (nI n), .int as_])), (qh, .inl (cI, 24, .inl hs)), (qb, .inl (cI, 24, .inl bs))]) ⟨hx, hb, hml, hown, hts⟩ hG hP hD hS hA (k_X3_skipSpaces l D cI cB rr dr pos9_6 err9_6 ro qi it cn (by omega) (by omega) _) (cwV 1 hts gX3_readOnto_X3_skipSpaces rfl rfl rfl (by decide +kernel) ⟨(Nat.le_of_ble_eq_true rfl), (Nat.le_of_ble_eq_true rfl)⟩) [0, 7, 8] [1, 2, 3, 4, 5, 6] rfl rfl rfl rfl (by decide) 0 rfl rfl rfl rfl hl.1 rfl (Nat.le_of_ble_eq_true rfl) dX3_readOnto_49 ⟨(Nat.le_of_ble_eq_true rfl), (Nat.le_of_ble_eq_true rfl)⟩ (fun v_8 u_8 H locs w_8 hP hD hS => ?_)
            have w_8 : v_8 = none := w_8
            subst w_8
            have hP : va_P D vwCl [(rr, .inr (3, [.ref dr, .int (nI (skp it cn pos9_6)), .int err9_6])), (dr, .inr (4, [.ref dqh, .ref dqb, .int (nI dn9_6), .int as_])), (dqh, .inl (cI, 24, .inl dh9_6)), (dqb, .inl (cI, 24, .inl db9_6)), (b, .inr (4, [.ref qh, .ref qb, .int (nI n), .int as_])), (qh, .inl (cI, 24, .inl hs)), (qb, .inl (cI, 24, .inl bs)), (ro, .inr (2, [.ref qi, .int (nI cn)])), (qi, .inl (cI, 120, .inl it))] H := hP.sub [6, 0, 1, 2, 3, 4, 5, 7, 8] rfl
            have hD : va_D A [(rr, .inr (3, [.ref dr, .int (nI (skp it cn pos9_6)), .int err9_6])), (dr, .inr (4, [.ref dqh, .ref dqb, .int (nI dn9_6), .int as_])), (dqh, .inl (cI, 24, .inl dh9_6)), (dqb, .inl (cI, 24, .inl db9_6)), (b, .inr (4, [.ref qh, .ref qb, .int (nI n), .int as_])), (qh, .inl (cI, 24, .inl hs)), (qb, .inl (cI, 24, .inl bs)), (ro, .inr (2, [.ref qi, .int (nI cn)])), (qi, .inl (cI, 120, .inl it))] := hD.sub [6, 0, 1, 2, 3, 4, 5, 7, 8] rfl rfl
            refine W.eq (g2 := F0 m 52 ls []) rfl ?_
            refine lv_iinc (v := nI (k + 1)) (lv' := [(3, .int (nI (k + 1))), (0, .ref rr), (1, .ref b), (2, .ref ro)]) hx hb dX3_readOnto_52 hl (k := 3) rfl (nI_s1 k) (by decide) rfl (fun ls hl => ?_)
            refine lv_goto (tgt := 20) hx hb dX3_readOnto_55 (by decide) ?_
            exact ih_20 (k + 1) (skp it cn pos9_6) err9_6 dh9_6 db9_6 dn9_6 (acc ++ [x]) (by omega) hu3 (skp_le hq1) (by rw [hu4, hacc, List.append_assoc]) (by rw [List.length_append, hal]; rfl) (by rw [hu2, hu1, show 25 - (dn1 + 1) = 24 - dn1 from by omega, ← hT, show 25 - dn1 = (24 - dn1) + 1 from by omega, rdLF, if_pos hlt, hu0]; exact (onR_step acc x _).symm) (by omega) _ _ hP hD hS ls (lv_sub hl [1, 2, 3, 0] rfl)
          · skip
            have c_7 : rb9_6 = false := bI_f.mp c_7
            obtain ⟨z, hz, hze⟩ := ru_f hru c_7
            refine lv_iconst (v := nI 0) hx hb dX3_readOnto_45 (by decide) ?_
            exact hret (false) (false, pos9_6, err9_6, dh9_6, db9_6, dn9_6) _ _ _ _ (⟨rfl, by rw [← hT, show 25 - dn1 = (24 - dn1) + 1 from by omega, rdLF, if_pos hlt, hz]; exact ⟨rfl, hze⟩, hq1, w_6.2.2⟩) (hP) (hD) hS dX3_readOnto_46
  exact lp_20_3 (25 - 0 + 1) 0 (skp it cn 0) err (cpF hs dh n) (cpF bs db n) n ([]) rfl hn (skp_le (Nat.zero_le _)) (by rw [tab2_cp, List.append_nil]) rfl (by rw [onR_nil]; rfl) (Nat.lt_succ_self _) _ _ hP hD hS ls (lv_sub hl [1, 2, 3, 0] rfl)
