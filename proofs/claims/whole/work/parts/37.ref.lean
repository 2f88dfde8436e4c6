theorem ilX6_isRule_6 : ∀ w ∈ u_ws RX6 TX6 15, w ∈ wsX6_isRule := by decide +kernel
theorem ilX6_headOf_6 : ∀ w ∈ u_ws RX6 TX6 15, w ∈ wsX6_headOf := by decide +kernel
theorem ilX6_bodyOf_6 : ∀ w ∈ u_ws RX6 TX6 15, w ∈ wsX6_bodyOf := by decide +kernel
theorem ilX6_rules_6 : ∀ w ∈ u_ws RX6 TX6 15, w ∈ wsX6_rules := by decide +kernel
theorem ilX6_everyRule_6 : ∀ w ∈ u_ws RX6 TX6 15, w ∈ wsX6_everyRule := by decide +kernel
theorem ilX6_modelOf_6 : ∀ w ∈ u_ws RX6 TX6 15, w ∈ wsX6_modelOf := by decide +kernel
theorem ilX6_levelOf_6 : ∀ w ∈ u_ws RX6 TX6 15, w ∈ wsX6_levelOf := by decide +kernel
theorem ilX6_reasonOf_6 : ∀ w ∈ u_ws RX6 TX6 15, w ∈ wsX6_reasonOf := by decide +kernel
theorem ilX6_necessaryOf_6 : ∀ w ∈ u_ws RX6 TX6 15, w ∈ wsX6_necessaryOf := by decide +kernel
theorem ilX6_dependenciesOf_6 : ∀ w ∈ u_ws RX6 TX6 15, w ∈ wsX6_dependenciesOf := by decide +kernel
theorem ilX6_overDeletedOf_6 : ∀ w ∈ u_ws RX6 TX6 15, w ∈ wsX6_overDeletedOf := by decide +kernel
set_option maxHeartbeats 4000000 in
set_option maxRecDepth 100000 in
theorem k_X6_in (l : Launch) (D : va_G) (cI cB : ClassId) (v : Int64) (lo : Int64) (hi : Int64) : Rd l yX6_in wsX6_in ({ frames := 0, cells := 0, slots := 0, locals := 0 }) D cI cB [.long v, .long lo, .long hi] [] (.int (bI (inJ v lo hi))) := by
  refine pu_startZ (cc := cX6_in) (maxL := 6) (by decide) rfl (Nat.le_of_ble_eq_true rfl) ?_
  intro p e s m args below meth c Q hx hb hml hown hts hP hG hret ls hl
  have hown : s.vm.findClass RX6 = some m.cls := hown
  have hl : lv_has ls 6 [(0, .long v), (2, .long lo), (4, .long hi)] := hl
  refine lv_lload_n hx hb dX6_in_0 rfl (lv_at hl 0 rfl) ?_
  refine lv_lload_n hx hb dX6_in_1 rfl (lv_at hl 1 rfl) ?_
  refine W.lcmp hx hb dX6_in_2 ?_
  refine lv_if_lt (tgt := 17) hx hb dX6_in_3 (by decide) (fun c_1 => ?_) (fun c_1 => ?_)
  · skip
    refine lv_iconst (v := nI 0) hx hb dX6_in_17 (by decide) ?_
    exact hret _ _ _ (bI_0 (decide_eq_false (by simp only [decide_true, decide_false, reduceIte, Bool.false_eq_true, not_true_eq_false, not_false_eq_true, and_self, and_true, true_and, and_false, false_and, c_1]))) dX6_in_18
  · skip
    refine lv_lload_n hx hb dX6_in_6 rfl (lv_at hl 0 rfl) ?_
    refine lv_lload hx hb dX6_in_7 (lv_at hl 2 rfl) ?_
    refine W.lcmp hx hb dX6_in_9 ?_
    refine lv_if_gt (tgt := 17) hx hb dX6_in_10 (by decide) (fun c_2 => ?_) (fun c_2 => ?_)
    · skip
      refine lv_iconst (v := nI 0) hx hb dX6_in_17 (by decide) ?_
      exact hret _ _ _ (bI_0 (decide_eq_false (by simp only [decide_true, decide_false, reduceIte, Bool.false_eq_true, not_true_eq_false, not_false_eq_true, and_self, and_true, true_and, and_false, false_and, c_1, c_2]))) dX6_in_18
    · skip
      refine lv_iconst (v := nI 1) hx hb dX6_in_13 (by decide) ?_
      refine lv_goto (tgt := 18) hx hb dX6_in_14 (by decide) ?_
      exact hret _ _ _ (bI_1 (decide_eq_true (by simp only [decide_true, decide_false, reduceIte, Bool.false_eq_true, not_true_eq_false, not_false_eq_true, and_self, and_true, true_and, and_false, false_and, c_1, c_2]))) dX6_in_18
set_option maxHeartbeats 4000000 in
set_option maxRecDepth 100000 in
theorem k_X6_isAtom (l : Launch) (D : va_G) (cI cB : ClassId) (a : Int32) : Rd l yX6_isAtom wsX6_isAtom ({ frames := 1, cells := 0, slots := 0, locals := 25 }) D cI cB [.int a] [] (.int (bI (isA a))) := by
  refine pu_startZ (cc := cX6_isAtom) (maxL := 1) (by decide) rfl (Nat.le_of_ble_eq_true rfl) ?_
  intro p e s m args below meth c Q hx hb hml hown hts hP hG hret ls hl
  have hown : s.vm.findClass RX6 = some m.cls := hown
  have hl : lv_has ls 1 [(0, .int a)] := hl
  refine lv_iload_n hx hb dX6_isAtom_0 rfl (lv_at hl 0 rfl) ?_
  refine lv_i2l (v := a.toInt64) hx hb dX6_isAtom_1 rfl ?_
  refine lv_lconst (v := 0) hx hb dX6_isAtom_2 (by decide) ?_
  refine lv_ldc2 (v := 15) hx hb hown (hts (.constantLong RX6 41 (15)) (List.mem_of_getElem? (i := 1) rfl)) dX6_isAtom_3 ?_
  refine pu_S (As := [.long a.toInt64, .long 0, .long 15]) (rest := []) ⟨hx, hb, hml, hown, hts⟩ hG hP (k_X6_in l D cI cB a.toInt64 0 15 ) (cwS 3 hts gX6_isAtom_X6_in rfl rfl rfl (by decide +kernel) ⟨(Nat.le_of_ble_eq_true rfl), (Nat.le_of_ble_eq_true rfl)⟩) [] rfl rfl hl.1 rfl (Nat.le_of_ble_eq_true rfl) dX6_isAtom_6 ⟨Nat.zero_le _, Nat.zero_le _⟩ ?_
  exact hret _ _ _ (by rw [inJ_A]) dX6_isAtom_9
set_option maxHeartbeats 4000000 in
set_option maxRecDepth 100000 in
theorem k_X6_size (l : Launch) (D : va_G) (cI cB : ClassId) (x : Int32) : Rd l yX6_size wsX6_size ({ frames := 0, cells := 0, slots := 0, locals := 0 }) D cI cB [.int x] [] (.int (szF x 16)) := by
  refine pu_startI (cc := cX6_size) (maxL := 3) (by decide) rfl (Nat.le_of_ble_eq_true rfl) ?_
  intro p e s m args below meth c Q hx hb hml hown hts hP hG hret ls hl
  have hown : s.vm.findClass RX6 = some m.cls := hown
  have hl : lv_has ls 3 [(0, .int x)] := hl
  refine lv_iconst (v := nI 0) hx hb dX6_size_0 (by decide) ?_
  refine lv_istore_n (lv' := [(1, .int (nI 0)), (0, .int x)]) hx hb dX6_size_1 rfl hl (by decide) rfl (fun ls hl => ?_)
  refine lv_iconst (v := nI 0) hx hb dX6_size_2 (by decide) ?_
  refine lv_istore_n (lv' := [(2, .int (nI 0)), (1, .int (nI 0)), (0, .int x)]) hx hb dX6_size_3 rfl hl (by decide) rfl (fun ls hl => ?_)
  have lp_4_1 : ∀ (fu_4 : Nat) (k : Nat) (x1 : Int32) (hk : k ≤ 16) (e1 : x1 = szF x k) (hfu_4 : 16 - k < fu_4) (ls : Array Slot) (hl : lv_has ls 3 [(0, .int x), (1, .int x1), (2, .int (nI k))]), W p l e ({ frames := 0, cells := 0, slots := 0, locals := 0 }) s m args below meth c s.heap [] 0 0 Q (F0 m 4 ls []) := by
    intro fu_4
    induction fu_4 with
    | zero => intro k x1 hk e1 hfu; exact absurd hfu (Nat.not_lt_zero _)
    | succ fu_4 ih_4 =>
      intro k x1 hk e1 hfu_4 ls hl
      refine lv_iload_n hx hb dX6_size_4 rfl (lv_at hl 2 rfl) ?_
      refine lv_bipush (v := nI 16) hx hb dX6_size_5 (by decide) ?_
      refine lv_icmp_ge (tgt := 24) hx hb dX6_size_7 (by decide) (fun c_2 => ?_) (fun c_2 => ?_)
      · skip
        have c_2 : 16 ≤ k := (nI_leI (by omega) (by omega)).mp (show nI 16 ≤ nI k from c_2)
        refine lv_iload_n hx hb dX6_size_24 rfl (lv_at hl 1 rfl) ?_
        exact hret _ _ _ (by rw [e1, show k = 16 from by omega]) dX6_size_25
      · skip
        have c_2 : ¬ (16 ≤ k) := fun h9 => (show ¬ (nI 16 ≤ nI k) from c_2) ((nI_leI (by omega) (by omega)).mpr h9)
        refine lv_iload_n hx hb dX6_size_10 rfl (lv_at hl 1 rfl) ?_
        refine lv_iload_n hx hb dX6_size_11 rfl (lv_at hl 0 rfl) ?_
        refine lv_iload_n hx hb dX6_size_12 rfl (lv_at hl 2 rfl) ?_
        refine lv_ishr hx hb dX6_size_13 ?_
        refine lv_iconst (v := nI 1) hx hb dX6_size_14 (by decide) ?_
        refine lv_iand hx hb dX6_size_15 ?_
        refine lv_iadd hx hb dX6_size_16 ?_
        refine lv_istore_n (lv' := [(1, .int (x1 + ((x >>> ((nI k) &&& 31)) &&& (nI 1)))), (0, .int x), (2, .int (nI k))]) hx hb dX6_size_17 rfl hl (by decide) rfl (fun ls hl => ?_)
        refine lv_iinc (v := nI (k + 1)) (lv' := [(2, .int (nI (k + 1))), (1, .int (x1 + ((x >>> ((nI k) &&& 31)) &&& (nI 1)))), (0, .int x)]) hx hb dX6_size_18 hl (k := 2) rfl (nI_s1 k) (by decide) rfl (fun ls hl => ?_)
        refine lv_goto (tgt := 4) hx hb dX6_size_21 (by decide) ?_
        exact ih_4 (k + 1) (x1 + ((x >>> ((nI k) &&& 31)) &&& (nI 1))) (by omega) (by subst e1; rfl) (by omega) ls (lv_sub hl [2, 1, 0] rfl)
  exact lp_4_1 (16 - 0 + 1) 0 (nI 0) (by omega) rfl (Nat.lt_succ_self _) ls (lv_sub hl [2, 1, 0] rfl)
set_option maxHeartbeats 4000000 in
set_option maxRecDepth 100000 in
theorem k_X6_isBody (l : Launch) (D : va_G) (cI cB : ClassId) (x : Int32) : Rd l yX6_isBody wsX6_isBody ({ frames := 1, cells := 0, slots := 0, locals := 25 }) D cI cB [.int x] [] (.int (bI (isS x (nI 4)))) := by
  refine pu_startZ (cc := cX6_isBody) (maxL := 1) (by decide) rfl (Nat.le_of_ble_eq_true rfl) ?_
  intro p e s m args below meth c Q hx hb hml hown hts hP hG hret ls hl
  have hown : s.vm.findClass RX6 = some m.cls := hown
  have hl : lv_has ls 1 [(0, .int x)] := hl
  refine lv_iload_n hx hb dX6_isBody_0 rfl (lv_at hl 0 rfl) ?_
  refine lv_i2l (v := x.toInt64) hx hb dX6_isBody_1 rfl ?_
  refine lv_lconst (v := 0) hx hb dX6_isBody_2 (by decide) ?_
  refine lv_ldc2 (v := 65535) hx hb hown (hts (.constantLong RX6 47 (65535)) (List.mem_of_getElem? (i := 1) rfl)) dX6_isBody_3 ?_
  refine pu_S (As := [.long x.toInt64, .long 0, .long 65535]) (rest := []) ⟨hx, hb, hml, hown, hts⟩ hG hP (k_X6_in l D cI cB x.toInt64 0 65535 ) (cwS 3 hts gX6_isBody_X6_in rfl rfl rfl (by decide +kernel) ⟨(Nat.le_of_ble_eq_true rfl), (Nat.le_of_ble_eq_true rfl)⟩) [] rfl rfl hl.1 rfl (Nat.le_of_ble_eq_true rfl) dX6_isBody_6 ⟨Nat.zero_le _, Nat.zero_le _⟩ ?_
  refine lv_if_eq (tgt := 24) hx hb dX6_isBody_9 (by decide) (fun c_1 => ?_) (fun c_1 => ?_)
  · skip
    have c_1 : (inJ x.toInt64 0 65535) = false := bI_f.mp c_1
    have h1 := c_1
    refine lv_iconst (v := nI 0) hx hb dX6_isBody_24 (by decide) ?_
    exact hret _ _ _ (bI_0 (isS_f1 h1)) dX6_isBody_25
  · skip
    have c_1 : (inJ x.toInt64 0 65535) = true := bI_t.mp c_1
    have h1 := c_1
    refine lv_iload_n hx hb dX6_isBody_12 rfl (lv_at hl 0 rfl) ?_
    refine pu_S (As := [.int x]) (rest := []) ⟨hx, hb, hml, hown, hts⟩ hG hP (k_X6_size l D cI cB x ) (cwS 1 hts gX6_isBody_X6_size rfl rfl rfl (by decide +kernel) ⟨(Nat.le_of_ble_eq_true rfl), (Nat.le_of_ble_eq_true rfl)⟩) [] rfl rfl hl.1 rfl (Nat.le_of_ble_eq_true rfl) dX6_isBody_13 ⟨Nat.zero_le _, Nat.zero_le _⟩ ?_
    refine lv_iconst (v := nI 4) hx hb dX6_isBody_16 (by decide) ?_
    refine lv_icmp_gt (tgt := 24) hx hb dX6_isBody_17 (by decide) (fun c_2 => ?_) (fun c_2 => ?_)
    · skip
      have h2 := c_2
      refine lv_iconst (v := nI 0) hx hb dX6_isBody_24 (by decide) ?_
      exact hret _ _ _ (bI_0 (isS_f2 h1 h2)) dX6_isBody_25
    · skip
      have h2 := c_2
      refine lv_iconst (v := nI 1) hx hb dX6_isBody_20 (by decide) ?_
      refine lv_goto (tgt := 25) hx hb dX6_isBody_21 (by decide) ?_
      exact hret _ _ _ (bI_1 (isS_t h1 h2)) dX6_isBody_25
set_option maxHeartbeats 4000000 in
set_option maxRecDepth 100000 in
theorem k_X6_isRule (l : Launch) (D : va_G) (cI cB : ClassId) (mo : Nat) (qA : Nat) (qS : Nat) (sm : Nat) (qE : Nat) (qT : Nat) (tl : Nat) (qQ : Nat) (qd : Nat) (qF : Nat) (fm : Nat) (qC : Nat) (ap : Nat) (pl : Nat) (qH : Nat) (qB : Nat) (av : Nat → Int32) (hs : Nat → Int32) (bs : Nat → Int32) (n : Nat) (as_ : Int32) (r_ : Int32) (hM : mA av hs bs n as_) (hn : n ≤ 24) : Rd l yX6_isRule wsX6_isRule ({ frames := 1, cells := 0, slots := 0, locals := 25 }) D cI cB [.ref mo, .int r_] [(mo, .inr (6, [.ref qA, .ref qS, .int (nI sm), .ref qE, .ref qT, .int (nI tl), .ref qQ, .int (nI qd), .ref qF, .int (nI fm), .ref qC, .int (nI ap), .int (nI pl), .ref qH, .ref qB])), (qA, .inl (cI, 50, .inl av))] (.int (bI (hasR r_ n))) := by
  refine pu_startZ (cc := cX6_isRule) (maxL := 2) (by decide) rfl (Nat.le_of_ble_eq_true rfl) ?_
  intro p e s m args below meth c Q hx hb hml hown hts hP hG hret ls hl
  have hown : s.vm.findClass RX6 = some m.cls := hown
  have hl : lv_has ls 2 [(0, .ref mo), (1, .int r_)] := hl
  refine lv_iload_n hx hb dX6_isRule_0 rfl (lv_at hl 1 rfl) ?_
  refine lv_i2l (v := r_.toInt64) hx hb dX6_isRule_1 rfl ?_
  refine lv_lconst (v := 0) hx hb dX6_isRule_2 (by decide) ?_
  refine lv_aload_n hx hb dX6_isRule_3 rfl (lv_at hl 0 rfl) ?_
  refine va_get (D := D) (ci := 6) (v := .ref qA) (C := RX6) (T := TX6) (N := 15) hx hb hts ilX6_isRule_6 hown hG.1 hP 0 rfl rfl 0 (by decide) (hts (.fieldLink RX6 7 "HornEngineModel" "all" "[I") (List.mem_of_getElem? (i := 1) rfl)) (fun _ h9 => h9) rfl dX6_isRule_4 ?_
  refine lv_iconst (v := nI 0) hx hb dX6_isRule_7 (by decide) ?_
  refine ia_ld hx hb hG hP 1 rfl 0 rfl (by omega) (by decide) dX6_isRule_8 ?_
  refine lv_eqi (y := nI n) hM.1 ?_
  refine lv_iconst (v := nI 1) hx hb dX6_isRule_9 (by decide) ?_
  refine lv_isub hx hb dX6_isRule_10 ?_
  refine lv_eqi (y := nI n - nI 1) rfl ?_
  refine lv_i2l (v := (nI n - nI 1).toInt64) hx hb dX6_isRule_11 rfl ?_
  refine pu_S (As := [.long r_.toInt64, .long 0, .long ((nI n - nI 1).toInt64)]) (rest := []) ⟨hx, hb, hml, hown, hts⟩ hG hP (k_X6_in l D cI cB r_.toInt64 0 ((nI n - nI 1).toInt64) ) (cwS 3 hts gX6_isRule_X6_in rfl rfl rfl (by decide +kernel) ⟨(Nat.le_of_ble_eq_true rfl), (Nat.le_of_ble_eq_true rfl)⟩) [] rfl rfl hl.1 rfl (Nat.le_of_ble_eq_true rfl) dX6_isRule_12 ⟨Nat.zero_le _, Nat.zero_le _⟩ ?_
  exact hret _ _ _ (by rw [inJ_R _ hn]) dX6_isRule_15
set_option maxHeartbeats 4000000 in
set_option maxRecDepth 100000 in
theorem k_X6_headOf (l : Launch) (D : va_G) (cI cB : ClassId) (mo : Nat) (qA : Nat) (qS : Nat) (sm : Nat) (qE : Nat) (qT : Nat) (tl : Nat) (qQ : Nat) (qd : Nat) (qF : Nat) (fm : Nat) (qC : Nat) (ap : Nat) (pl : Nat) (qH : Nat) (qB : Nat) (av : Nat → Int32) (hs : Nat → Int32) (bs : Nat → Int32) (n : Nat) (as_ : Int32) (r : Nat) (hM : mA av hs bs n as_) (hn : n ≤ 24) (hr : r < n) : Rd l yX6_headOf wsX6_headOf ({ frames := 0, cells := 0, slots := 0, locals := 0 }) D cI cB [.ref mo, .int (nI r)] [(mo, .inr (6, [.ref qA, .ref qS, .int (nI sm), .ref qE, .ref qT, .int (nI tl), .ref qQ, .int (nI qd), .ref qF, .int (nI fm), .ref qC, .int (nI ap), .int (nI pl), .ref qH, .ref qB])), (qA, .inl (cI, 50, .inl av))] (.int (hs r)) := by
  refine pu_startI (cc := cX6_headOf) (maxL := 2) (by decide) rfl (Nat.le_of_ble_eq_true rfl) ?_
  intro p e s m args below meth c Q hx hb hml hown hts hP hG hret ls hl
  have hown : s.vm.findClass RX6 = some m.cls := hown
  have hl : lv_has ls 2 [(0, .ref mo), (1, .int (nI r))] := hl
  refine lv_aload_n hx hb dX6_headOf_0 rfl (lv_at hl 0 rfl) ?_
  refine va_get (D := D) (ci := 6) (v := .ref qA) (C := RX6) (T := TX6) (N := 15) hx hb hts ilX6_headOf_6 hown hG.1 hP 0 rfl rfl 0 (by decide) (hts (.fieldLink RX6 7 "HornEngineModel" "all" "[I") (List.mem_of_getElem? (i := 1) rfl)) (fun _ h9 => h9) rfl dX6_headOf_1 ?_
  refine lv_iconst (v := nI 2) hx hb dX6_headOf_4 (by decide) ?_
  refine lv_iload_n hx hb dX6_headOf_5 rfl (lv_at hl 1 rfl) ?_
  refine lv_iadd hx hb dX6_headOf_6 ?_
  refine lv_eqi (y := nI (2 + r)) (nI_add 2 r) ?_
  refine ia_ld hx hb hG hP 1 rfl (2 + r) rfl (by omega) (by decide) dX6_headOf_7 ?_
  refine lv_eqi (y := hs r) (hM.2.2.1 r hr) ?_
  exact hret _ _ _ rfl dX6_headOf_8
set_option maxHeartbeats 4000000 in
set_option maxRecDepth 100000 in
theorem k_X6_bodyOf (l : Launch) (D : va_G) (cI cB : ClassId) (mo : Nat) (qA : Nat) (qS : Nat) (sm : Nat) (qE : Nat) (qT : Nat) (tl : Nat) (qQ : Nat) (qd : Nat) (qF : Nat) (fm : Nat) (qC : Nat) (ap : Nat) (pl : Nat) (qH : Nat) (qB : Nat) (av : Nat → Int32) (hs : Nat → Int32) (bs : Nat → Int32) (n : Nat) (as_ : Int32) (r : Nat) (hM : mA av hs bs n as_) (hn : n ≤ 24) (hr : r < n) : Rd l yX6_bodyOf wsX6_bodyOf ({ frames := 0, cells := 0, slots := 0, locals := 0 }) D cI cB [.ref mo, .int (nI r)] [(mo, .inr (6, [.ref qA, .ref qS, .int (nI sm), .ref qE, .ref qT, .int (nI tl), .ref qQ, .int (nI qd), .ref qF, .int (nI fm), .ref qC, .int (nI ap), .int (nI pl), .ref qH, .ref qB])), (qA, .inl (cI, 50, .inl av))] (.int (bs r)) := by
  refine pu_startI (cc := cX6_bodyOf) (maxL := 2) (by decide) rfl (Nat.le_of_ble_eq_true rfl) ?_
  intro p e s m args below meth c Q hx hb hml hown hts hP hG hret ls hl
  have hown : s.vm.findClass RX6 = some m.cls := hown
  have hl : lv_has ls 2 [(0, .ref mo), (1, .int (nI r))] := hl
  refine lv_aload_n hx hb dX6_bodyOf_0 rfl (lv_at hl 0 rfl) ?_
  refine va_get (D := D) (ci := 6) (v := .ref qA) (C := RX6) (T := TX6) (N := 15) hx hb hts ilX6_bodyOf_6 hown hG.1 hP 0 rfl rfl 0 (by decide) (hts (.fieldLink RX6 7 "HornEngineModel" "all" "[I") (List.mem_of_getElem? (i := 1) rfl)) (fun _ h9 => h9) rfl dX6_bodyOf_1 ?_
  refine lv_bipush (v := nI 26) hx hb dX6_bodyOf_4 (by decide) ?_
  refine lv_iload_n hx hb dX6_bodyOf_6 rfl (lv_at hl 1 rfl) ?_
  refine lv_iadd hx hb dX6_bodyOf_7 ?_
  refine lv_eqi (y := nI (26 + r)) (nI_add 26 r) ?_
  refine ia_ld hx hb hG hP 1 rfl (26 + r) rfl (by omega) (by decide) dX6_bodyOf_8 ?_
  refine lv_eqi (y := bs r) (hM.2.2.2 r hr) ?_
  exact hret _ _ _ rfl dX6_bodyOf_9
set_option maxHeartbeats 4000000 in
set_option maxRecDepth 100000 in
theorem k_X6_rules (l : Launch) (D : va_G) (cI cB : ClassId) (mo : Nat) (qA : Nat) (qS : Nat) (sm : Nat) (qE : Nat) (qT : Nat) (tl : Nat) (qQ : Nat) (qd : Nat) (qF : Nat) (fm : Nat) (qC : Nat) (ap : Nat) (pl : Nat) (qH : Nat) (qB : Nat) (av : Nat → Int32) (hs : Nat → Int32) (bs : Nat → Int32) (n : Nat) (as_ : Int32) (hM : mA av hs bs n as_) (hn : n ≤ 24) : Rd l yX6_rules wsX6_rules ({ frames := 0, cells := 0, slots := 0, locals := 0 }) D cI cB [.ref mo] [(mo, .inr (6, [.ref qA, .ref qS, .int (nI sm), .ref qE, .ref qT, .int (nI tl), .ref qQ, .int (nI qd), .ref qF, .int (nI fm), .ref qC, .int (nI ap), .int (nI pl), .ref qH, .ref qB])), (qA, .inl (cI, 50, .inl av))] (.int (nI n)) := by
  refine pu_startI (cc := cX6_rules) (maxL := 1) (by decide) rfl (Nat.le_of_ble_eq_true rfl) ?_
  intro p e s m args below meth c Q hx hb hml hown hts hP hG hret ls hl
  have hown : s.vm.findClass RX6 = some m.cls := hown
  have hl : lv_has ls 1 [(0, .ref mo)] := hl
  refine lv_aload_n hx hb dX6_rules_0 rfl (lv_at hl 0 rfl) ?_
  refine va_get (D := D) (ci := 6) (v := .ref qA) (C := RX6) (T := TX6) (N := 15) hx hb hts ilX6_rules_6 hown hG.1 hP 0 rfl rfl 0 (by decide) (hts (.fieldLink RX6 7 "HornEngineModel" "all" "[I") (List.mem_of_getElem? (i := 1) rfl)) (fun _ h9 => h9) rfl dX6_rules_1 ?_
  refine lv_iconst (v := nI 0) hx hb dX6_rules_4 (by decide) ?_
  refine ia_ld hx hb hG hP 1 rfl 0 rfl (by omega) (by decide) dX6_rules_5 ?_
  refine lv_eqi (y := nI n) hM.1 ?_
  exact hret _ _ _ rfl dX6_rules_6
set_option maxHeartbeats 4000000 in
set_option maxRecDepth 100000 in
theorem k_X6_everyRule (l : Launch) (D : va_G) (cI cB : ClassId) (mo : Nat) (qA : Nat) (qS : Nat) (sm : Nat) (qE : Nat) (qT : Nat) (tl : Nat) (qQ : Nat) (qd : Nat) (qF : Nat) (fm : Nat) (qC : Nat) (ap : Nat) (pl : Nat) (qH : Nat) (qB : Nat) (av : Nat → Int32) (hs : Nat → Int32) (bs : Nat → Int32) (n : Nat) (as_ : Int32) (hM : mA av hs bs n as_) (hn : n ≤ 24) : Rd l yX6_everyRule wsX6_everyRule ({ frames := 0, cells := 0, slots := 0, locals := 0 }) D cI cB [.ref mo] [(mo, .inr (6, [.ref qA, .ref qS, .int (nI sm), .ref qE, .ref qT, .int (nI tl), .ref qQ, .int (nI qd), .ref qF, .int (nI fm), .ref qC, .int (nI ap), .int (nI pl), .ref qH, .ref qB])), (qA, .inl (cI, 50, .inl av))] (.int (evr n)) := by
  refine pu_startI (cc := cX6_everyRule) (maxL := 1) (by decide) rfl (Nat.le_of_ble_eq_true rfl) ?_
  intro p e s m args below meth c Q hx hb hml hown hts hP hG hret ls hl
  have hown : s.vm.findClass RX6 = some m.cls := hown
  have hl : lv_has ls 1 [(0, .ref mo)] := hl
  refine lv_iconst (v := nI 1) hx hb dX6_everyRule_0 (by decide) ?_
  refine lv_aload_n hx hb dX6_everyRule_1 rfl (lv_at hl 0 rfl) ?_
  refine va_get (D := D) (ci := 6) (v := .ref qA) (C := RX6) (T := TX6) (N := 15) hx hb hts ilX6_everyRule_6 hown hG.1 hP 0 rfl rfl 0 (by decide) (hts (.fieldLink RX6 7 "HornEngineModel" "all" "[I") (List.mem_of_getElem? (i := 1) rfl)) (fun _ h9 => h9) rfl dX6_everyRule_2 ?_
  refine lv_iconst (v := nI 0) hx hb dX6_everyRule_5 (by decide) ?_
  refine ia_ld hx hb hG hP 1 rfl 0 rfl (by omega) (by decide) dX6_everyRule_6 ?_
  refine lv_eqi (y := nI n) hM.1 ?_
  refine lv_ishl hx hb dX6_everyRule_7 ?_
  refine lv_iconst (v := nI 1) hx hb dX6_everyRule_8 (by decide) ?_
  refine lv_isub hx hb dX6_everyRule_9 ?_
  exact hret _ _ _ rfl dX6_everyRule_10
set_option maxHeartbeats 4000000 in
set_option maxRecDepth 100000 in
theorem k_X6_modelOf (l : Launch) (D : va_G) (cI cB : ClassId) (mo : Nat) (qA : Nat) (qS : Nat) (sm : Nat) (qE : Nat) (qT : Nat) (tl : Nat) (qQ : Nat) (qd : Nat) (qF : Nat) (fm : Nat) (qC : Nat) (ap : Nat) (pl : Nat) (qH : Nat) (qB : Nat) (av : Nat → Int32) (hs : Nat → Int32) (bs : Nat → Int32) (n : Nat) (as_ : Int32) (R : Int32) (F : Int32) (hM : mA av hs bs n as_) (hn : n ≤ 24) (hH : hOK hs n) (hF : low16 F) : Rd l yX6_modelOf wsX6_modelOf ({ frames := 1, cells := 0, slots := 0, locals := 21 }) D cI cB [.ref mo, .int R, .int F] [(mo, .inr (6, [.ref qA, .ref qS, .int (nI sm), .ref qE, .ref qT, .int (nI tl), .ref qQ, .int (nI qd), .ref qF, .int (nI fm), .ref qC, .int (nI ap), .int (nI pl), .ref qH, .ref qB])), (qA, .inl (cI, 50, .inl av))] (.int (clo hs bs n R F)) := by
  refine pu_startI (cc := cX6_modelOf) (maxL := 6) (by decide) rfl (Nat.le_of_ble_eq_true rfl) ?_
  intro p e s m args below meth c Q hx hb hml hown hts hP hG hret ls hl
  have hown : s.vm.findClass RX6 = some m.cls := hown
  have hl : lv_has ls 6 [(0, .ref mo), (1, .int R), (2, .int F)] := hl
  refine lv_iload_n hx hb dX6_modelOf_0 rfl (lv_at hl 2 rfl) ?_
  refine lv_istore_n (lv' := [(3, .int F), (0, .ref mo), (1, .int R), (2, .int F)]) hx hb dX6_modelOf_1 rfl hl (by decide) rfl (fun ls hl => ?_)
  refine lv_iconst (v := (-1)) hx hb dX6_modelOf_2 (by decide) ?_
  refine lv_istore (lv' := [(4, .int (-1)), (3, .int F), (0, .ref mo), (1, .int R), (2, .int F)]) hx hb dX6_modelOf_3 hl (by decide) rfl (fun ls hl => ?_)
  have lp_5_1 : ∀ (fu_5 : Nat) (k : Nat) (x3 : Int32) (x4 : Int32) (hk : k ≤ 17) (e3 : x3 = pw (fun x => gsF hs bs R x n) k F) (hh : (k = 0 ∧ x4 = -1) ∨ ∃ j, k = j + 1 ∧ x4 = pw (fun x => gsF hs bs R x n) j F) (hfu_5 : 17 - k < fu_5) (ls : Array Slot) (hl : lv_has ls 6 [(0, .ref mo), (1, .int R), (3, .int x3), (4, .int x4)]), W p l e ({ frames := 1, cells := 0, slots := 0, locals := 21 }) s m args below meth c s.heap [] 0 0 Q (F0 m 5 ls []) := by
    intro fu_5
    induction fu_5 with
    | zero => intro k x3 x4 hk e3 hh hfu; exact absurd hfu (Nat.not_lt_zero _)
    | succ fu_5 ih_5 =>
      intro k x3 x4 hk e3 hh hfu_5 ls hl
      refine lv_iload hx hb dX6_modelOf_5 (lv_at hl 3 rfl) ?_
      refine lv_iload_n hx hb dX6_modelOf_7 rfl (lv_at hl 2 rfl) ?_
      refine lv_icmp_eq (tgt := 75) hx hb dX6_modelOf_8 (by decide) (fun c_2 => ?_) (fun c_2 => ?_)
      · skip
        have hfin : x3 = clo hs bs n R F := gs_fin hH hF e3 hh c_2
        refine lv_iload_n hx hb dX6_modelOf_75 rfl (lv_at hl 2 rfl) ?_
        exact hret _ _ _ hfin dX6_modelOf_76
      · skip
        have hk1 : k + 1 ≤ 17 := gs_more hH hF e3 hh c_2
        refine lv_iload_n hx hb dX6_modelOf_11 rfl (lv_at hl 2 rfl) ?_
        refine lv_istore (lv' := [(4, .int x3), (0, .ref mo), (1, .int R), (3, .int x3)]) hx hb dX6_modelOf_12 hl (by decide) rfl (fun ls hl => ?_)
        refine lv_iconst (v := nI 0) hx hb dX6_modelOf_14 (by decide) ?_
        refine lv_istore (lv' := [(5, .int (nI 0)), (4, .int x3), (0, .ref mo), (1, .int R), (3, .int x3)]) hx hb dX6_modelOf_15 hl (by decide) rfl (fun ls hl => ?_)
        have lp_17_3 : ∀ (fu_17 : Nat) (r : Nat) (x5 : Int32) (hr : r ≤ n) (e5 : x5 = gsF hs bs R x3 r) (hfu_17 : n - r < fu_17) (ls : Array Slot) (hl : lv_has ls 6 [(0, .ref mo), (1, .int R), (3, .int x5), (4, .int x3), (5, .int (nI r))]), W p l e ({ frames := 1, cells := 0, slots := 0, locals := 21 }) s m args below meth c s.heap [] 0 0 Q (F0 m 17 ls []) := by
          intro fu_17
          induction fu_17 with
          | zero => intro r x5 hr e5 hfu; exact absurd hfu (Nat.not_lt_zero _)
          | succ fu_17 ih_17 =>
            intro r x5 hr e5 hfu_17 ls hl
            refine lv_iload hx hb dX6_modelOf_17 (lv_at hl 4 rfl) ?_
            refine lv_aload_n hx hb dX6_modelOf_19 rfl (lv_at hl 0 rfl) ?_
            refine va_get (D := D) (ci := 6) (v := .ref qA) (C := RX6) (T := TX6) (N := 15) hx hb hts ilX6_modelOf_6 hown hG.1 hP 0 rfl rfl 0 (by decide) (hts (.fieldLink RX6 7 "HornEngineModel" "all" "[I") (List.mem_of_getElem? (i := 1) rfl)) (fun _ h9 => h9) rfl dX6_modelOf_20 ?_
            refine lv_iconst (v := nI 0) hx hb dX6_modelOf_23 (by decide) ?_
            refine ia_ld hx hb hG hP 1 rfl 0 rfl (by omega) (by decide) dX6_modelOf_24 ?_
            refine lv_eqi (y := nI n) hM.1 ?_
            refine lv_icmp_ge (tgt := 72) hx hb dX6_modelOf_25 (by decide) (fun c_4 => ?_) (fun c_4 => ?_)
            · skip
              have c_4 : n ≤ r := (nI_leI (by omega) (by omega)).mp (show nI n ≤ nI r from c_4)
              refine lv_goto (tgt := 5) hx hb dX6_modelOf_72 (by decide) ?_
              exact ih_5 (k + 1) x5 x3 hk1 (by rw [e5, show r = n from by omega, e3]; rfl) (Or.inr ⟨k, rfl, e3⟩) (by omega) ls (lv_sub hl [0, 1, 2, 3] rfl)
            · skip
              have c_4 : ¬ (n ≤ r) := fun h9 => (show ¬ (nI n ≤ nI r) from c_4) ((nI_leI (by omega) (by omega)).mpr h9)
              refine lv_iload_n hx hb dX6_modelOf_28 rfl (lv_at hl 2 rfl) ?_
              refine lv_iload_n hx hb dX6_modelOf_29 rfl (lv_at hl 1 rfl) ?_
              refine lv_iload hx hb dX6_modelOf_30 (lv_at hl 4 rfl) ?_
              refine lv_ishr hx hb dX6_modelOf_32 ?_
              refine lv_iconst (v := nI 1) hx hb dX6_modelOf_33 (by decide) ?_
              refine lv_iand hx hb dX6_modelOf_34 ?_
              refine lv_iconst (v := nI 1) hx hb dX6_modelOf_35 (by decide) ?_
              refine lv_icmp_ne (tgt := 63) hx hb dX6_modelOf_36 (by decide) (fun c_5 => ?_) (fun c_5 => ?_)
              · skip
                have h1 : has R (nI r) = false := Bool.eq_false_iff.mpr (fun q => c_5 ((shr_1 (by omega)).mpr q))
                refine lv_iconst (v := nI 0) hx hb dX6_modelOf_63 (by decide) ?_
                refine lv_ior hx hb dX6_modelOf_64 ?_
                refine lv_eqi (y := x5) (or_0 x5) ?_
                refine lv_istore_n (lv' := [(3, .int x5), (0, .ref mo), (1, .int R), (4, .int x3), (5, .int (nI r))]) hx hb dX6_modelOf_65 rfl hl (by decide) rfl (fun ls hl => ?_)
                refine lv_iinc (v := nI (r + 1)) (lv' := [(5, .int (nI (r + 1))), (3, .int x5), (0, .ref mo), (1, .int R), (4, .int x3)]) hx hb dX6_modelOf_66 hl (k := 4) rfl (nI_s1 r) (by decide) rfl (fun ls hl => ?_)
                refine lv_goto (tgt := 17) hx hb dX6_modelOf_69 (by decide) ?_
                exact ih_17 (r + 1) x5 (by omega) (by subst e5; simp only [gsF, decide_true, decide_false, reduceIte, Bool.false_eq_true, not_true_eq_false, not_false_eq_true, and_self, and_true, true_and, and_false, false_and, h1]) (by omega) ls (lv_sub hl [2, 3, 1, 4, 0] rfl)
              · skip
                have h1 : has R (nI r) = true := (shr_1 (by omega)).mp c_5
                refine lv_aload_n hx hb dX6_modelOf_39 rfl (lv_at hl 0 rfl) ?_
                refine lv_iload hx hb dX6_modelOf_40 (lv_at hl 4 rfl) ?_
                refine pu_V (As := [.int (nI r)]) (rest := [.int x5]) ⟨hx, hb, hml, hown, hts⟩ hG hP (k_X6_bodyOf l D cI cB mo qA qS sm qE qT tl qQ qd qF fm qC ap pl qH qB av hs bs n as_ r hM hn (by omega)) (cwV 1 hts gX6_modelOf_X6_bodyOf rfl rfl rfl (by decide +kernel) ⟨(Nat.le_of_ble_eq_true rfl), (Nat.le_of_ble_eq_true rfl)⟩) [0, 1] rfl 0 rfl rfl rfl rfl hl.1 rfl (Nat.le_of_ble_eq_true rfl) dX6_modelOf_42 ⟨Nat.zero_le _, Nat.zero_le _⟩ ?_
                refine lv_iload_n hx hb dX6_modelOf_45 rfl (lv_at hl 2 rfl) ?_
                refine lv_iconst (v := (-1)) hx hb dX6_modelOf_46 (by decide) ?_
                refine lv_ixor hx hb dX6_modelOf_47 ?_
                refine lv_iand hx hb dX6_modelOf_48 ?_
                refine lv_if_ne (tgt := 63) hx hb dX6_modelOf_49 (by decide) (fun c_6 => ?_) (fun c_6 => ?_)
                · skip
                  have h2 : sbs (bs r) x5 = false := decide_eq_false c_6
                  refine lv_iconst (v := nI 0) hx hb dX6_modelOf_63 (by decide) ?_
                  refine lv_ior hx hb dX6_modelOf_64 ?_
                  refine lv_eqi (y := x5) (or_0 x5) ?_
                  refine lv_istore_n (lv' := [(3, .int x5), (0, .ref mo), (1, .int R), (4, .int x3), (5, .int (nI r))]) hx hb dX6_modelOf_65 rfl hl (by decide) rfl (fun ls hl => ?_)
                  refine lv_iinc (v := nI (r + 1)) (lv' := [(5, .int (nI (r + 1))), (3, .int x5), (0, .ref mo), (1, .int R), (4, .int x3)]) hx hb dX6_modelOf_66 hl (k := 4) rfl (nI_s1 r) (by decide) rfl (fun ls hl => ?_)
                  refine lv_goto (tgt := 17) hx hb dX6_modelOf_69 (by decide) ?_
                  exact ih_17 (r + 1) x5 (by omega) (by subst e5; simp only [gsF, decide_true, decide_false, reduceIte, Bool.false_eq_true, not_true_eq_false, not_false_eq_true, and_self, and_true, true_and, and_false, false_and, h1, h2]) (by omega) ls (lv_sub hl [2, 3, 1, 4, 0] rfl)
                · skip
                  have h2 : sbs (bs r) x5 = true := decide_eq_true c_6
                  refine lv_iconst (v := nI 1) hx hb dX6_modelOf_52 (by decide) ?_
                  refine lv_aload_n hx hb dX6_modelOf_53 rfl (lv_at hl 0 rfl) ?_
                  refine lv_iload hx hb dX6_modelOf_54 (lv_at hl 4 rfl) ?_
                  refine pu_V (As := [.int (nI r)]) (rest := [.int (nI 1), .int x5]) ⟨hx, hb, hml, hown, hts⟩ hG hP (k_X6_headOf l D cI cB mo qA qS sm qE qT tl qQ qd qF fm qC ap pl qH qB av hs bs n as_ r hM hn (by omega)) (cwV 1 hts gX6_modelOf_X6_headOf rfl rfl rfl (by decide +kernel) ⟨(Nat.le_of_ble_eq_true rfl), (Nat.le_of_ble_eq_true rfl)⟩) [0, 1] rfl 0 rfl rfl rfl rfl hl.1 rfl (Nat.le_of_ble_eq_true rfl) dX6_modelOf_56 ⟨Nat.zero_le _, Nat.zero_le _⟩ ?_
                  refine lv_ishl hx hb dX6_modelOf_59 ?_
                  refine lv_goto (tgt := 64) hx hb dX6_modelOf_60 (by decide) ?_
                  refine lv_ior hx hb dX6_modelOf_64 ?_
                  refine lv_istore_n (lv' := [(3, .int (x5 ||| ((nI 1) <<< ((hs r) &&& 31)))), (0, .ref mo), (1, .int R), (4, .int x3), (5, .int (nI r))]) hx hb dX6_modelOf_65 rfl hl (by decide) rfl (fun ls hl => ?_)
                  refine lv_iinc (v := nI (r + 1)) (lv' := [(5, .int (nI (r + 1))), (3, .int (x5 ||| ((nI 1) <<< ((hs r) &&& 31)))), (0, .ref mo), (1, .int R), (4, .int x3)]) hx hb dX6_modelOf_66 hl (k := 4) rfl (nI_s1 r) (by decide) rfl (fun ls hl => ?_)
                  refine lv_goto (tgt := 17) hx hb dX6_modelOf_69 (by decide) ?_
                  exact ih_17 (r + 1) (x5 ||| ((nI 1) <<< ((hs r) &&& 31))) (by omega) (by subst e5; simp only [gsF, decide_true, decide_false, reduceIte, Bool.false_eq_true, not_true_eq_false, not_false_eq_true, and_self, and_true, true_and, and_false, false_and, h1, h2]) (by omega) ls (lv_sub hl [2, 3, 1, 4, 0] rfl)
        exact lp_17_3 (n - 0 + 1) 0 x3 (by omega) rfl (Nat.lt_succ_self _) ls (lv_sub hl [2, 3, 4, 1, 0] rfl)
  exact lp_5_1 (17 - 0 + 1) 0 F (-1) (by omega) rfl (Or.inl ⟨rfl, rfl⟩) (Nat.lt_succ_self _) ls (lv_sub hl [2, 3, 1, 0] rfl)
set_option maxHeartbeats 4000000 in
set_option maxRecDepth 100000 in
theorem k_X6_whole (l : Launch) (D : va_G) (cI cB : ClassId) (mo : Nat) (qA : Nat) (qS : Nat) (sm : Nat) (qE : Nat) (qT : Nat) (tl : Nat) (qQ : Nat) (qd : Nat) (qF : Nat) (fm : Nat) (qC : Nat) (ap : Nat) (pl : Nat) (qH : Nat) (qB : Nat) (av : Nat → Int32) (hs : Nat → Int32) (bs : Nat → Int32) (n : Nat) (as_ : Int32) (hM : mA av hs bs n as_) (hn : n ≤ 24) (hH : hOK hs n) : Rd l yX6_whole wsX6_whole ({ frames := 2, cells := 0, slots := 0, locals := 46 }) D cI cB [.ref mo] [(mo, .inr (6, [.ref qA, .ref qS, .int (nI sm), .ref qE, .ref qT, .int (nI tl), .ref qQ, .int (nI qd), .ref qF, .int (nI fm), .ref qC, .int (nI ap), .int (nI pl), .ref qH, .ref qB])), (qA, .inl (cI, 50, .inl av))] (.int (mdl hs bs n)) := by
  refine pu_startI (cc := cX6_whole) (maxL := 1) (by decide) rfl (Nat.le_of_ble_eq_true rfl) ?_
  intro p e s m args below meth c Q hx hb hml hown hts hP hG hret ls hl
  have hown : s.vm.findClass RX6 = some m.cls := hown
  have hl : lv_has ls 1 [(0, .ref mo)] := hl
  refine lv_aload_n hx hb dX6_whole_0 rfl (lv_at hl 0 rfl) ?_
  refine lv_aload_n hx hb dX6_whole_1 rfl (lv_at hl 0 rfl) ?_
  refine pu_V (As := []) (rest := [.ref mo]) ⟨hx, hb, hml, hown, hts⟩ hG hP (k_X6_everyRule l D cI cB mo qA qS sm qE qT tl qQ qd qF fm qC ap pl qH qB av hs bs n as_ hM hn) (cwV 0 hts gX6_whole_X6_everyRule rfl rfl rfl (by decide +kernel) ⟨(Nat.le_of_ble_eq_true rfl), (Nat.le_of_ble_eq_true rfl)⟩) [0, 1] rfl 0 rfl rfl rfl rfl hl.1 rfl (Nat.le_of_ble_eq_true rfl) dX6_whole_2 ⟨Nat.zero_le _, Nat.zero_le _⟩ ?_
  refine lv_iconst (v := nI 0) hx hb dX6_whole_5 (by decide) ?_
  refine pu_V (As := [.int (evr n), .int (nI 0)]) (rest := []) ⟨hx, hb, hml, hown, hts⟩ hG hP (k_X6_modelOf l D cI cB mo qA qS sm qE qT tl qQ qd qF fm qC ap pl qH qB av hs bs n as_ (evr n) (nI 0) hM hn hH low16_0) (cwV 2 hts gX6_whole_X6_modelOf rfl rfl rfl (by decide +kernel) ⟨(Nat.le_of_ble_eq_true rfl), (Nat.le_of_ble_eq_true rfl)⟩) [0, 1] rfl 0 rfl rfl rfl rfl hl.1 rfl (Nat.le_of_ble_eq_true rfl) dX6_whole_6 ⟨Nat.zero_le _, Nat.zero_le _⟩ ?_
  exact hret _ _ _ rfl dX6_whole_9
set_option maxHeartbeats 4000000 in
set_option maxRecDepth 100000 in
theorem k_X6_model (l : Launch) (D : va_G) (cI cB : ClassId) (mo : Nat) (qA : Nat) (qS : Nat) (sm : Nat) (qE : Nat) (qT : Nat) (tl : Nat) (qQ : Nat) (qd : Nat) (qF : Nat) (fm : Nat) (qC : Nat) (ap : Nat) (pl : Nat) (qH : Nat) (qB : Nat) (av : Nat → Int32) (hs : Nat → Int32) (bs : Nat → Int32) (n : Nat) (as_ : Int32) (hM : mA av hs bs n as_) (hn : n ≤ 24) (hH : hOK hs n) : Rd l yX6_model wsX6_model ({ frames := 3, cells := 0, slots := 0, locals := 66 }) D cI cB [.ref mo] [(mo, .inr (6, [.ref qA, .ref qS, .int (nI sm), .ref qE, .ref qT, .int (nI tl), .ref qQ, .int (nI qd), .ref qF, .int (nI fm), .ref qC, .int (nI ap), .int (nI pl), .ref qH, .ref qB])), (qA, .inl (cI, 50, .inl av))] (.int (mdl hs bs n)) := by
  refine pu_startI (cc := cX6_model) (maxL := 1) (by decide) rfl (Nat.le_of_ble_eq_true rfl) ?_
  intro p e s m args below meth c Q hx hb hml hown hts hP hG hret ls hl
  have hown : s.vm.findClass RX6 = some m.cls := hown
  have hl : lv_has ls 1 [(0, .ref mo)] := hl
  refine lv_aload_n hx hb dX6_model_0 rfl (lv_at hl 0 rfl) ?_
  refine pu_V (As := []) (rest := []) ⟨hx, hb, hml, hown, hts⟩ hG hP (k_X6_whole l D cI cB mo qA qS sm qE qT tl qQ qd qF fm qC ap pl qH qB av hs bs n as_ hM hn hH) (cwV 0 hts gX6_model_X6_whole rfl rfl rfl (by decide +kernel) ⟨(Nat.le_of_ble_eq_true rfl), (Nat.le_of_ble_eq_true rfl)⟩) [0, 1] rfl 0 rfl rfl rfl rfl hl.1 rfl (Nat.le_of_ble_eq_true rfl) dX6_model_1 ⟨Nat.zero_le _, Nat.zero_le _⟩ ?_
  exact hret _ _ _ rfl dX6_model_4
set_option maxHeartbeats 4000000 in
set_option maxRecDepth 100000 in
theorem k_X6_levelOf (l : Launch) (D : va_G) (cI cB : ClassId) (mo : Nat) (qA : Nat) (qS : Nat) (sm : Nat) (qE : Nat) (qT : Nat) (tl : Nat) (qQ : Nat) (qd : Nat) (qF : Nat) (fm : Nat) (qC : Nat) (ap : Nat) (pl : Nat) (qH : Nat) (qB : Nat) (av : Nat → Int32) (hs : Nat → Int32) (bs : Nat → Int32) (n : Nat) (as_ : Int32) (a : Nat) (lv : Nat) (hM : mA av hs bs n as_) (hn : n ≤ 24) (ha : a < 16) (hlv : lv < 16) (h1 : ∀ i, i < lv → has (pw (fun K => rnd hs bs (evr n) K n) (i + 1) (nI 0)) (nI a) = false) (h2 : has (pw (fun K => rnd hs bs (evr n) K n) (lv + 1) (nI 0)) (nI a) = true) : Rd l yX6_levelOf wsX6_levelOf ({ frames := 1, cells := 0, slots := 0, locals := 21 }) D cI cB [.ref mo, .int (nI a)] [(mo, .inr (6, [.ref qA, .ref qS, .int (nI sm), .ref qE, .ref qT, .int (nI tl), .ref qQ, .int (nI qd), .ref qF, .int (nI fm), .ref qC, .int (nI ap), .int (nI pl), .ref qH, .ref qB])), (qA, .inl (cI, 50, .inl av))] (.int (nI lv)) := by
  refine pu_startI (cc := cX6_levelOf) (maxL := 6) (by decide) rfl (Nat.le_of_ble_eq_true rfl) ?_
  intro p e s m args below meth c Q hx hb hml hown hts hP hG hret ls hl
  have hown : s.vm.findClass RX6 = some m.cls := hown
  have hl : lv_has ls 6 [(0, .ref mo), (1, .int (nI a))] := hl
  refine lv_iconst (v := nI 0) hx hb dX6_levelOf_0 (by decide) ?_
  refine lv_istore_n (lv' := [(2, .int (nI 0)), (0, .ref mo), (1, .int (nI a))]) hx hb dX6_levelOf_1 rfl hl (by decide) rfl (fun ls hl => ?_)
  refine lv_iconst (v := (-1)) hx hb dX6_levelOf_2 (by decide) ?_
  refine lv_istore_n (lv' := [(3, .int (-1)), (2, .int (nI 0)), (0, .ref mo), (1, .int (nI a))]) hx hb dX6_levelOf_3 rfl hl (by decide) rfl (fun ls hl => ?_)
  have lp_4_1 : ∀ (fu_4 : Nat) (k : Nat) (x2 : Int32) (hk : k ≤ lv + 1) (e2 : x2 = pw (fun K => rnd hs bs (evr n) K n) k (nI 0)) (hfu_4 : 17 - k < fu_4) (ls : Array Slot) (hl : lv_has ls 6 [(0, .ref mo), (1, .int (nI a)), (2, .int x2), (3, .int (nI k - nI 1))]), W p l e ({ frames := 1, cells := 0, slots := 0, locals := 21 }) s m args below meth c s.heap [] 0 0 Q (F0 m 4 ls []) := by
    intro fu_4
    induction fu_4 with
    | zero => intro k x2 hk e2 hfu; exact absurd hfu (Nat.not_lt_zero _)
    | succ fu_4 ih_4 =>
      intro k x2 hk e2 hfu_4 ls hl
      refine lv_iload_n hx hb dX6_levelOf_4 rfl (lv_at hl 2 rfl) ?_
      refine lv_iload_n hx hb dX6_levelOf_5 rfl (lv_at hl 1 rfl) ?_
      refine lv_ishr hx hb dX6_levelOf_6 ?_
      refine lv_iconst (v := nI 1) hx hb dX6_levelOf_7 (by decide) ?_
      refine lv_iand hx hb dX6_levelOf_8 ?_
      refine lv_if_ne (tgt := 74) hx hb dX6_levelOf_9 (by decide) (fun c_2 => ?_) (fun c_2 => ?_)
      · skip
        have hm : has x2 (nI a) = true := by cases hq : has x2 (nI a) with | true => rfl | false => exact absurd ((shr_0 (by omega)).mpr hq) c_2
        have hkl := lev_go ha h1 hk e2 hm
        refine lv_iload_n hx hb dX6_levelOf_74 rfl (lv_at hl 3 rfl) ?_
        exact hret _ _ _ (by rw [hkl]; exact nI_pred lv) dX6_levelOf_75
      · skip
        have hm : has x2 (nI a) = false := (shr_0 (by omega)).mp c_2
        have hkl := lev_on h2 hk e2 hm
        refine lv_iload_n hx hb dX6_levelOf_12 rfl (lv_at hl 2 rfl) ?_
        refine lv_istore (lv' := [(4, .int x2), (0, .ref mo), (1, .int (nI a)), (2, .int x2), (3, .int (nI k - nI 1))]) hx hb dX6_levelOf_13 hl (by decide) rfl (fun ls hl => ?_)
        refine lv_iconst (v := nI 0) hx hb dX6_levelOf_15 (by decide) ?_
        refine lv_istore (lv' := [(5, .int (nI 0)), (4, .int x2), (0, .ref mo), (1, .int (nI a)), (2, .int x2), (3, .int (nI k - nI 1))]) hx hb dX6_levelOf_16 hl (by decide) rfl (fun ls hl => ?_)
        have lp_18_3 : ∀ (fu_18 : Nat) (r : Nat) (x4 : Int32) (hr : r ≤ n) (e4 : x4 = rnd hs bs (evr n) x2 r) (hfu_18 : n - r < fu_18) (ls : Array Slot) (hl : lv_has ls 6 [(0, .ref mo), (1, .int (nI a)), (2, .int x2), (3, .int (nI k - nI 1)), (4, .int x4), (5, .int (nI r))]), W p l e ({ frames := 1, cells := 0, slots := 0, locals := 21 }) s m args below meth c s.heap [] 0 0 Q (F0 m 18 ls []) := by
          intro fu_18
          induction fu_18 with
          | zero => intro r x4 hr e4 hfu; exact absurd hfu (Nat.not_lt_zero _)
          | succ fu_18 ih_18 =>
            intro r x4 hr e4 hfu_18 ls hl
            refine lv_iload hx hb dX6_levelOf_18 (lv_at hl 5 rfl) ?_
            refine lv_aload_n hx hb dX6_levelOf_20 rfl (lv_at hl 0 rfl) ?_
            refine va_get (D := D) (ci := 6) (v := .ref qA) (C := RX6) (T := TX6) (N := 15) hx hb hts ilX6_levelOf_6 hown hG.1 hP 0 rfl rfl 0 (by decide) (hts (.fieldLink RX6 7 "HornEngineModel" "all" "[I") (List.mem_of_getElem? (i := 1) rfl)) (fun _ h9 => h9) rfl dX6_levelOf_21 ?_
            refine lv_iconst (v := nI 0) hx hb dX6_levelOf_24 (by decide) ?_
            refine ia_ld hx hb hG hP 1 rfl 0 rfl (by omega) (by decide) dX6_levelOf_25 ?_
            refine lv_eqi (y := nI n) hM.1 ?_
            refine lv_icmp_ge (tgt := 65) hx hb dX6_levelOf_26 (by decide) (fun c_4 => ?_) (fun c_4 => ?_)
            · skip
              have c_4 : n ≤ r := (nI_leI (by omega) (by omega)).mp (show nI n ≤ nI r from c_4)
              refine lv_iload hx hb dX6_levelOf_65 (lv_at hl 4 rfl) ?_
              refine lv_istore_n (lv' := [(2, .int x4), (0, .ref mo), (1, .int (nI a)), (3, .int (nI k - nI 1)), (4, .int x4), (5, .int (nI r))]) hx hb dX6_levelOf_67 rfl hl (by decide) rfl (fun ls hl => ?_)
              refine lv_iinc (v := nI (k + 1) - nI 1) (lv' := [(3, .int (nI (k + 1) - nI 1)), (2, .int x4), (0, .ref mo), (1, .int (nI a)), (4, .int x4), (5, .int (nI r))]) hx hb dX6_levelOf_68 hl (k := 3) rfl (nI_kk k) (by decide) rfl (fun ls hl => ?_)
              refine lv_goto (tgt := 4) hx hb dX6_levelOf_71 (by decide) ?_
              exact ih_4 (k + 1) x4 (by omega) (by rw [e4, show r = n from by omega, e2]; rfl) (by omega) ls (lv_sub hl [2, 3, 1, 0] rfl)
            · skip
              have c_4 : ¬ (n ≤ r) := fun h9 => (show ¬ (nI n ≤ nI r) from c_4) ((nI_leI (by omega) (by omega)).mpr h9)
              refine lv_iload hx hb dX6_levelOf_29 (lv_at hl 4 rfl) ?_
              refine lv_aload_n hx hb dX6_levelOf_31 rfl (lv_at hl 0 rfl) ?_
              refine lv_iload hx hb dX6_levelOf_32 (lv_at hl 5 rfl) ?_
              refine pu_V (As := [.int (nI r)]) (rest := [.int x4]) ⟨hx, hb, hml, hown, hts⟩ hG hP (k_X6_bodyOf l D cI cB mo qA qS sm qE qT tl qQ qd qF fm qC ap pl qH qB av hs bs n as_ r hM hn (by omega)) (cwV 1 hts gX6_levelOf_X6_bodyOf rfl rfl rfl (by decide +kernel) ⟨(Nat.le_of_ble_eq_true rfl), (Nat.le_of_ble_eq_true rfl)⟩) [0, 1] rfl 0 rfl rfl rfl rfl hl.1 rfl (Nat.le_of_ble_eq_true rfl) dX6_levelOf_34 ⟨Nat.zero_le _, Nat.zero_le _⟩ ?_
              refine lv_iload_n hx hb dX6_levelOf_37 rfl (lv_at hl 2 rfl) ?_
              refine lv_iconst (v := (-1)) hx hb dX6_levelOf_38 (by decide) ?_
              refine lv_ixor hx hb dX6_levelOf_39 ?_
              refine lv_iand hx hb dX6_levelOf_40 ?_
              refine lv_if_ne (tgt := 55) hx hb dX6_levelOf_41 (by decide) (fun c_5 => ?_) (fun c_5 => ?_)
              · skip
                have h3 : sbs (bs r) x2 = false := decide_eq_false c_5
                refine lv_iconst (v := nI 0) hx hb dX6_levelOf_55 (by decide) ?_
                refine lv_ior hx hb dX6_levelOf_56 ?_
                refine lv_eqi (y := x4) (or_0 x4) ?_
                refine lv_istore (lv' := [(4, .int x4), (0, .ref mo), (1, .int (nI a)), (2, .int x2), (3, .int (nI k - nI 1)), (5, .int (nI r))]) hx hb dX6_levelOf_57 hl (by decide) rfl (fun ls hl => ?_)
                refine lv_iinc (v := nI (r + 1)) (lv' := [(5, .int (nI (r + 1))), (4, .int x4), (0, .ref mo), (1, .int (nI a)), (2, .int x2), (3, .int (nI k - nI 1))]) hx hb dX6_levelOf_59 hl (k := 5) rfl (nI_s1 r) (by decide) rfl (fun ls hl => ?_)
                refine lv_goto (tgt := 18) hx hb dX6_levelOf_62 (by decide) ?_
                exact ih_18 (r + 1) x4 (by omega) (by subst e4; rw [rnd_all hn (by omega)]; simp only [decide_true, decide_false, reduceIte, Bool.false_eq_true, not_true_eq_false, not_false_eq_true, and_self, and_true, true_and, and_false, false_and, h3]) (by omega) ls (lv_sub hl [2, 3, 4, 5, 1, 0] rfl)
              · skip
                have h3 : sbs (bs r) x2 = true := decide_eq_true c_5
                refine lv_iconst (v := nI 1) hx hb dX6_levelOf_44 (by decide) ?_
                refine lv_aload_n hx hb dX6_levelOf_45 rfl (lv_at hl 0 rfl) ?_
                refine lv_iload hx hb dX6_levelOf_46 (lv_at hl 5 rfl) ?_
                refine pu_V (As := [.int (nI r)]) (rest := [.int (nI 1), .int x4]) ⟨hx, hb, hml, hown, hts⟩ hG hP (k_X6_headOf l D cI cB mo qA qS sm qE qT tl qQ qd qF fm qC ap pl qH qB av hs bs n as_ r hM hn (by omega)) (cwV 1 hts gX6_levelOf_X6_headOf rfl rfl rfl (by decide +kernel) ⟨(Nat.le_of_ble_eq_true rfl), (Nat.le_of_ble_eq_true rfl)⟩) [0, 1] rfl 0 rfl rfl rfl rfl hl.1 rfl (Nat.le_of_ble_eq_true rfl) dX6_levelOf_48 ⟨Nat.zero_le _, Nat.zero_le _⟩ ?_
                refine lv_ishl hx hb dX6_levelOf_51 ?_
                refine lv_goto (tgt := 56) hx hb dX6_levelOf_52 (by decide) ?_
                refine lv_ior hx hb dX6_levelOf_56 ?_
                refine lv_istore (lv' := [(4, .int (x4 ||| ((nI 1) <<< ((hs r) &&& 31)))), (0, .ref mo), (1, .int (nI a)), (2, .int x2), (3, .int (nI k - nI 1)), (5, .int (nI r))]) hx hb dX6_levelOf_57 hl (by decide) rfl (fun ls hl => ?_)
                refine lv_iinc (v := nI (r + 1)) (lv' := [(5, .int (nI (r + 1))), (4, .int (x4 ||| ((nI 1) <<< ((hs r) &&& 31)))), (0, .ref mo), (1, .int (nI a)), (2, .int x2), (3, .int (nI k - nI 1))]) hx hb dX6_levelOf_59 hl (k := 5) rfl (nI_s1 r) (by decide) rfl (fun ls hl => ?_)
                refine lv_goto (tgt := 18) hx hb dX6_levelOf_62 (by decide) ?_
                exact ih_18 (r + 1) (x4 ||| ((nI 1) <<< ((hs r) &&& 31))) (by omega) (by subst e4; rw [rnd_all hn (by omega)]; simp only [decide_true, decide_false, reduceIte, Bool.false_eq_true, not_true_eq_false, not_false_eq_true, and_self, and_true, true_and, and_false, false_and, h3]) (by omega) ls (lv_sub hl [2, 3, 4, 5, 1, 0] rfl)
        exact lp_18_3 (n - 0 + 1) 0 x2 (by omega) rfl (Nat.lt_succ_self _) ls (lv_sub hl [2, 3, 4, 5, 1, 0] rfl)
  exact lp_4_1 (17 - 0 + 1) 0 (nI 0) (by omega) rfl (Nat.lt_succ_self _) ls (lv_sub hl [2, 3, 1, 0] rfl)
set_option maxHeartbeats 4000000 in
set_option maxRecDepth 100000 in
theorem k_X6_isIn (l : Launch) (D : va_G) (cI cB : ClassId) (mo : Nat) (qA : Nat) (qS : Nat) (sm : Nat) (qE : Nat) (qT : Nat) (tl : Nat) (qQ : Nat) (qd : Nat) (qF : Nat) (fm : Nat) (qC : Nat) (ap : Nat) (pl : Nat) (qH : Nat) (qB : Nat) (av : Nat → Int32) (hs : Nat → Int32) (bs : Nat → Int32) (n : Nat) (as_ : Int32) (a : Nat) (hM : mA av hs bs n as_) (hn : n ≤ 24) (hH : hOK hs n) (ha : a < 16) : Rd l yX6_isIn wsX6_isIn ({ frames := 3, cells := 0, slots := 0, locals := 66 }) D cI cB [.ref mo, .int (nI a)] [(mo, .inr (6, [.ref qA, .ref qS, .int (nI sm), .ref qE, .ref qT, .int (nI tl), .ref qQ, .int (nI qd), .ref qF, .int (nI fm), .ref qC, .int (nI ap), .int (nI pl), .ref qH, .ref qB])), (qA, .inl (cI, 50, .inl av))] (.int (bI (has (mdl hs bs n) (nI a)))) := by
  refine pu_startZ (cc := cX6_isIn) (maxL := 2) (by decide) rfl (Nat.le_of_ble_eq_true rfl) ?_
  intro p e s m args below meth c Q hx hb hml hown hts hP hG hret ls hl
  have hown : s.vm.findClass RX6 = some m.cls := hown
  have hl : lv_has ls 2 [(0, .ref mo), (1, .int (nI a))] := hl
  refine lv_aload_n hx hb dX6_isIn_0 rfl (lv_at hl 0 rfl) ?_
  refine pu_V (As := []) (rest := []) ⟨hx, hb, hml, hown, hts⟩ hG hP (k_X6_whole l D cI cB mo qA qS sm qE qT tl qQ qd qF fm qC ap pl qH qB av hs bs n as_ hM hn hH) (cwV 0 hts gX6_isIn_X6_whole rfl rfl rfl (by decide +kernel) ⟨(Nat.le_of_ble_eq_true rfl), (Nat.le_of_ble_eq_true rfl)⟩) [0, 1] rfl 0 rfl rfl rfl rfl hl.1 rfl (Nat.le_of_ble_eq_true rfl) dX6_isIn_1 ⟨Nat.zero_le _, Nat.zero_le _⟩ ?_
  refine lv_iload_n hx hb dX6_isIn_4 rfl (lv_at hl 1 rfl) ?_
  refine lv_ishr hx hb dX6_isIn_5 ?_
  refine lv_iconst (v := nI 1) hx hb dX6_isIn_6 (by decide) ?_
  refine lv_iand hx hb dX6_isIn_7 ?_
  refine lv_iconst (v := nI 1) hx hb dX6_isIn_8 (by decide) ?_
  refine lv_icmp_ne (tgt := 16) hx hb dX6_isIn_9 (by decide) (fun c_1 => ?_) (fun c_1 => ?_)
  · skip
    have hm : has (mdl hs bs n) (nI a) = false := Bool.eq_false_iff.mpr (fun q => c_1 ((shr_1 (by omega)).mpr q))
    refine lv_iconst (v := nI 0) hx hb dX6_isIn_16 (by decide) ?_
    exact hret _ _ _ (bI_0 hm) dX6_isIn_17
  · skip
    have hm : has (mdl hs bs n) (nI a) = true := (shr_1 (by omega)).mp c_1
    refine lv_iconst (v := nI 1) hx hb dX6_isIn_12 (by decide) ?_
    refine lv_goto (tgt := 17) hx hb dX6_isIn_13 (by decide) ?_
    exact hret _ _ _ (bI_1 hm) dX6_isIn_17
set_option maxHeartbeats 4000000 in
set_option maxRecDepth 100000 in
theorem k_X6_reasonOf (l : Launch) (D : va_G) (cI cB : ClassId) (mo : Nat) (qA : Nat) (qS : Nat) (sm : Nat) (qE : Nat) (qT : Nat) (tl : Nat) (qQ : Nat) (qd : Nat) (qF : Nat) (fm : Nat) (qC : Nat) (ap : Nat) (pl : Nat) (qH : Nat) (qB : Nat) (av : Nat → Int32) (hs : Nat → Int32) (bs : Nat → Int32) (n : Nat) (as_ : Int32) (a : Nat) (hM : mA av hs bs n as_) (hn : n ≤ 24) (hH : hOK hs n) (ha : a < 16) : Rd l yX6_reasonOf wsX6_reasonOf ({ frames := 2, cells := 0, slots := 0, locals := 46 }) D cI cB [.ref mo, .int (nI a)] [(mo, .inr (6, [.ref qA, .ref qS, .int (nI sm), .ref qE, .ref qT, .int (nI tl), .ref qQ, .int (nI qd), .ref qF, .int (nI fm), .ref qC, .int (nI ap), .int (nI pl), .ref qH, .ref qB])), (qA, .inl (cI, 50, .inl av))] (.int (reaF hs bs n a n)) := by
  refine pu_startI (cc := cX6_reasonOf) (maxL := 5) (by decide) rfl (Nat.le_of_ble_eq_true rfl) ?_
  intro p e s m args below meth c Q hx hb hml hown hts hP hG hret ls hl
  have hown : s.vm.findClass RX6 = some m.cls := hown
  have hl : lv_has ls 5 [(0, .ref mo), (1, .int (nI a))] := hl
  have hlow : ∀ X : Int32, low16 (nI 0) := fun _ => low16_0
  refine lv_aload_n hx hb dX6_reasonOf_0 rfl (lv_at hl 0 rfl) ?_
  refine pu_V (As := []) (rest := []) ⟨hx, hb, hml, hown, hts⟩ hG hP (k_X6_everyRule l D cI cB mo qA qS sm qE qT tl qQ qd qF fm qC ap pl qH qB av hs bs n as_ hM hn) (cwV 0 hts gX6_reasonOf_X6_everyRule rfl rfl rfl (by decide +kernel) ⟨(Nat.le_of_ble_eq_true rfl), (Nat.le_of_ble_eq_true rfl)⟩) [0, 1] rfl 0 rfl rfl rfl rfl hl.1 rfl (Nat.le_of_ble_eq_true rfl) dX6_reasonOf_1 ⟨Nat.zero_le _, Nat.zero_le _⟩ ?_
  refine lv_istore_n (lv' := [(2, .int (evr n)), (0, .ref mo), (1, .int (nI a))]) hx hb dX6_reasonOf_4 rfl hl (by decide) rfl (fun ls hl => ?_)
  refine lv_aload_n hx hb dX6_reasonOf_5 rfl (lv_at hl 1 rfl) ?_
  refine va_get (D := D) (ci := 6) (v := .ref qA) (C := RX6) (T := TX6) (N := 15) hx hb hts ilX6_reasonOf_6 hown hG.1 hP 0 rfl rfl 0 (by decide) (hts (.fieldLink RX6 7 "HornEngineModel" "all" "[I") (List.mem_of_getElem? (i := 1) rfl)) (fun _ h9 => h9) rfl dX6_reasonOf_6 ?_
  refine lv_iconst (v := nI 0) hx hb dX6_reasonOf_9 (by decide) ?_
  refine ia_ld hx hb hG hP 1 rfl 0 rfl (by omega) (by decide) dX6_reasonOf_10 ?_
  refine lv_eqi (y := nI n) hM.1 ?_
  refine lv_iconst (v := nI 1) hx hb dX6_reasonOf_11 (by decide) ?_
  refine lv_isub hx hb dX6_reasonOf_12 ?_
  refine lv_eqi (y := nI n - nI 1) rfl ?_
  refine lv_istore_n (lv' := [(3, .int (nI n - nI 1)), (2, .int (evr n)), (0, .ref mo), (1, .int (nI a))]) hx hb dX6_reasonOf_13 rfl hl (by decide) rfl (fun ls hl => ?_)
  have lp_14_1 : ∀ (fu_14 : Nat) (j : Nat) (x2 : Int32) (hj : j ≤ n) (e2 : x2 = reaF hs bs n a (n - j)) (hfu_14 : j < fu_14) (ls : Array Slot) (hl : lv_has ls 5 [(0, .ref mo), (1, .int (nI a)), (2, .int x2), (3, .int (nI j - nI 1))]), W p l e ({ frames := 2, cells := 0, slots := 0, locals := 46 }) s m args below meth c s.heap [] 0 0 Q (F0 m 14 ls []) := by
    intro fu_14
    induction fu_14 with
    | zero => intro j x2 hj e2 hfu; exact absurd hfu (Nat.not_lt_zero _)
    | succ fu_14 ih_14 =>
      intro j x2 hj e2 hfu_14 ls hl
      refine lv_iload_n hx hb dX6_reasonOf_14 rfl (lv_at hl 3 rfl) ?_
      refine lv_if_lt (tgt := 55) hx hb dX6_reasonOf_15 (by decide) (fun c_2 => ?_) (fun c_2 => ?_)
      · skip
        have hj0 := nI_dn c_2 (by omega)
        refine lv_iload_n hx hb dX6_reasonOf_55 rfl (lv_at hl 2 rfl) ?_
        exact hret _ _ _ (by rw [e2, hj0]; rfl) dX6_reasonOf_56
      · skip
        obtain ⟨i, rfl⟩ := nI_up c_2
        have hl : lv_has ls 5 [(0, .ref mo), (1, .int (nI a)), (2, .int x2), (3, .int (nI i))] := by rw [← nI_pred i]; exact hl
        refine lv_iload_n hx hb dX6_reasonOf_18 rfl (lv_at hl 2 rfl) ?_
        refine lv_iconst (v := nI 1) hx hb dX6_reasonOf_19 (by decide) ?_
        refine lv_iload_n hx hb dX6_reasonOf_20 rfl (lv_at hl 3 rfl) ?_
        refine lv_ishl hx hb dX6_reasonOf_21 ?_
        refine lv_iconst (v := (-1)) hx hb dX6_reasonOf_22 (by decide) ?_
        refine lv_ixor hx hb dX6_reasonOf_23 ?_
        refine lv_iand hx hb dX6_reasonOf_24 ?_
        refine lv_istore (lv' := [(4, .int (x2 &&& (((nI 1) <<< ((nI i) &&& 31)) ^^^ (-1)))), (0, .ref mo), (1, .int (nI a)), (2, .int x2), (3, .int (nI i))]) hx hb dX6_reasonOf_25 hl (by decide) rfl (fun ls hl => ?_)
        refine lv_aload_n hx hb dX6_reasonOf_27 rfl (lv_at hl 1 rfl) ?_
        refine lv_iload hx hb dX6_reasonOf_28 (lv_at hl 0 rfl) ?_
        refine lv_iconst (v := nI 0) hx hb dX6_reasonOf_30 (by decide) ?_
        refine pu_V (As := [.int (x2 &&& (((nI 1) <<< ((nI i) &&& 31)) ^^^ (-1))), .int (nI 0)]) (rest := []) ⟨hx, hb, hml, hown, hts⟩ hG hP (k_X6_modelOf l D cI cB mo qA qS sm qE qT tl qQ qd qF fm qC ap pl qH qB av hs bs n as_ (x2 &&& (((nI 1) <<< ((nI i) &&& 31)) ^^^ (-1))) (nI 0) hM hn hH low16_0) (cwV 2 hts gX6_reasonOf_X6_modelOf rfl rfl rfl (by decide +kernel) ⟨(Nat.le_of_ble_eq_true rfl), (Nat.le_of_ble_eq_true rfl)⟩) [0, 1] rfl 0 rfl rfl rfl rfl hl.1 rfl (Nat.le_of_ble_eq_true rfl) dX6_reasonOf_31 ⟨Nat.zero_le _, Nat.zero_le _⟩ ?_
        refine lv_iload_n hx hb dX6_reasonOf_34 rfl (lv_at hl 2 rfl) ?_
        refine lv_ishr hx hb dX6_reasonOf_35 ?_
        refine lv_iconst (v := nI 1) hx hb dX6_reasonOf_36 (by decide) ?_
        refine lv_iand hx hb dX6_reasonOf_37 ?_
        refine lv_iconst (v := nI 1) hx hb dX6_reasonOf_38 (by decide) ?_
        refine lv_icmp_ne (tgt := 47) hx hb dX6_reasonOf_39 (by decide) (fun c_3 => ?_) (fun c_3 => ?_)
        · skip
          have hm : has (clo hs bs n (less x2 i) (nI 0)) (nI a) = false := Bool.eq_false_iff.mpr (fun q => c_3 ((shr_1 (by omega)).mpr q))
          refine lv_iload_n hx hb dX6_reasonOf_47 rfl (lv_at hl 3 rfl) ?_
          refine lv_istore_n (lv' := [(2, .int x2), (4, .int (x2 &&& (((nI 1) <<< ((nI i) &&& 31)) ^^^ (-1)))), (0, .ref mo), (1, .int (nI a)), (3, .int (nI i))]) hx hb dX6_reasonOf_48 rfl hl (by decide) rfl (fun ls hl => ?_)
          refine lv_iinc (v := nI i - nI 1) (lv' := [(3, .int (nI i - nI 1)), (2, .int x2), (4, .int (x2 &&& (((nI 1) <<< ((nI i) &&& 31)) ^^^ (-1)))), (0, .ref mo), (1, .int (nI a))]) hx hb dX6_reasonOf_49 hl (k := 4) rfl (nI_m1 i) (by decide) rfl (fun ls hl => ?_)
          refine lv_goto (tgt := 14) hx hb dX6_reasonOf_52 (by decide) ?_
          exact ih_14 i x2 (by omega) (by subst e2; rw [show n - i = (n - (i + 1)) + 1 from by omega]; simp only [reaF, less, show n - 1 - (n - (i + 1)) = i from by omega, decide_true, decide_false, reduceIte, Bool.false_eq_true, not_true_eq_false, not_false_eq_true, and_self, and_true, true_and, and_false, false_and]; rw [show has (clo hs bs n (reaF hs bs n a (n - (i + 1)) &&& ((nI 1 <<< (nI i &&& 31)) ^^^ (-1))) (nI 0)) (nI a) = _ from hm]; rfl) (by omega) ls (lv_sub hl [3, 4, 1, 0] rfl)
        · skip
          have hm : has (clo hs bs n (less x2 i) (nI 0)) (nI a) = true := (shr_1 (by omega)).mp c_3
          refine lv_iload hx hb dX6_reasonOf_42 (lv_at hl 0 rfl) ?_
          refine lv_goto (tgt := 48) hx hb dX6_reasonOf_44 (by decide) ?_
          refine lv_istore_n (lv' := [(2, .int (x2 &&& (((nI 1) <<< ((nI i) &&& 31)) ^^^ (-1)))), (4, .int (x2 &&& (((nI 1) <<< ((nI i) &&& 31)) ^^^ (-1)))), (0, .ref mo), (1, .int (nI a)), (3, .int (nI i))]) hx hb dX6_reasonOf_48 rfl hl (by decide) rfl (fun ls hl => ?_)
          refine lv_iinc (v := nI i - nI 1) (lv' := [(3, .int (nI i - nI 1)), (2, .int (x2 &&& (((nI 1) <<< ((nI i) &&& 31)) ^^^ (-1)))), (4, .int (x2 &&& (((nI 1) <<< ((nI i) &&& 31)) ^^^ (-1)))), (0, .ref mo), (1, .int (nI a))]) hx hb dX6_reasonOf_49 hl (k := 4) rfl (nI_m1 i) (by decide) rfl (fun ls hl => ?_)
          refine lv_goto (tgt := 14) hx hb dX6_reasonOf_52 (by decide) ?_
          exact ih_14 i (x2 &&& (((nI 1) <<< ((nI i) &&& 31)) ^^^ (-1))) (by omega) (by subst e2; rw [show n - i = (n - (i + 1)) + 1 from by omega]; simp only [reaF, less, show n - 1 - (n - (i + 1)) = i from by omega, decide_true, decide_false, reduceIte, Bool.false_eq_true, not_true_eq_false, not_false_eq_true, and_self, and_true, true_and, and_false, false_and]; rw [show has (clo hs bs n (reaF hs bs n a (n - (i + 1)) &&& ((nI 1 <<< (nI i &&& 31)) ^^^ (-1))) (nI 0)) (nI a) = _ from hm]; rfl) (by omega) ls (lv_sub hl [3, 4, 1, 0] rfl)
  exact lp_14_1 (n + 1) n (evr n) (Nat.le_refl _) (by rw [Nat.sub_self]; rfl) (Nat.lt_succ_self _) ls (lv_sub hl [2, 3, 1, 0] rfl)
set_option maxHeartbeats 4000000 in
set_option maxRecDepth 100000 in
theorem k_X6_necessaryOf (l : Launch) (D : va_G) (cI cB : ClassId) (mo : Nat) (qA : Nat) (qS : Nat) (sm : Nat) (qE : Nat) (qT : Nat) (tl : Nat) (qQ : Nat) (qd : Nat) (qF : Nat) (fm : Nat) (qC : Nat) (ap : Nat) (pl : Nat) (qH : Nat) (qB : Nat) (av : Nat → Int32) (hs : Nat → Int32) (bs : Nat → Int32) (n : Nat) (as_ : Int32) (a : Nat) (hM : mA av hs bs n as_) (hn : n ≤ 24) (hH : hOK hs n) (ha : a < 16) : Rd l yX6_necessaryOf wsX6_necessaryOf ({ frames := 2, cells := 0, slots := 0, locals := 46 }) D cI cB [.ref mo, .int (nI a)] [(mo, .inr (6, [.ref qA, .ref qS, .int (nI sm), .ref qE, .ref qT, .int (nI tl), .ref qQ, .int (nI qd), .ref qF, .int (nI fm), .ref qC, .int (nI ap), .int (nI pl), .ref qH, .ref qB])), (qA, .inl (cI, 50, .inl av))] (.int (necF hs bs n a n)) := by
  refine pu_startI (cc := cX6_necessaryOf) (maxL := 4) (by decide) rfl (Nat.le_of_ble_eq_true rfl) ?_
  intro p e s m args below meth c Q hx hb hml hown hts hP hG hret ls hl
  have hown : s.vm.findClass RX6 = some m.cls := hown
  have hl : lv_has ls 4 [(0, .ref mo), (1, .int (nI a))] := hl
  refine lv_iconst (v := nI 0) hx hb dX6_necessaryOf_0 (by decide) ?_
  refine lv_istore_n (lv' := [(2, .int (nI 0)), (0, .ref mo), (1, .int (nI a))]) hx hb dX6_necessaryOf_1 rfl hl (by decide) rfl (fun ls hl => ?_)
  refine lv_iconst (v := nI 0) hx hb dX6_necessaryOf_2 (by decide) ?_
  refine lv_istore_n (lv' := [(3, .int (nI 0)), (2, .int (nI 0)), (0, .ref mo), (1, .int (nI a))]) hx hb dX6_necessaryOf_3 rfl hl (by decide) rfl (fun ls hl => ?_)
  have lp_4_1 : ∀ (fu_4 : Nat) (r : Nat) (x2 : Int32) (hr : r ≤ n) (e2 : x2 = necF hs bs n a r) (hfu_4 : n - r < fu_4) (ls : Array Slot) (hl : lv_has ls 4 [(0, .ref mo), (1, .int (nI a)), (2, .int x2), (3, .int (nI r))]), W p l e ({ frames := 2, cells := 0, slots := 0, locals := 46 }) s m args below meth c s.heap [] 0 0 Q (F0 m 4 ls []) := by
    intro fu_4
    induction fu_4 with
    | zero => intro r x2 hr e2 hfu; exact absurd hfu (Nat.not_lt_zero _)
    | succ fu_4 ih_4 =>
      intro r x2 hr e2 hfu_4 ls hl
      refine lv_iload_n hx hb dX6_necessaryOf_4 rfl (lv_at hl 3 rfl) ?_
      refine lv_aload_n hx hb dX6_necessaryOf_5 rfl (lv_at hl 0 rfl) ?_
      refine va_get (D := D) (ci := 6) (v := .ref qA) (C := RX6) (T := TX6) (N := 15) hx hb hts ilX6_necessaryOf_6 hown hG.1 hP 0 rfl rfl 0 (by decide) (hts (.fieldLink RX6 7 "HornEngineModel" "all" "[I") (List.mem_of_getElem? (i := 1) rfl)) (fun _ h9 => h9) rfl dX6_necessaryOf_6 ?_
      refine lv_iconst (v := nI 0) hx hb dX6_necessaryOf_9 (by decide) ?_
      refine ia_ld hx hb hG hP 1 rfl 0 rfl (by omega) (by decide) dX6_necessaryOf_10 ?_
      refine lv_eqi (y := nI n) hM.1 ?_
      refine lv_icmp_ge (tgt := 52) hx hb dX6_necessaryOf_11 (by decide) (fun c_2 => ?_) (fun c_2 => ?_)
      · skip
        have c_2 : n ≤ r := (nI_leI (by omega) (by omega)).mp (show nI n ≤ nI r from c_2)
        refine lv_iload_n hx hb dX6_necessaryOf_52 rfl (lv_at hl 2 rfl) ?_
        exact hret _ _ _ (by rw [e2, show r = n from by omega]) dX6_necessaryOf_53
      · skip
        have c_2 : ¬ (n ≤ r) := fun h9 => (show ¬ (nI n ≤ nI r) from c_2) ((nI_leI (by omega) (by omega)).mpr h9)
        refine lv_iload_n hx hb dX6_necessaryOf_14 rfl (lv_at hl 2 rfl) ?_
        refine lv_aload_n hx hb dX6_necessaryOf_15 rfl (lv_at hl 0 rfl) ?_
        refine lv_aload_n hx hb dX6_necessaryOf_16 rfl (lv_at hl 0 rfl) ?_
        refine pu_V (As := []) (rest := [.ref mo, .int x2]) ⟨hx, hb, hml, hown, hts⟩ hG hP (k_X6_everyRule l D cI cB mo qA qS sm qE qT tl qQ qd qF fm qC ap pl qH qB av hs bs n as_ hM hn) (cwV 0 hts gX6_necessaryOf_X6_everyRule rfl rfl rfl (by decide +kernel) ⟨(Nat.le_of_ble_eq_true rfl), (Nat.le_of_ble_eq_true rfl)⟩) [0, 1] rfl 0 rfl rfl rfl rfl hl.1 rfl (Nat.le_of_ble_eq_true rfl) dX6_necessaryOf_17 ⟨Nat.zero_le _, Nat.zero_le _⟩ ?_
        refine lv_iconst (v := nI 1) hx hb dX6_necessaryOf_20 (by decide) ?_
        refine lv_iload_n hx hb dX6_necessaryOf_21 rfl (lv_at hl 3 rfl) ?_
        refine lv_ishl hx hb dX6_necessaryOf_22 ?_
        refine lv_iconst (v := (-1)) hx hb dX6_necessaryOf_23 (by decide) ?_
        refine lv_ixor hx hb dX6_necessaryOf_24 ?_
        refine lv_iand hx hb dX6_necessaryOf_25 ?_
        refine lv_iconst (v := nI 0) hx hb dX6_necessaryOf_26 (by decide) ?_
        refine pu_V (As := [.int ((evr n) &&& (((nI 1) <<< ((nI r) &&& 31)) ^^^ (-1))), .int (nI 0)]) (rest := [.int x2]) ⟨hx, hb, hml, hown, hts⟩ hG hP (k_X6_modelOf l D cI cB mo qA qS sm qE qT tl qQ qd qF fm qC ap pl qH qB av hs bs n as_ ((evr n) &&& (((nI 1) <<< ((nI r) &&& 31)) ^^^ (-1))) (nI 0) hM hn hH low16_0) (cwV 2 hts gX6_necessaryOf_X6_modelOf rfl rfl rfl (by decide +kernel) ⟨(Nat.le_of_ble_eq_true rfl), (Nat.le_of_ble_eq_true rfl)⟩) [0, 1] rfl 0 rfl rfl rfl rfl hl.1 rfl (Nat.le_of_ble_eq_true rfl) dX6_necessaryOf_27 ⟨Nat.zero_le _, Nat.zero_le _⟩ ?_
        refine lv_iload_n hx hb dX6_necessaryOf_30 rfl (lv_at hl 1 rfl) ?_
        refine lv_ishr hx hb dX6_necessaryOf_31 ?_
        refine lv_iconst (v := nI 1) hx hb dX6_necessaryOf_32 (by decide) ?_
        refine lv_iand hx hb dX6_necessaryOf_33 ?_
        refine lv_if_ne (tgt := 43) hx hb dX6_necessaryOf_34 (by decide) (fun c_3 => ?_) (fun c_3 => ?_)
        · skip
          have hm : has (clo hs bs n (less (evr n) r) (nI 0)) (nI a) = true := by cases hq : has (clo hs bs n (less (evr n) r) (nI 0)) (nI a) with | true => rfl | false => exact absurd ((shr_0 (by omega)).mpr hq) c_3
          refine lv_iconst (v := nI 0) hx hb dX6_necessaryOf_43 (by decide) ?_
          refine lv_ior hx hb dX6_necessaryOf_44 ?_
          refine lv_eqi (y := x2) (or_0 x2) ?_
          refine lv_istore_n (lv' := [(2, .int x2), (0, .ref mo), (1, .int (nI a)), (3, .int (nI r))]) hx hb dX6_necessaryOf_45 rfl hl (by decide) rfl (fun ls hl => ?_)
          refine lv_iinc (v := nI (r + 1)) (lv' := [(3, .int (nI (r + 1))), (2, .int x2), (0, .ref mo), (1, .int (nI a))]) hx hb dX6_necessaryOf_46 hl (k := 3) rfl (nI_s1 r) (by decide) rfl (fun ls hl => ?_)
          refine lv_goto (tgt := 4) hx hb dX6_necessaryOf_49 (by decide) ?_
          exact ih_4 (r + 1) x2 (by omega) (by subst e2; simp only [necF, decide_true, decide_false, reduceIte, Bool.false_eq_true, not_true_eq_false, not_false_eq_true, and_self, and_true, true_and, and_false, false_and, hm]) (by omega) ls (lv_sub hl [2, 3, 1, 0] rfl)
        · skip
          have hm : has (clo hs bs n (less (evr n) r) (nI 0)) (nI a) = false := (shr_0 (by omega)).mp c_3
          refine lv_iconst (v := nI 1) hx hb dX6_necessaryOf_37 (by decide) ?_
          refine lv_iload_n hx hb dX6_necessaryOf_38 rfl (lv_at hl 3 rfl) ?_
          refine lv_ishl hx hb dX6_necessaryOf_39 ?_
          refine lv_goto (tgt := 44) hx hb dX6_necessaryOf_40 (by decide) ?_
          refine lv_ior hx hb dX6_necessaryOf_44 ?_
          refine lv_istore_n (lv' := [(2, .int (x2 ||| ((nI 1) <<< ((nI r) &&& 31)))), (0, .ref mo), (1, .int (nI a)), (3, .int (nI r))]) hx hb dX6_necessaryOf_45 rfl hl (by decide) rfl (fun ls hl => ?_)
          refine lv_iinc (v := nI (r + 1)) (lv' := [(3, .int (nI (r + 1))), (2, .int (x2 ||| ((nI 1) <<< ((nI r) &&& 31)))), (0, .ref mo), (1, .int (nI a))]) hx hb dX6_necessaryOf_46 hl (k := 3) rfl (nI_s1 r) (by decide) rfl (fun ls hl => ?_)
          refine lv_goto (tgt := 4) hx hb dX6_necessaryOf_49 (by decide) ?_
          exact ih_4 (r + 1) (x2 ||| ((nI 1) <<< ((nI r) &&& 31))) (by omega) (by subst e2; simp only [necF, decide_true, decide_false, reduceIte, Bool.false_eq_true, not_true_eq_false, not_false_eq_true, and_self, and_true, true_and, and_false, false_and, hm]) (by omega) ls (lv_sub hl [2, 3, 1, 0] rfl)
  exact lp_4_1 (n - 0 + 1) 0 (nI 0) (by omega) rfl (Nat.lt_succ_self _) ls (lv_sub hl [2, 3, 1, 0] rfl)
set_option maxHeartbeats 4000000 in
set_option maxRecDepth 100000 in
theorem k_X6_dependenciesOf (l : Launch) (D : va_G) (cI cB : ClassId) (mo : Nat) (qA : Nat) (qS : Nat) (sm : Nat) (qE : Nat) (qT : Nat) (tl : Nat) (qQ : Nat) (qd : Nat) (qF : Nat) (fm : Nat) (qC : Nat) (ap : Nat) (pl : Nat) (qH : Nat) (qB : Nat) (av : Nat → Int32) (hs : Nat → Int32) (bs : Nat → Int32) (n : Nat) (as_ : Int32) (a : Nat) (hM : mA av hs bs n as_) (hn : n ≤ 24) (hH : hOK hs n) (hB : bOK bs n) (ha : a < 16) : Rd l yX6_dependenciesOf wsX6_dependenciesOf ({ frames := 1, cells := 0, slots := 0, locals := 21 }) D cI cB [.ref mo, .int (nI a)] [(mo, .inr (6, [.ref qA, .ref qS, .int (nI sm), .ref qE, .ref qT, .int (nI tl), .ref qQ, .int (nI qd), .ref qF, .int (nI fm), .ref qC, .int (nI ap), .int (nI pl), .ref qH, .ref qB])), (qA, .inl (cI, 50, .inl av))] (.int (depS hs bs n a)) := by
  refine pu_startI (cc := cX6_dependenciesOf) (maxL := 5) (by decide) rfl (Nat.le_of_ble_eq_true rfl) ?_
  intro p e s m args below meth c Q hx hb hml hown hts hP hG hret ls hl
  have hown : s.vm.findClass RX6 = some m.cls := hown
  have hl : lv_has ls 5 [(0, .ref mo), (1, .int (nI a))] := hl
  refine lv_iconst (v := nI 0) hx hb dX6_dependenciesOf_0 (by decide) ?_
  refine lv_istore_n (lv' := [(2, .int (nI 0)), (0, .ref mo), (1, .int (nI a))]) hx hb dX6_dependenciesOf_1 rfl hl (by decide) rfl (fun ls hl => ?_)
  refine lv_iconst (v := (-1)) hx hb dX6_dependenciesOf_2 (by decide) ?_
  refine lv_istore_n (lv' := [(3, .int (-1)), (2, .int (nI 0)), (0, .ref mo), (1, .int (nI a))]) hx hb dX6_dependenciesOf_3 rfl hl (by decide) rfl (fun ls hl => ?_)
  have lp_4_1 : ∀ (fu_4 : Nat) (k : Nat) (x2 : Int32) (x3 : Int32) (hk : k ≤ 17) (e2 : x2 = pw (fun x => dgF hs bs a x n) k (nI 0)) (hh : (k = 0 ∧ x3 = -1) ∨ ∃ j, k = j + 1 ∧ x3 = pw (fun x => dgF hs bs a x n) j (nI 0)) (hfu_4 : 17 - k < fu_4) (ls : Array Slot) (hl : lv_has ls 5 [(0, .ref mo), (1, .int (nI a)), (2, .int x2), (3, .int x3)]), W p l e ({ frames := 1, cells := 0, slots := 0, locals := 21 }) s m args below meth c s.heap [] 0 0 Q (F0 m 4 ls []) := by
    intro fu_4
    induction fu_4 with
    | zero => intro k x2 x3 hk e2 hh hfu; exact absurd hfu (Nat.not_lt_zero _)
    | succ fu_4 ih_4 =>
      intro k x2 x3 hk e2 hh hfu_4 ls hl
      refine lv_iload_n hx hb dX6_dependenciesOf_4 rfl (lv_at hl 3 rfl) ?_
      refine lv_iload_n hx hb dX6_dependenciesOf_5 rfl (lv_at hl 2 rfl) ?_
      refine lv_icmp_eq (tgt := 71) hx hb dX6_dependenciesOf_6 (by decide) (fun c_2 => ?_) (fun c_2 => ?_)
      · skip
        have hfin : x2 = depS hs bs n a := dg_fin hH hB ha e2 hh c_2
        refine lv_iload_n hx hb dX6_dependenciesOf_71 rfl (lv_at hl 2 rfl) ?_
        exact hret _ _ _ hfin dX6_dependenciesOf_72
      · skip
        have hk1 : k + 1 ≤ 17 := dg_more hB e2 hh c_2
        refine lv_iload_n hx hb dX6_dependenciesOf_9 rfl (lv_at hl 2 rfl) ?_
        refine lv_istore_n (lv' := [(3, .int x2), (0, .ref mo), (1, .int (nI a)), (2, .int x2)]) hx hb dX6_dependenciesOf_10 rfl hl (by decide) rfl (fun ls hl => ?_)
        refine lv_iconst (v := nI 0) hx hb dX6_dependenciesOf_11 (by decide) ?_
        refine lv_istore (lv' := [(4, .int (nI 0)), (3, .int x2), (0, .ref mo), (1, .int (nI a)), (2, .int x2)]) hx hb dX6_dependenciesOf_12 hl (by decide) rfl (fun ls hl => ?_)
        have lp_14_3 : ∀ (fu_14 : Nat) (r : Nat) (x5 : Int32) (hr : r ≤ n) (e5 : x5 = dgF hs bs a x2 r) (hfu_14 : n - r < fu_14) (ls : Array Slot) (hl : lv_has ls 5 [(0, .ref mo), (1, .int (nI a)), (2, .int x5), (3, .int x2), (4, .int (nI r))]), W p l e ({ frames := 1, cells := 0, slots := 0, locals := 21 }) s m args below meth c s.heap [] 0 0 Q (F0 m 14 ls []) := by
          intro fu_14
          induction fu_14 with
          | zero => intro r x5 hr e5 hfu; exact absurd hfu (Nat.not_lt_zero _)
          | succ fu_14 ih_14 =>
            intro r x5 hr e5 hfu_14 ls hl
            refine lv_iload hx hb dX6_dependenciesOf_14 (lv_at hl 4 rfl) ?_
            refine lv_aload_n hx hb dX6_dependenciesOf_16 rfl (lv_at hl 0 rfl) ?_
            refine va_get (D := D) (ci := 6) (v := .ref qA) (C := RX6) (T := TX6) (N := 15) hx hb hts ilX6_dependenciesOf_6 hown hG.1 hP 0 rfl rfl 0 (by decide) (hts (.fieldLink RX6 7 "HornEngineModel" "all" "[I") (List.mem_of_getElem? (i := 1) rfl)) (fun _ h9 => h9) rfl dX6_dependenciesOf_17 ?_
            refine lv_iconst (v := nI 0) hx hb dX6_dependenciesOf_20 (by decide) ?_
            refine ia_ld hx hb hG hP 1 rfl 0 rfl (by omega) (by decide) dX6_dependenciesOf_21 ?_
            refine lv_eqi (y := nI n) hM.1 ?_
            refine lv_icmp_ge (tgt := 68) hx hb dX6_dependenciesOf_22 (by decide) (fun c_4 => ?_) (fun c_4 => ?_)
            · skip
              have c_4 : n ≤ r := (nI_leI (by omega) (by omega)).mp (show nI n ≤ nI r from c_4)
              refine lv_goto (tgt := 4) hx hb dX6_dependenciesOf_68 (by decide) ?_
              exact ih_4 (k + 1) x5 x2 hk1 (by rw [e5, show r = n from by omega, e2]; rfl) (Or.inr ⟨k, rfl, e2⟩) (by omega) ls (lv_sub hl [0, 1, 2, 3] rfl)
            · skip
              have c_4 : ¬ (n ≤ r) := fun h9 => (show ¬ (nI n ≤ nI r) from c_4) ((nI_leI (by omega) (by omega)).mpr h9)
              refine lv_iload_n hx hb dX6_dependenciesOf_25 rfl (lv_at hl 2 rfl) ?_
              refine lv_aload_n hx hb dX6_dependenciesOf_26 rfl (lv_at hl 0 rfl) ?_
              refine lv_iload hx hb dX6_dependenciesOf_27 (lv_at hl 4 rfl) ?_
              refine pu_V (As := [.int (nI r)]) (rest := [.int x5]) ⟨hx, hb, hml, hown, hts⟩ hG hP (k_X6_headOf l D cI cB mo qA qS sm qE qT tl qQ qd qF fm qC ap pl qH qB av hs bs n as_ r hM hn (by omega)) (cwV 1 hts gX6_dependenciesOf_X6_headOf rfl rfl rfl (by decide +kernel) ⟨(Nat.le_of_ble_eq_true rfl), (Nat.le_of_ble_eq_true rfl)⟩) [0, 1] rfl 0 rfl rfl rfl rfl hl.1 rfl (Nat.le_of_ble_eq_true rfl) dX6_dependenciesOf_29 ⟨Nat.zero_le _, Nat.zero_le _⟩ ?_
              refine lv_iload_n hx hb dX6_dependenciesOf_32 rfl (lv_at hl 1 rfl) ?_
              refine lv_icmp_eq (tgt := 50) hx hb dX6_dependenciesOf_33 (by decide) (fun c_5 => ?_) (fun c_5 => ?_)
              · skip
                have hstep : x5 ||| bs r = if hs r = nI a ∨ has (dgF hs bs a x2 r) (hs r) = true then dgF hs bs a x2 r ||| bs r else dgF hs bs a x2 r := by rw [if_pos (Or.inl c_5), e5]
                refine lv_aload_n hx hb dX6_dependenciesOf_50 rfl (lv_at hl 0 rfl) ?_
                refine lv_iload hx hb dX6_dependenciesOf_51 (lv_at hl 4 rfl) ?_
                refine pu_V (As := [.int (nI r)]) (rest := [.int x5]) ⟨hx, hb, hml, hown, hts⟩ hG hP (k_X6_bodyOf l D cI cB mo qA qS sm qE qT tl qQ qd qF fm qC ap pl qH qB av hs bs n as_ r hM hn (by omega)) (cwV 1 hts gX6_dependenciesOf_X6_bodyOf rfl rfl rfl (by decide +kernel) ⟨(Nat.le_of_ble_eq_true rfl), (Nat.le_of_ble_eq_true rfl)⟩) [0, 1] rfl 0 rfl rfl rfl rfl hl.1 rfl (Nat.le_of_ble_eq_true rfl) dX6_dependenciesOf_53 ⟨Nat.zero_le _, Nat.zero_le _⟩ ?_
                refine lv_goto (tgt := 60) hx hb dX6_dependenciesOf_56 (by decide) ?_
                refine lv_ior hx hb dX6_dependenciesOf_60 ?_
                refine lv_istore_n (lv' := [(2, .int (x5 ||| (bs r))), (0, .ref mo), (1, .int (nI a)), (3, .int x2), (4, .int (nI r))]) hx hb dX6_dependenciesOf_61 rfl hl (by decide) rfl (fun ls hl => ?_)
                refine lv_iinc (v := nI (r + 1)) (lv' := [(4, .int (nI (r + 1))), (2, .int (x5 ||| (bs r))), (0, .ref mo), (1, .int (nI a)), (3, .int x2)]) hx hb dX6_dependenciesOf_62 hl (k := 4) rfl (nI_s1 r) (by decide) rfl (fun ls hl => ?_)
                refine lv_goto (tgt := 14) hx hb dX6_dependenciesOf_65 (by decide) ?_
                exact ih_14 (r + 1) (x5 ||| (bs r)) (by omega) (by subst e5; rw [dgF]; exact hstep) (by omega) ls (lv_sub hl [2, 3, 1, 4, 0] rfl)
              · skip
                have h1 := c_5
                refine lv_iload_n hx hb dX6_dependenciesOf_36 rfl (lv_at hl 2 rfl) ?_
                refine lv_aload_n hx hb dX6_dependenciesOf_37 rfl (lv_at hl 0 rfl) ?_
                refine lv_iload hx hb dX6_dependenciesOf_38 (lv_at hl 4 rfl) ?_
                refine pu_V (As := [.int (nI r)]) (rest := [.int x5, .int x5]) ⟨hx, hb, hml, hown, hts⟩ hG hP (k_X6_headOf l D cI cB mo qA qS sm qE qT tl qQ qd qF fm qC ap pl qH qB av hs bs n as_ r hM hn (by omega)) (cwV 1 hts gX6_dependenciesOf_X6_headOf rfl rfl rfl (by decide +kernel) ⟨(Nat.le_of_ble_eq_true rfl), (Nat.le_of_ble_eq_true rfl)⟩) [0, 1] rfl 0 rfl rfl rfl rfl hl.1 rfl (Nat.le_of_ble_eq_true rfl) dX6_dependenciesOf_40 ⟨Nat.zero_le _, Nat.zero_le _⟩ ?_
                refine lv_ishr hx hb dX6_dependenciesOf_43 ?_
                refine lv_iconst (v := nI 1) hx hb dX6_dependenciesOf_44 (by decide) ?_
                refine lv_iand hx hb dX6_dependenciesOf_45 ?_
                refine lv_iconst (v := nI 1) hx hb dX6_dependenciesOf_46 (by decide) ?_
                refine lv_icmp_ne (tgt := 59) hx hb dX6_dependenciesOf_47 (by decide) (fun c_6 => ?_) (fun c_6 => ?_)
                · skip
                  have hstep : x5 = if hs r = nI a ∨ has (dgF hs bs a x2 r) (hs r) = true then dgF hs bs a x2 r ||| bs r else dgF hs bs a x2 r := by rw [if_neg (fun q => q.elim h1 (fun q2 => c_6 (hd_shr hH (by omega) (by rw [e5]; exact q2)))), e5]
                  refine lv_iconst (v := nI 0) hx hb dX6_dependenciesOf_59 (by decide) ?_
                  refine lv_ior hx hb dX6_dependenciesOf_60 ?_
                  refine lv_eqi (y := x5) (or_0 x5) ?_
                  refine lv_istore_n (lv' := [(2, .int x5), (0, .ref mo), (1, .int (nI a)), (3, .int x2), (4, .int (nI r))]) hx hb dX6_dependenciesOf_61 rfl hl (by decide) rfl (fun ls hl => ?_)
                  refine lv_iinc (v := nI (r + 1)) (lv' := [(4, .int (nI (r + 1))), (2, .int x5), (0, .ref mo), (1, .int (nI a)), (3, .int x2)]) hx hb dX6_dependenciesOf_62 hl (k := 4) rfl (nI_s1 r) (by decide) rfl (fun ls hl => ?_)
                  refine lv_goto (tgt := 14) hx hb dX6_dependenciesOf_65 (by decide) ?_
                  exact ih_14 (r + 1) x5 (by omega) (by subst e5; rw [dgF]; exact hstep) (by omega) ls (lv_sub hl [2, 3, 1, 4, 0] rfl)
                · skip
                  have hstep : x5 ||| bs r = if hs r = nI a ∨ has (dgF hs bs a x2 r) (hs r) = true then dgF hs bs a x2 r ||| bs r else dgF hs bs a x2 r := by rw [if_pos (Or.inr (by rw [← e5]; exact hd_shr2 hH (by omega) c_6)), e5]
                  refine lv_aload_n hx hb dX6_dependenciesOf_50 rfl (lv_at hl 0 rfl) ?_
                  refine lv_iload hx hb dX6_dependenciesOf_51 (lv_at hl 4 rfl) ?_
                  refine pu_V (As := [.int (nI r)]) (rest := [.int x5]) ⟨hx, hb, hml, hown, hts⟩ hG hP (k_X6_bodyOf l D cI cB mo qA qS sm qE qT tl qQ qd qF fm qC ap pl qH qB av hs bs n as_ r hM hn (by omega)) (cwV 1 hts gX6_dependenciesOf_X6_bodyOf rfl rfl rfl (by decide +kernel) ⟨(Nat.le_of_ble_eq_true rfl), (Nat.le_of_ble_eq_true rfl)⟩) [0, 1] rfl 0 rfl rfl rfl rfl hl.1 rfl (Nat.le_of_ble_eq_true rfl) dX6_dependenciesOf_53 ⟨Nat.zero_le _, Nat.zero_le _⟩ ?_
                  refine lv_goto (tgt := 60) hx hb dX6_dependenciesOf_56 (by decide) ?_
                  refine lv_ior hx hb dX6_dependenciesOf_60 ?_
                  refine lv_istore_n (lv' := [(2, .int (x5 ||| (bs r))), (0, .ref mo), (1, .int (nI a)), (3, .int x2), (4, .int (nI r))]) hx hb dX6_dependenciesOf_61 rfl hl (by decide) rfl (fun ls hl => ?_)
                  refine lv_iinc (v := nI (r + 1)) (lv' := [(4, .int (nI (r + 1))), (2, .int (x5 ||| (bs r))), (0, .ref mo), (1, .int (nI a)), (3, .int x2)]) hx hb dX6_dependenciesOf_62 hl (k := 4) rfl (nI_s1 r) (by decide) rfl (fun ls hl => ?_)
                  refine lv_goto (tgt := 14) hx hb dX6_dependenciesOf_65 (by decide) ?_
                  exact ih_14 (r + 1) (x5 ||| (bs r)) (by omega) (by subst e5; rw [dgF]; exact hstep) (by omega) ls (lv_sub hl [2, 3, 1, 4, 0] rfl)
        exact lp_14_3 (n - 0 + 1) 0 x2 (by omega) rfl (Nat.lt_succ_self _) ls (lv_sub hl [2, 3, 4, 1, 0] rfl)
  exact lp_4_1 (17 - 0 + 1) 0 (nI 0) (-1) (by omega) rfl (Or.inl ⟨rfl, rfl⟩) (Nat.lt_succ_self _) ls (lv_sub hl [2, 3, 1, 0] rfl)
set_option maxHeartbeats 4000000 in
set_option maxRecDepth 100000 in
theorem k_X6_cyclicAtoms (l : Launch) (D : va_G) (cI cB : ClassId) (mo : Nat) (qA : Nat) (qS : Nat) (sm : Nat) (qE : Nat) (qT : Nat) (tl : Nat) (qQ : Nat) (qd : Nat) (qF : Nat) (fm : Nat) (qC : Nat) (ap : Nat) (pl : Nat) (qH : Nat) (qB : Nat) (av : Nat → Int32) (hs : Nat → Int32) (bs : Nat → Int32) (n : Nat) (as_ : Int32) (hM : mA av hs bs n as_) (hn : n ≤ 24) (hH : hOK hs n) (hB : bOK bs n) : Rd l yX6_cyclicAtoms wsX6_cyclicAtoms ({ frames := 2, cells := 0, slots := 0, locals := 45 }) D cI cB [.ref mo] [(mo, .inr (6, [.ref qA, .ref qS, .int (nI sm), .ref qE, .ref qT, .int (nI tl), .ref qQ, .int (nI qd), .ref qF, .int (nI fm), .ref qC, .int (nI ap), .int (nI pl), .ref qH, .ref qB])), (qA, .inl (cI, 50, .inl av))] (.int (cycF hs bs n 16)) := by
  refine pu_startI (cc := cX6_cyclicAtoms) (maxL := 3) (by decide) rfl (Nat.le_of_ble_eq_true rfl) ?_
  intro p e s m args below meth c Q hx hb hml hown hts hP hG hret ls hl
  have hown : s.vm.findClass RX6 = some m.cls := hown
  have hl : lv_has ls 3 [(0, .ref mo)] := hl
  refine lv_iconst (v := nI 0) hx hb dX6_cyclicAtoms_0 (by decide) ?_
  refine lv_istore_n (lv' := [(1, .int (nI 0)), (0, .ref mo)]) hx hb dX6_cyclicAtoms_1 rfl hl (by decide) rfl (fun ls hl => ?_)
  refine lv_iconst (v := nI 0) hx hb dX6_cyclicAtoms_2 (by decide) ?_
  refine lv_istore_n (lv' := [(2, .int (nI 0)), (1, .int (nI 0)), (0, .ref mo)]) hx hb dX6_cyclicAtoms_3 rfl hl (by decide) rfl (fun ls hl => ?_)
  have lp_4_1 : ∀ (fu_4 : Nat) (k : Nat) (x1 : Int32) (hk : k ≤ 16) (e1 : x1 = cycF hs bs n k) (hfu_4 : 16 - k < fu_4) (ls : Array Slot) (hl : lv_has ls 3 [(0, .ref mo), (1, .int x1), (2, .int (nI k))]), W p l e ({ frames := 2, cells := 0, slots := 0, locals := 45 }) s m args below meth c s.heap [] 0 0 Q (F0 m 4 ls []) := by
    intro fu_4
    induction fu_4 with
    | zero => intro k x1 hk e1 hfu; exact absurd hfu (Nat.not_lt_zero _)
    | succ fu_4 ih_4 =>
      intro k x1 hk e1 hfu_4 ls hl
      refine lv_iload_n hx hb dX6_cyclicAtoms_4 rfl (lv_at hl 2 rfl) ?_
      refine lv_bipush (v := nI 16) hx hb dX6_cyclicAtoms_5 (by decide) ?_
      refine lv_icmp_ge (tgt := 28) hx hb dX6_cyclicAtoms_7 (by decide) (fun c_2 => ?_) (fun c_2 => ?_)
      · skip
        have c_2 : 16 ≤ k := (nI_leI (by omega) (by omega)).mp (show nI 16 ≤ nI k from c_2)
        refine lv_iload_n hx hb dX6_cyclicAtoms_28 rfl (lv_at hl 1 rfl) ?_
        exact hret _ _ _ (by rw [e1, show k = 16 from by omega]) dX6_cyclicAtoms_29
      · skip
        have c_2 : ¬ (16 ≤ k) := fun h9 => (show ¬ (nI 16 ≤ nI k) from c_2) ((nI_leI (by omega) (by omega)).mpr h9)
        refine lv_iload_n hx hb dX6_cyclicAtoms_10 rfl (lv_at hl 1 rfl) ?_
        refine lv_aload_n hx hb dX6_cyclicAtoms_11 rfl (lv_at hl 0 rfl) ?_
        refine lv_iload_n hx hb dX6_cyclicAtoms_12 rfl (lv_at hl 2 rfl) ?_
        refine pu_V (As := [.int (nI k)]) (rest := [.int x1]) ⟨hx, hb, hml, hown, hts⟩ hG hP (k_X6_dependenciesOf l D cI cB mo qA qS sm qE qT tl qQ qd qF fm qC ap pl qH qB av hs bs n as_ k hM hn hH hB (by omega)) (cwV 1 hts gX6_cyclicAtoms_X6_dependenciesOf rfl rfl rfl (by decide +kernel) ⟨(Nat.le_of_ble_eq_true rfl), (Nat.le_of_ble_eq_true rfl)⟩) [0, 1] rfl 0 rfl rfl rfl rfl hl.1 rfl (Nat.le_of_ble_eq_true rfl) dX6_cyclicAtoms_13 ⟨Nat.zero_le _, Nat.zero_le _⟩ ?_
        refine lv_iconst (v := nI 1) hx hb dX6_cyclicAtoms_16 (by decide) ?_
        refine lv_iload_n hx hb dX6_cyclicAtoms_17 rfl (lv_at hl 2 rfl) ?_
        refine lv_ishl hx hb dX6_cyclicAtoms_18 ?_
        refine lv_iand hx hb dX6_cyclicAtoms_19 ?_
        refine lv_ior hx hb dX6_cyclicAtoms_20 ?_
        refine lv_istore_n (lv' := [(1, .int (x1 ||| ((depS hs bs n k) &&& ((nI 1) <<< ((nI k) &&& 31))))), (0, .ref mo), (2, .int (nI k))]) hx hb dX6_cyclicAtoms_21 rfl hl (by decide) rfl (fun ls hl => ?_)
        refine lv_iinc (v := nI (k + 1)) (lv' := [(2, .int (nI (k + 1))), (1, .int (x1 ||| ((depS hs bs n k) &&& ((nI 1) <<< ((nI k) &&& 31))))), (0, .ref mo)]) hx hb dX6_cyclicAtoms_22 hl (k := 2) rfl (nI_s1 k) (by decide) rfl (fun ls hl => ?_)
        refine lv_goto (tgt := 4) hx hb dX6_cyclicAtoms_25 (by decide) ?_
        exact ih_4 (k + 1) (x1 ||| ((depS hs bs n k) &&& ((nI 1) <<< ((nI k) &&& 31)))) (by omega) (by subst e1; rfl) (by omega) ls (lv_sub hl [2, 1, 0] rfl)
  exact lp_4_1 (16 - 0 + 1) 0 (nI 0) (by omega) rfl (Nat.lt_succ_self _) ls (lv_sub hl [2, 1, 0] rfl)
set_option maxHeartbeats 4000000 in
set_option maxRecDepth 100000 in
theorem k_X6_overDeletedOf (l : Launch) (D : va_G) (cI cB : ClassId) (mo : Nat) (qA : Nat) (qS : Nat) (sm : Nat) (qE : Nat) (qT : Nat) (tl : Nat) (qQ : Nat) (qd : Nat) (qF : Nat) (fm : Nat) (qC : Nat) (ap : Nat) (pl : Nat) (qH : Nat) (qB : Nat) (av : Nat → Int32) (hs : Nat → Int32) (bs : Nat → Int32) (n : Nat) (as_ : Int32) (d : Nat) (hM : mA av hs bs n as_) (hn : n ≤ 24) (hH : hOK hs n) (hd : d < n) : Rd l yX6_overDeletedOf wsX6_overDeletedOf ({ frames := 3, cells := 0, slots := 0, locals := 66 }) D cI cB [.ref mo, .int (nI d)] [(mo, .inr (6, [.ref qA, .ref qS, .int (nI sm), .ref qE, .ref qT, .int (nI tl), .ref qQ, .int (nI qd), .ref qF, .int (nI fm), .ref qC, .int (nI ap), .int (nI pl), .ref qH, .ref qB])), (qA, .inl (cI, 50, .inl av))] (.int (ovd hs bs n d)) := by
  refine pu_startI (cc := cX6_overDeletedOf) (maxL := 6) (by decide) rfl (Nat.le_of_ble_eq_true rfl) ?_
  intro p e s m args below meth c Q hx hb hml hown hts hP hG hret ls hl
  have hown : s.vm.findClass RX6 = some m.cls := hown
  have hl : lv_has ls 6 [(0, .ref mo), (1, .int (nI d))] := hl
  refine lv_aload_n hx hb dX6_overDeletedOf_0 rfl (lv_at hl 0 rfl) ?_
  refine pu_V (As := []) (rest := []) ⟨hx, hb, hml, hown, hts⟩ hG hP (k_X6_whole l D cI cB mo qA qS sm qE qT tl qQ qd qF fm qC ap pl qH qB av hs bs n as_ hM hn hH) (cwV 0 hts gX6_overDeletedOf_X6_whole rfl rfl rfl (by decide +kernel) ⟨(Nat.le_of_ble_eq_true rfl), (Nat.le_of_ble_eq_true rfl)⟩) [0, 1] rfl 0 rfl rfl rfl rfl hl.1 rfl (Nat.le_of_ble_eq_true rfl) dX6_overDeletedOf_1 ⟨Nat.zero_le _, Nat.zero_le _⟩ ?_
  refine lv_istore_n (lv' := [(2, .int (mdl hs bs n)), (0, .ref mo), (1, .int (nI d))]) hx hb dX6_overDeletedOf_4 rfl hl (by decide) rfl (fun ls hl => ?_)
  refine lv_aload_n hx hb dX6_overDeletedOf_5 rfl (lv_at hl 1 rfl) ?_
  refine lv_iload_n hx hb dX6_overDeletedOf_6 rfl (lv_at hl 2 rfl) ?_
  refine pu_V (As := [.int (nI d)]) (rest := []) ⟨hx, hb, hml, hown, hts⟩ hG hP (k_X6_bodyOf l D cI cB mo qA qS sm qE qT tl qQ qd qF fm qC ap pl qH qB av hs bs n as_ d hM hn hd) (cwV 1 hts gX6_overDeletedOf_X6_bodyOf rfl rfl rfl (by decide +kernel) ⟨(Nat.le_of_ble_eq_true rfl), (Nat.le_of_ble_eq_true rfl)⟩) [0, 1] rfl 0 rfl rfl rfl rfl hl.1 rfl (Nat.le_of_ble_eq_true rfl) dX6_overDeletedOf_7 ⟨Nat.zero_le _, Nat.zero_le _⟩ ?_
  refine lv_iload_n hx hb dX6_overDeletedOf_10 rfl (lv_at hl 0 rfl) ?_
  refine lv_iconst (v := (-1)) hx hb dX6_overDeletedOf_11 (by decide) ?_
  refine lv_ixor hx hb dX6_overDeletedOf_12 ?_
  refine lv_iand hx hb dX6_overDeletedOf_13 ?_
  refine lv_if_ne (tgt := 27) hx hb dX6_overDeletedOf_14 (by decide) (fun c_1 => ?_) (fun c_1 => ?_)
  · skip
    have h0 : nI 0 = pw (fun x => ovdF hs bs (mdl hs bs n) d x n) 0 (ov0 hs bs (mdl hs bs n) d) := by show nI 0 = ov0 _ _ _ _; rw [ov0, if_neg (by rw [show sbs (bs d) (mdl hs bs n) = false from decide_eq_false c_1]; decide)]
    refine lv_iconst (v := nI 0) hx hb dX6_overDeletedOf_27 (by decide) ?_
    refine lv_istore_n (lv' := [(3, .int (nI 0)), (2, .int (mdl hs bs n)), (0, .ref mo), (1, .int (nI d))]) hx hb dX6_overDeletedOf_28 rfl hl (by decide) rfl (fun ls hl => ?_)
    refine lv_iconst (v := (-1)) hx hb dX6_overDeletedOf_29 (by decide) ?_
    refine lv_istore (lv' := [(4, .int (-1)), (3, .int (nI 0)), (2, .int (mdl hs bs n)), (0, .ref mo), (1, .int (nI d))]) hx hb dX6_overDeletedOf_30 hl (by decide) rfl (fun ls hl => ?_)
    have lp_32_2 : ∀ (fu_32 : Nat) (k : Nat) (x3 : Int32) (x4 : Int32) (hk : k ≤ 17) (e3 : x3 = pw (fun x => ovdF hs bs (mdl hs bs n) d x n) k (ov0 hs bs (mdl hs bs n) d)) (hh : (k = 0 ∧ x4 = -1) ∨ ∃ j, k = j + 1 ∧ x4 = pw (fun x => ovdF hs bs (mdl hs bs n) d x n) j (ov0 hs bs (mdl hs bs n) d)) (hfu_32 : 17 - k < fu_32) (ls : Array Slot) (hl : lv_has ls 6 [(0, .ref mo), (1, .int (nI d)), (2, .int (mdl hs bs n)), (3, .int x3), (4, .int x4)]), W p l e ({ frames := 3, cells := 0, slots := 0, locals := 66 }) s m args below meth c s.heap [] 0 0 Q (F0 m 32 ls []) := by
      intro fu_32
      induction fu_32 with
      | zero => intro k x3 x4 hk e3 hh hfu; exact absurd hfu (Nat.not_lt_zero _)
      | succ fu_32 ih_32 =>
        intro k x3 x4 hk e3 hh hfu_32 ls hl
        refine lv_iload hx hb dX6_overDeletedOf_32 (lv_at hl 4 rfl) ?_
        refine lv_iload_n hx hb dX6_overDeletedOf_34 rfl (lv_at hl 3 rfl) ?_
        refine lv_icmp_eq (tgt := 109) hx hb dX6_overDeletedOf_35 (by decide) (fun c_3 => ?_) (fun c_3 => ?_)
        · skip
          have hfin : x3 = ovd hs bs n d := ov_fin hH hd e3 hh c_3
          refine lv_iload_n hx hb dX6_overDeletedOf_109 rfl (lv_at hl 3 rfl) ?_
          exact hret _ _ _ hfin dX6_overDeletedOf_110
        · skip
          have hk1 : k + 1 ≤ 17 := ov_more hH hd e3 hh c_3
          refine lv_iload_n hx hb dX6_overDeletedOf_38 rfl (lv_at hl 3 rfl) ?_
          refine lv_istore (lv' := [(4, .int x3), (0, .ref mo), (1, .int (nI d)), (2, .int (mdl hs bs n)), (3, .int x3)]) hx hb dX6_overDeletedOf_39 hl (by decide) rfl (fun ls hl => ?_)
          refine lv_iconst (v := nI 0) hx hb dX6_overDeletedOf_41 (by decide) ?_
          refine lv_istore (lv' := [(5, .int (nI 0)), (4, .int x3), (0, .ref mo), (1, .int (nI d)), (2, .int (mdl hs bs n)), (3, .int x3)]) hx hb dX6_overDeletedOf_42 hl (by decide) rfl (fun ls hl => ?_)
          have lp_44_4 : ∀ (fu_44 : Nat) (r : Nat) (x5 : Int32) (hr : r ≤ n) (e5 : x5 = ovdF hs bs (mdl hs bs n) d x3 r) (hfu_44 : n - r < fu_44) (ls : Array Slot) (hl : lv_has ls 6 [(0, .ref mo), (1, .int (nI d)), (2, .int (mdl hs bs n)), (3, .int x5), (4, .int x3), (5, .int (nI r))]), W p l e ({ frames := 3, cells := 0, slots := 0, locals := 66 }) s m args below meth c s.heap [] 0 0 Q (F0 m 44 ls []) := by
            intro fu_44
            induction fu_44 with
            | zero => intro r x5 hr e5 hfu; exact absurd hfu (Nat.not_lt_zero _)
            | succ fu_44 ih_44 =>
              intro r x5 hr e5 hfu_44 ls hl
              refine lv_iload hx hb dX6_overDeletedOf_44 (lv_at hl 5 rfl) ?_
              refine lv_aload_n hx hb dX6_overDeletedOf_46 rfl (lv_at hl 0 rfl) ?_
              refine va_get (D := D) (ci := 6) (v := .ref qA) (C := RX6) (T := TX6) (N := 15) hx hb hts ilX6_overDeletedOf_6 hown hG.1 hP 0 rfl rfl 0 (by decide) (hts (.fieldLink RX6 7 "HornEngineModel" "all" "[I") (List.mem_of_getElem? (i := 1) rfl)) (fun _ h9 => h9) rfl dX6_overDeletedOf_47 ?_
              refine lv_iconst (v := nI 0) hx hb dX6_overDeletedOf_50 (by decide) ?_
              refine ia_ld hx hb hG hP 1 rfl 0 rfl (by omega) (by decide) dX6_overDeletedOf_51 ?_
              refine lv_eqi (y := nI n) hM.1 ?_
              refine lv_icmp_ge (tgt := 106) hx hb dX6_overDeletedOf_52 (by decide) (fun c_5 => ?_) (fun c_5 => ?_)
              · skip
                have c_5 : n ≤ r := (nI_leI (by omega) (by omega)).mp (show nI n ≤ nI r from c_5)
                refine lv_goto (tgt := 32) hx hb dX6_overDeletedOf_106 (by decide) ?_
                exact ih_32 (k + 1) x5 x3 hk1 (by rw [e5, show r = n from by omega, e3]; rfl) (Or.inr ⟨k, rfl, e3⟩) (by omega) ls (lv_sub hl [0, 1, 2, 3, 4] rfl)
              · skip
                have c_5 : ¬ (n ≤ r) := fun h9 => (show ¬ (nI n ≤ nI r) from c_5) ((nI_leI (by omega) (by omega)).mpr h9)
                refine lv_iload_n hx hb dX6_overDeletedOf_55 rfl (lv_at hl 3 rfl) ?_
                refine lv_iload hx hb dX6_overDeletedOf_56 (lv_at hl 5 rfl) ?_
                refine lv_iload_n hx hb dX6_overDeletedOf_58 rfl (lv_at hl 1 rfl) ?_
                refine lv_icmp_eq (tgt := 97) hx hb dX6_overDeletedOf_59 (by decide) (fun c_6 => ?_) (fun c_6 => ?_)
                · skip
                  have c_6 : r = d := (nI_eq (by omega) (by omega)).mp (show nI r = nI d from c_6)
                  have hq := c_6
                  refine lv_iconst (v := nI 0) hx hb dX6_overDeletedOf_97 (by decide) ?_
                  refine lv_ior hx hb dX6_overDeletedOf_98 ?_
                  refine lv_eqi (y := x5) (or_0 x5) ?_
                  refine lv_istore_n (lv' := [(3, .int x5), (0, .ref mo), (1, .int (nI d)), (2, .int (mdl hs bs n)), (4, .int x3), (5, .int (nI r))]) hx hb dX6_overDeletedOf_99 rfl hl (by decide) rfl (fun ls hl => ?_)
                  refine lv_iinc (v := nI (r + 1)) (lv' := [(5, .int (nI (r + 1))), (3, .int x5), (0, .ref mo), (1, .int (nI d)), (2, .int (mdl hs bs n)), (4, .int x3)]) hx hb dX6_overDeletedOf_100 hl (k := 5) rfl (nI_s1 r) (by decide) rfl (fun ls hl => ?_)
                  refine lv_goto (tgt := 44) hx hb dX6_overDeletedOf_103 (by decide) ?_
                  exact ih_44 (r + 1) x5 (by omega) (by subst e5; simp only [ovdF, decide_true, decide_false, reduceIte, Bool.false_eq_true, not_true_eq_false, not_false_eq_true, and_self, and_true, true_and, and_false, false_and, hq]) (by omega) ls (lv_sub hl [2, 3, 4, 1, 5, 0] rfl)
                · skip
                  have c_6 : ¬ (r = d) := fun h9 => (show ¬ (nI r = nI d) from c_6) ((nI_eq (by omega) (by omega)).mpr h9)
                  have hq := c_6
                  refine lv_aload_n hx hb dX6_overDeletedOf_62 rfl (lv_at hl 0 rfl) ?_
                  refine lv_iload hx hb dX6_overDeletedOf_63 (lv_at hl 5 rfl) ?_
                  refine pu_V (As := [.int (nI r)]) (rest := [.int x5]) ⟨hx, hb, hml, hown, hts⟩ hG hP (k_X6_bodyOf l D cI cB mo qA qS sm qE qT tl qQ qd qF fm qC ap pl qH qB av hs bs n as_ r hM hn (by omega)) (cwV 1 hts gX6_overDeletedOf_X6_bodyOf rfl rfl rfl (by decide +kernel) ⟨(Nat.le_of_ble_eq_true rfl), (Nat.le_of_ble_eq_true rfl)⟩) [0, 1] rfl 0 rfl rfl rfl rfl hl.1 rfl (Nat.le_of_ble_eq_true rfl) dX6_overDeletedOf_65 ⟨Nat.zero_le _, Nat.zero_le _⟩ ?_
                  refine lv_iload_n hx hb dX6_overDeletedOf_68 rfl (lv_at hl 2 rfl) ?_
                  refine lv_iconst (v := (-1)) hx hb dX6_overDeletedOf_69 (by decide) ?_
                  refine lv_ixor hx hb dX6_overDeletedOf_70 ?_
                  refine lv_iand hx hb dX6_overDeletedOf_71 ?_
                  refine lv_if_ne (tgt := 97) hx hb dX6_overDeletedOf_72 (by decide) (fun c_7 => ?_) (fun c_7 => ?_)
                  · skip
                    have h2 : sbs (bs r) (mdl hs bs n) = false := decide_eq_false c_7
                    refine lv_iconst (v := nI 0) hx hb dX6_overDeletedOf_97 (by decide) ?_
                    refine lv_ior hx hb dX6_overDeletedOf_98 ?_
                    refine lv_eqi (y := x5) (or_0 x5) ?_
                    refine lv_istore_n (lv' := [(3, .int x5), (0, .ref mo), (1, .int (nI d)), (2, .int (mdl hs bs n)), (4, .int x3), (5, .int (nI r))]) hx hb dX6_overDeletedOf_99 rfl hl (by decide) rfl (fun ls hl => ?_)
                    refine lv_iinc (v := nI (r + 1)) (lv' := [(5, .int (nI (r + 1))), (3, .int x5), (0, .ref mo), (1, .int (nI d)), (2, .int (mdl hs bs n)), (4, .int x3)]) hx hb dX6_overDeletedOf_100 hl (k := 5) rfl (nI_s1 r) (by decide) rfl (fun ls hl => ?_)
                    refine lv_goto (tgt := 44) hx hb dX6_overDeletedOf_103 (by decide) ?_
                    exact ih_44 (r + 1) x5 (by omega) (by subst e5; simp only [ovdF, decide_true, decide_false, reduceIte, Bool.false_eq_true, not_true_eq_false, not_false_eq_true, and_self, and_true, true_and, and_false, false_and, hq, h2]) (by omega) ls (lv_sub hl [2, 3, 4, 1, 5, 0] rfl)
                  · skip
                    have h2 : sbs (bs r) (mdl hs bs n) = true := decide_eq_true c_7
                    refine lv_aload_n hx hb dX6_overDeletedOf_75 rfl (lv_at hl 0 rfl) ?_
                    refine lv_iload hx hb dX6_overDeletedOf_76 (lv_at hl 5 rfl) ?_
                    refine pu_V (As := [.int (nI r)]) (rest := [.int x5]) ⟨hx, hb, hml, hown, hts⟩ hG hP (k_X6_bodyOf l D cI cB mo qA qS sm qE qT tl qQ qd qF fm qC ap pl qH qB av hs bs n as_ r hM hn (by omega)) (cwV 1 hts gX6_overDeletedOf_X6_bodyOf rfl rfl rfl (by decide +kernel) ⟨(Nat.le_of_ble_eq_true rfl), (Nat.le_of_ble_eq_true rfl)⟩) [0, 1] rfl 0 rfl rfl rfl rfl hl.1 rfl (Nat.le_of_ble_eq_true rfl) dX6_overDeletedOf_78 ⟨Nat.zero_le _, Nat.zero_le _⟩ ?_
                    refine lv_iload_n hx hb dX6_overDeletedOf_81 rfl (lv_at hl 3 rfl) ?_
                    refine lv_iand hx hb dX6_overDeletedOf_82 ?_
                    refine lv_if_eq (tgt := 97) hx hb dX6_overDeletedOf_83 (by decide) (fun c_8 => ?_) (fun c_8 => ?_)
                    · skip
                      have h3 := c_8
                      refine lv_iconst (v := nI 0) hx hb dX6_overDeletedOf_97 (by decide) ?_
                      refine lv_ior hx hb dX6_overDeletedOf_98 ?_
                      refine lv_eqi (y := x5) (or_0 x5) ?_
                      refine lv_istore_n (lv' := [(3, .int x5), (0, .ref mo), (1, .int (nI d)), (2, .int (mdl hs bs n)), (4, .int x3), (5, .int (nI r))]) hx hb dX6_overDeletedOf_99 rfl hl (by decide) rfl (fun ls hl => ?_)
                      refine lv_iinc (v := nI (r + 1)) (lv' := [(5, .int (nI (r + 1))), (3, .int x5), (0, .ref mo), (1, .int (nI d)), (2, .int (mdl hs bs n)), (4, .int x3)]) hx hb dX6_overDeletedOf_100 hl (k := 5) rfl (nI_s1 r) (by decide) rfl (fun ls hl => ?_)
                      refine lv_goto (tgt := 44) hx hb dX6_overDeletedOf_103 (by decide) ?_
                      exact ih_44 (r + 1) x5 (by omega) (by subst e5; simp only [ovdF, decide_true, decide_false, reduceIte, Bool.false_eq_true, not_true_eq_false, not_false_eq_true, and_self, and_true, true_and, and_false, false_and, hq, h2, h3]) (by omega) ls (lv_sub hl [2, 3, 4, 1, 5, 0] rfl)
                    · skip
                      have h3 := c_8
                      refine lv_iconst (v := nI 1) hx hb dX6_overDeletedOf_86 (by decide) ?_
                      refine lv_aload_n hx hb dX6_overDeletedOf_87 rfl (lv_at hl 0 rfl) ?_
                      refine lv_iload hx hb dX6_overDeletedOf_88 (lv_at hl 5 rfl) ?_
                      refine pu_V (As := [.int (nI r)]) (rest := [.int (nI 1), .int x5]) ⟨hx, hb, hml, hown, hts⟩ hG hP (k_X6_headOf l D cI cB mo qA qS sm qE qT tl qQ qd qF fm qC ap pl qH qB av hs bs n as_ r hM hn (by omega)) (cwV 1 hts gX6_overDeletedOf_X6_headOf rfl rfl rfl (by decide +kernel) ⟨(Nat.le_of_ble_eq_true rfl), (Nat.le_of_ble_eq_true rfl)⟩) [0, 1] rfl 0 rfl rfl rfl rfl hl.1 rfl (Nat.le_of_ble_eq_true rfl) dX6_overDeletedOf_90 ⟨Nat.zero_le _, Nat.zero_le _⟩ ?_
                      refine lv_ishl hx hb dX6_overDeletedOf_93 ?_
                      refine lv_goto (tgt := 98) hx hb dX6_overDeletedOf_94 (by decide) ?_
                      refine lv_ior hx hb dX6_overDeletedOf_98 ?_
                      refine lv_istore_n (lv' := [(3, .int (x5 ||| ((nI 1) <<< ((hs r) &&& 31)))), (0, .ref mo), (1, .int (nI d)), (2, .int (mdl hs bs n)), (4, .int x3), (5, .int (nI r))]) hx hb dX6_overDeletedOf_99 rfl hl (by decide) rfl (fun ls hl => ?_)
                      refine lv_iinc (v := nI (r + 1)) (lv' := [(5, .int (nI (r + 1))), (3, .int (x5 ||| ((nI 1) <<< ((hs r) &&& 31)))), (0, .ref mo), (1, .int (nI d)), (2, .int (mdl hs bs n)), (4, .int x3)]) hx hb dX6_overDeletedOf_100 hl (k := 5) rfl (nI_s1 r) (by decide) rfl (fun ls hl => ?_)
                      refine lv_goto (tgt := 44) hx hb dX6_overDeletedOf_103 (by decide) ?_
                      exact ih_44 (r + 1) (x5 ||| ((nI 1) <<< ((hs r) &&& 31))) (by omega) (by subst e5; simp only [ovdF, decide_true, decide_false, reduceIte, Bool.false_eq_true, not_true_eq_false, not_false_eq_true, and_self, and_true, true_and, and_false, false_and, hq, h2, h3]) (by omega) ls (lv_sub hl [2, 3, 4, 1, 5, 0] rfl)
          exact lp_44_4 (n - 0 + 1) 0 x3 (by omega) rfl (Nat.lt_succ_self _) ls (lv_sub hl [2, 3, 4, 5, 1, 0] rfl)
    exact lp_32_2 (17 - 0 + 1) 0 (nI 0) (-1) (by omega) h0 (Or.inl ⟨rfl, rfl⟩) (Nat.lt_succ_self _) ls (lv_sub hl [3, 4, 2, 1, 0] rfl)
  · skip
    have h0 : (nI 1) <<< ((hs d) &&& 31) = pw (fun x => ovdF hs bs (mdl hs bs n) d x n) 0 (ov0 hs bs (mdl hs bs n) d) := by show _ = ov0 _ _ _ _; rw [ov0, if_pos (show sbs (bs d) (mdl hs bs n) = true from decide_eq_true c_1)]
    refine lv_iconst (v := nI 1) hx hb dX6_overDeletedOf_17 (by decide) ?_
    refine lv_aload_n hx hb dX6_overDeletedOf_18 rfl (lv_at hl 1 rfl) ?_
    refine lv_iload_n hx hb dX6_overDeletedOf_19 rfl (lv_at hl 2 rfl) ?_
    refine pu_V (As := [.int (nI d)]) (rest := [.int (nI 1)]) ⟨hx, hb, hml, hown, hts⟩ hG hP (k_X6_headOf l D cI cB mo qA qS sm qE qT tl qQ qd qF fm qC ap pl qH qB av hs bs n as_ d hM hn hd) (cwV 1 hts gX6_overDeletedOf_X6_headOf rfl rfl rfl (by decide +kernel) ⟨(Nat.le_of_ble_eq_true rfl), (Nat.le_of_ble_eq_true rfl)⟩) [0, 1] rfl 0 rfl rfl rfl rfl hl.1 rfl (Nat.le_of_ble_eq_true rfl) dX6_overDeletedOf_20 ⟨Nat.zero_le _, Nat.zero_le _⟩ ?_
    refine lv_ishl hx hb dX6_overDeletedOf_23 ?_
    refine lv_goto (tgt := 28) hx hb dX6_overDeletedOf_24 (by decide) ?_
    refine lv_istore_n (lv' := [(3, .int ((nI 1) <<< ((hs d) &&& 31))), (2, .int (mdl hs bs n)), (0, .ref mo), (1, .int (nI d))]) hx hb dX6_overDeletedOf_28 rfl hl (by decide) rfl (fun ls hl => ?_)
    refine lv_iconst (v := (-1)) hx hb dX6_overDeletedOf_29 (by decide) ?_
    refine lv_istore (lv' := [(4, .int (-1)), (3, .int ((nI 1) <<< ((hs d) &&& 31))), (2, .int (mdl hs bs n)), (0, .ref mo), (1, .int (nI d))]) hx hb dX6_overDeletedOf_30 hl (by decide) rfl (fun ls hl => ?_)
    have lp_32_9 : ∀ (fu_32 : Nat) (k : Nat) (x3 : Int32) (x4 : Int32) (hk : k ≤ 17) (e3 : x3 = pw (fun x => ovdF hs bs (mdl hs bs n) d x n) k (ov0 hs bs (mdl hs bs n) d)) (hh : (k = 0 ∧ x4 = -1) ∨ ∃ j, k = j + 1 ∧ x4 = pw (fun x => ovdF hs bs (mdl hs bs n) d x n) j (ov0 hs bs (mdl hs bs n) d)) (hfu_32 : 17 - k < fu_32) (ls : Array Slot) (hl : lv_has ls 6 [(0, .ref mo), (1, .int (nI d)), (2, .int (mdl hs bs n)), (3, .int x3), (4, .int x4)]), W p l e ({ frames := 3, cells := 0, slots := 0, locals := 66 }) s m args below meth c s.heap [] 0 0 Q (F0 m 32 ls []) := by
      intro fu_32
      induction fu_32 with
      | zero => intro k x3 x4 hk e3 hh hfu; exact absurd hfu (Nat.not_lt_zero _)
      | succ fu_32 ih_32 =>
        intro k x3 x4 hk e3 hh hfu_32 ls hl
        refine lv_iload hx hb dX6_overDeletedOf_32 (lv_at hl 4 rfl) ?_
        refine lv_iload_n hx hb dX6_overDeletedOf_34 rfl (lv_at hl 3 rfl) ?_
        refine lv_icmp_eq (tgt := 109) hx hb dX6_overDeletedOf_35 (by decide) (fun c_10 => ?_) (fun c_10 => ?_)
        · skip
          have hfin : x3 = ovd hs bs n d := ov_fin hH hd e3 hh c_10
          refine lv_iload_n hx hb dX6_overDeletedOf_109 rfl (lv_at hl 3 rfl) ?_
          exact hret _ _ _ hfin dX6_overDeletedOf_110
        · skip
          have hk1 : k + 1 ≤ 17 := ov_more hH hd e3 hh c_10
          refine lv_iload_n hx hb dX6_overDeletedOf_38 rfl (lv_at hl 3 rfl) ?_
          refine lv_istore (lv' := [(4, .int x3), (0, .ref mo), (1, .int (nI d)), (2, .int (mdl hs bs n)), (3, .int x3)]) hx hb dX6_overDeletedOf_39 hl (by decide) rfl (fun ls hl => ?_)
          refine lv_iconst (v := nI 0) hx hb dX6_overDeletedOf_41 (by decide) ?_
          refine lv_istore (lv' := [(5, .int (nI 0)), (4, .int x3), (0, .ref mo), (1, .int (nI d)), (2, .int (mdl hs bs n)), (3, .int x3)]) hx hb dX6_overDeletedOf_42 hl (by decide) rfl (fun ls hl => ?_)
          have lp_44_11 : ∀ (fu_44 : Nat) (r : Nat) (x5 : Int32) (hr : r ≤ n) (e5 : x5 = ovdF hs bs (mdl hs bs n) d x3 r) (hfu_44 : n - r < fu_44) (ls : Array Slot) (hl : lv_has ls 6 [(0, .ref mo), (1, .int (nI d)), (2, .int (mdl hs bs n)), (3, .int x5), (4, .int x3), (5, .int (nI r))]), W p l e ({ frames := 3, cells := 0, slots := 0, locals := 66 }) s m args below meth c s.heap [] 0 0 Q (F0 m 44 ls []) := by
            intro fu_44
            induction fu_44 with
            | zero => intro r x5 hr e5 hfu; exact absurd hfu (Nat.not_lt_zero _)
            | succ fu_44 ih_44 =>
              intro r x5 hr e5 hfu_44 ls hl
              refine lv_iload hx hb dX6_overDeletedOf_44 (lv_at hl 5 rfl) ?_
              refine lv_aload_n hx hb dX6_overDeletedOf_46 rfl (lv_at hl 0 rfl) ?_
              refine va_get (D := D) (ci := 6) (v := .ref qA) (C := RX6) (T := TX6) (N := 15) hx hb hts ilX6_overDeletedOf_6 hown hG.1 hP 0 rfl rfl 0 (by decide) (hts (.fieldLink RX6 7 "HornEngineModel" "all" "[I") (List.mem_of_getElem? (i := 1) rfl)) (fun _ h9 => h9) rfl dX6_overDeletedOf_47 ?_
              refine lv_iconst (v := nI 0) hx hb dX6_overDeletedOf_50 (by decide) ?_
              refine ia_ld hx hb hG hP 1 rfl 0 rfl (by omega) (by decide) dX6_overDeletedOf_51 ?_
              refine lv_eqi (y := nI n) hM.1 ?_
              refine lv_icmp_ge (tgt := 106) hx hb dX6_overDeletedOf_52 (by decide) (fun c_12 => ?_) (fun c_12 => ?_)
              · skip
                have c_12 : n ≤ r := (nI_leI (by omega) (by omega)).mp (show nI n ≤ nI r from c_12)
                refine lv_goto (tgt := 32) hx hb dX6_overDeletedOf_106 (by decide) ?_
                exact ih_32 (k + 1) x5 x3 hk1 (by rw [e5, show r = n from by omega, e3]; rfl) (Or.inr ⟨k, rfl, e3⟩) (by omega) ls (lv_sub hl [0, 1, 2, 3, 4] rfl)
              · skip
                have c_12 : ¬ (n ≤ r) := fun h9 => (show ¬ (nI n ≤ nI r) from c_12) ((nI_leI (by omega) (by omega)).mpr h9)
                refine lv_iload_n hx hb dX6_overDeletedOf_55 rfl (lv_at hl 3 rfl) ?_
                refine lv_iload hx hb dX6_overDeletedOf_56 (lv_at hl 5 rfl) ?_
                refine lv_iload_n hx hb dX6_overDeletedOf_58 rfl (lv_at hl 1 rfl) ?_
                refine lv_icmp_eq (tgt := 97) hx hb dX6_overDeletedOf_59 (by decide) (fun c_13 => ?_) (fun c_13 => ?_)
                · skip
                  have c_13 : r = d := (nI_eq (by omega) (by omega)).mp (show nI r = nI d from c_13)
                  have hq := c_13
                  refine lv_iconst (v := nI 0) hx hb dX6_overDeletedOf_97 (by decide) ?_
                  refine lv_ior hx hb dX6_overDeletedOf_98 ?_
                  refine lv_eqi (y := x5) (or_0 x5) ?_
                  refine lv_istore_n (lv' := [(3, .int x5), (0, .ref mo), (1, .int (nI d)), (2, .int (mdl hs bs n)), (4, .int x3), (5, .int (nI r))]) hx hb dX6_overDeletedOf_99 rfl hl (by decide) rfl (fun ls hl => ?_)
                  refine lv_iinc (v := nI (r + 1)) (lv' := [(5, .int (nI (r + 1))), (3, .int x5), (0, .ref mo), (1, .int (nI d)), (2, .int (mdl hs bs n)), (4, .int x3)]) hx hb dX6_overDeletedOf_100 hl (k := 5) rfl (nI_s1 r) (by decide) rfl (fun ls hl => ?_)
                  refine lv_goto (tgt := 44) hx hb dX6_overDeletedOf_103 (by decide) ?_
                  exact ih_44 (r + 1) x5 (by omega) (by subst e5; simp only [ovdF, decide_true, decide_false, reduceIte, Bool.false_eq_true, not_true_eq_false, not_false_eq_true, and_self, and_true, true_and, and_false, false_and, hq]) (by omega) ls (lv_sub hl [2, 3, 4, 1, 5, 0] rfl)
                · skip
                  have c_13 : ¬ (r = d) := fun h9 => (show ¬ (nI r = nI d) from c_13) ((nI_eq (by omega) (by omega)).mpr h9)
                  have hq := c_13
                  refine lv_aload_n hx hb dX6_overDeletedOf_62 rfl (lv_at hl 0 rfl) ?_
                  refine lv_iload hx hb dX6_overDeletedOf_63 (lv_at hl 5 rfl) ?_
                  refine pu_V (As := [.int (nI r)]) (rest := [.int x5]) ⟨hx, hb, hml, hown, hts⟩ hG hP (k_X6_bodyOf l D cI cB mo qA qS sm qE qT tl qQ qd qF fm qC ap pl qH qB av hs bs n as_ r hM hn (by omega)) (cwV 1 hts gX6_overDeletedOf_X6_bodyOf rfl rfl rfl (by decide +kernel) ⟨(Nat.le_of_ble_eq_true rfl), (Nat.le_of_ble_eq_true rfl)⟩) [0, 1] rfl 0 rfl rfl rfl rfl hl.1 rfl (Nat.le_of_ble_eq_true rfl) dX6_overDeletedOf_65 ⟨Nat.zero_le _, Nat.zero_le _⟩ ?_
                  refine lv_iload_n hx hb dX6_overDeletedOf_68 rfl (lv_at hl 2 rfl) ?_
                  refine lv_iconst (v := (-1)) hx hb dX6_overDeletedOf_69 (by decide) ?_
                  refine lv_ixor hx hb dX6_overDeletedOf_70 ?_
                  refine lv_iand hx hb dX6_overDeletedOf_71 ?_
                  refine lv_if_ne (tgt := 97) hx hb dX6_overDeletedOf_72 (by decide) (fun c_14 => ?_) (fun c_14 => ?_)
                  · skip
                    have h2 : sbs (bs r) (mdl hs bs n) = false := decide_eq_false c_14
                    refine lv_iconst (v := nI 0) hx hb dX6_overDeletedOf_97 (by decide) ?_
                    refine lv_ior hx hb dX6_overDeletedOf_98 ?_
                    refine lv_eqi (y := x5) (or_0 x5) ?_
                    refine lv_istore_n (lv' := [(3, .int x5), (0, .ref mo), (1, .int (nI d)), (2, .int (mdl hs bs n)), (4, .int x3), (5, .int (nI r))]) hx hb dX6_overDeletedOf_99 rfl hl (by decide) rfl (fun ls hl => ?_)
                    refine lv_iinc (v := nI (r + 1)) (lv' := [(5, .int (nI (r + 1))), (3, .int x5), (0, .ref mo), (1, .int (nI d)), (2, .int (mdl hs bs n)), (4, .int x3)]) hx hb dX6_overDeletedOf_100 hl (k := 5) rfl (nI_s1 r) (by decide) rfl (fun ls hl => ?_)
                    refine lv_goto (tgt := 44) hx hb dX6_overDeletedOf_103 (by decide) ?_
                    exact ih_44 (r + 1) x5 (by omega) (by subst e5; simp only [ovdF, decide_true, decide_false, reduceIte, Bool.false_eq_true, not_true_eq_false, not_false_eq_true, and_self, and_true, true_and, and_false, false_and, hq, h2]) (by omega) ls (lv_sub hl [2, 3, 4, 1, 5, 0] rfl)
                  · skip
                    have h2 : sbs (bs r) (mdl hs bs n) = true := decide_eq_true c_14
                    refine lv_aload_n hx hb dX6_overDeletedOf_75 rfl (lv_at hl 0 rfl) ?_
                    refine lv_iload hx hb dX6_overDeletedOf_76 (lv_at hl 5 rfl) ?_
                    refine pu_V (As := [.int (nI r)]) (rest := [.int x5]) ⟨hx, hb, hml, hown, hts⟩ hG hP (k_X6_bodyOf l D cI cB mo qA qS sm qE qT tl qQ qd qF fm qC ap pl qH qB av hs bs n as_ r hM hn (by omega)) (cwV 1 hts gX6_overDeletedOf_X6_bodyOf rfl rfl rfl (by decide +kernel) ⟨(Nat.le_of_ble_eq_true rfl), (Nat.le_of_ble_eq_true rfl)⟩) [0, 1] rfl 0 rfl rfl rfl rfl hl.1 rfl (Nat.le_of_ble_eq_true rfl) dX6_overDeletedOf_78 ⟨Nat.zero_le _, Nat.zero_le _⟩ ?_
                    refine lv_iload_n hx hb dX6_overDeletedOf_81 rfl (lv_at hl 3 rfl) ?_
                    refine lv_iand hx hb dX6_overDeletedOf_82 ?_
                    refine lv_if_eq (tgt := 97) hx hb dX6_overDeletedOf_83 (by decide) (fun c_15 => ?_) (fun c_15 => ?_)
                    · skip
                      have h3 := c_15
                      refine lv_iconst (v := nI 0) hx hb dX6_overDeletedOf_97 (by decide) ?_
                      refine lv_ior hx hb dX6_overDeletedOf_98 ?_
                      refine lv_eqi (y := x5) (or_0 x5) ?_
                      refine lv_istore_n (lv' := [(3, .int x5), (0, .ref mo), (1, .int (nI d)), (2, .int (mdl hs bs n)), (4, .int x3), (5, .int (nI r))]) hx hb dX6_overDeletedOf_99 rfl hl (by decide) rfl (fun ls hl => ?_)
                      refine lv_iinc (v := nI (r + 1)) (lv' := [(5, .int (nI (r + 1))), (3, .int x5), (0, .ref mo), (1, .int (nI d)), (2, .int (mdl hs bs n)), (4, .int x3)]) hx hb dX6_overDeletedOf_100 hl (k := 5) rfl (nI_s1 r) (by decide) rfl (fun ls hl => ?_)
                      refine lv_goto (tgt := 44) hx hb dX6_overDeletedOf_103 (by decide) ?_
                      exact ih_44 (r + 1) x5 (by omega) (by subst e5; simp only [ovdF, decide_true, decide_false, reduceIte, Bool.false_eq_true, not_true_eq_false, not_false_eq_true, and_self, and_true, true_and, and_false, false_and, hq, h2, h3]) (by omega) ls (lv_sub hl [2, 3, 4, 1, 5, 0] rfl)
                    · skip
                      have h3 := c_15
                      refine lv_iconst (v := nI 1) hx hb dX6_overDeletedOf_86 (by decide) ?_
                      refine lv_aload_n hx hb dX6_overDeletedOf_87 rfl (lv_at hl 0 rfl) ?_
                      refine lv_iload hx hb dX6_overDeletedOf_88 (lv_at hl 5 rfl) ?_
                      refine pu_V (As := [.int (nI r)]) (rest := [.int (nI 1), .int x5]) ⟨hx, hb, hml, hown, hts⟩ hG hP (k_X6_headOf l D cI cB mo qA qS sm qE qT tl qQ qd qF fm qC ap pl qH qB av hs bs n as_ r hM hn (by omega)) (cwV 1 hts gX6_overDeletedOf_X6_headOf rfl rfl rfl (by decide +kernel) ⟨(Nat.le_of_ble_eq_true rfl), (Nat.le_of_ble_eq_true rfl)⟩) [0, 1] rfl 0 rfl rfl rfl rfl hl.1 rfl (Nat.le_of_ble_eq_true rfl) dX6_overDeletedOf_90 ⟨Nat.zero_le _, Nat.zero_le _⟩ ?_
                      refine lv_ishl hx hb dX6_overDeletedOf_93 ?_
                      refine lv_goto (tgt := 98) hx hb dX6_overDeletedOf_94 (by decide) ?_
                      refine lv_ior hx hb dX6_overDeletedOf_98 ?_
                      refine lv_istore_n (lv' := [(3, .int (x5 ||| ((nI 1) <<< ((hs r) &&& 31)))), (0, .ref mo), (1, .int (nI d)), (2, .int (mdl hs bs n)), (4, .int x3), (5, .int (nI r))]) hx hb dX6_overDeletedOf_99 rfl hl (by decide) rfl (fun ls hl => ?_)
                      refine lv_iinc (v := nI (r + 1)) (lv' := [(5, .int (nI (r + 1))), (3, .int (x5 ||| ((nI 1) <<< ((hs r) &&& 31)))), (0, .ref mo), (1, .int (nI d)), (2, .int (mdl hs bs n)), (4, .int x3)]) hx hb dX6_overDeletedOf_100 hl (k := 5) rfl (nI_s1 r) (by decide) rfl (fun ls hl => ?_)
                      refine lv_goto (tgt := 44) hx hb dX6_overDeletedOf_103 (by decide) ?_
                      exact ih_44 (r + 1) (x5 ||| ((nI 1) <<< ((hs r) &&& 31))) (by omega) (by subst e5; simp only [ovdF, decide_true, decide_false, reduceIte, Bool.false_eq_true, not_true_eq_false, not_false_eq_true, and_self, and_true, true_and, and_false, false_and, hq, h2, h3]) (by omega) ls (lv_sub hl [2, 3, 4, 1, 5, 0] rfl)
          exact lp_44_11 (n - 0 + 1) 0 x3 (by omega) rfl (Nat.lt_succ_self _) ls (lv_sub hl [2, 3, 4, 5, 1, 0] rfl)
    exact lp_32_9 (17 - 0 + 1) 0 ((nI 1) <<< ((hs d) &&& 31)) (-1) (by omega) h0 (Or.inl ⟨rfl, rfl⟩) (Nat.lt_succ_self _) ls (lv_sub hl [3, 4, 2, 1, 0] rfl)
set_option maxHeartbeats 4000000 in
set_option maxRecDepth 100000 in
theorem k_X6_lostOf (l : Launch) (D : va_G) (cI cB : ClassId) (mo : Nat) (qA : Nat) (qS : Nat) (sm : Nat) (qE : Nat) (qT : Nat) (tl : Nat) (qQ : Nat) (qd : Nat) (qF : Nat) (fm : Nat) (qC : Nat) (ap : Nat) (pl : Nat) (qH : Nat) (qB : Nat) (av : Nat → Int32) (hs : Nat → Int32) (bs : Nat → Int32) (n : Nat) (as_ : Int32) (r : Nat) (hM : mA av hs bs n as_) (hn : n ≤ 24) (hH : hOK hs n) (hr : r < n) : Rd l yX6_lostOf wsX6_lostOf ({ frames := 3, cells := 0, slots := 0, locals := 66 }) D cI cB [.ref mo, .int (nI r)] [(mo, .inr (6, [.ref qA, .ref qS, .int (nI sm), .ref qE, .ref qT, .int (nI tl), .ref qQ, .int (nI qd), .ref qF, .int (nI fm), .ref qC, .int (nI ap), .int (nI pl), .ref qH, .ref qB])), (qA, .inl (cI, 50, .inl av))] (.int (lst hs bs n r)) := by
  refine pu_startI (cc := cX6_lostOf) (maxL := 2) (by decide) rfl (Nat.le_of_ble_eq_true rfl) ?_
  intro p e s m args below meth c Q hx hb hml hown hts hP hG hret ls hl
  have hown : s.vm.findClass RX6 = some m.cls := hown
  have hl : lv_has ls 2 [(0, .ref mo), (1, .int (nI r))] := hl
  refine lv_aload_n hx hb dX6_lostOf_0 rfl (lv_at hl 0 rfl) ?_
  refine pu_V (As := []) (rest := []) ⟨hx, hb, hml, hown, hts⟩ hG hP (k_X6_whole l D cI cB mo qA qS sm qE qT tl qQ qd qF fm qC ap pl qH qB av hs bs n as_ hM hn hH) (cwV 0 hts gX6_lostOf_X6_whole rfl rfl rfl (by decide +kernel) ⟨(Nat.le_of_ble_eq_true rfl), (Nat.le_of_ble_eq_true rfl)⟩) [0, 1] rfl 0 rfl rfl rfl rfl hl.1 rfl (Nat.le_of_ble_eq_true rfl) dX6_lostOf_1 ⟨Nat.zero_le _, Nat.zero_le _⟩ ?_
  refine lv_aload_n hx hb dX6_lostOf_4 rfl (lv_at hl 0 rfl) ?_
  refine lv_aload_n hx hb dX6_lostOf_5 rfl (lv_at hl 0 rfl) ?_
  refine pu_V (As := []) (rest := [.ref mo, .int (mdl hs bs n)]) ⟨hx, hb, hml, hown, hts⟩ hG hP (k_X6_everyRule l D cI cB mo qA qS sm qE qT tl qQ qd qF fm qC ap pl qH qB av hs bs n as_ hM hn) (cwV 0 hts gX6_lostOf_X6_everyRule rfl rfl rfl (by decide +kernel) ⟨(Nat.le_of_ble_eq_true rfl), (Nat.le_of_ble_eq_true rfl)⟩) [0, 1] rfl 0 rfl rfl rfl rfl hl.1 rfl (Nat.le_of_ble_eq_true rfl) dX6_lostOf_6 ⟨Nat.zero_le _, Nat.zero_le _⟩ ?_
  refine lv_iconst (v := nI 1) hx hb dX6_lostOf_9 (by decide) ?_
  refine lv_iload_n hx hb dX6_lostOf_10 rfl (lv_at hl 1 rfl) ?_
  refine lv_ishl hx hb dX6_lostOf_11 ?_
  refine lv_iconst (v := (-1)) hx hb dX6_lostOf_12 (by decide) ?_
  refine lv_ixor hx hb dX6_lostOf_13 ?_
  refine lv_iand hx hb dX6_lostOf_14 ?_
  refine lv_iconst (v := nI 0) hx hb dX6_lostOf_15 (by decide) ?_
  refine pu_V (As := [.int ((evr n) &&& (((nI 1) <<< ((nI r) &&& 31)) ^^^ (-1))), .int (nI 0)]) (rest := [.int (mdl hs bs n)]) ⟨hx, hb, hml, hown, hts⟩ hG hP (k_X6_modelOf l D cI cB mo qA qS sm qE qT tl qQ qd qF fm qC ap pl qH qB av hs bs n as_ ((evr n) &&& (((nI 1) <<< ((nI r) &&& 31)) ^^^ (-1))) (nI 0) hM hn hH low16_0) (cwV 2 hts gX6_lostOf_X6_modelOf rfl rfl rfl (by decide +kernel) ⟨(Nat.le_of_ble_eq_true rfl), (Nat.le_of_ble_eq_true rfl)⟩) [0, 1] rfl 0 rfl rfl rfl rfl hl.1 rfl (Nat.le_of_ble_eq_true rfl) dX6_lostOf_16 ⟨Nat.zero_le _, Nat.zero_le _⟩ ?_
  refine lv_iconst (v := (-1)) hx hb dX6_lostOf_19 (by decide) ?_
  refine lv_ixor hx hb dX6_lostOf_20 ?_
  refine lv_iand hx hb dX6_lostOf_21 ?_
  exact hret _ _ _ rfl dX6_lostOf_22
