theorem ilX1_atomCount_1 : ∀ w ∈ u_ws RX1 TX1 4, w ∈ wsX1_atomCount := by decide +kernel
theorem ilX1_ruleCount_1 : ∀ w ∈ u_ws RX1 TX1 4, w ∈ wsX1_ruleCount := by decide +kernel
theorem ilX1_atomAt_1 : ∀ w ∈ u_ws RX1 TX1 4, w ∈ wsX1_atomAt := by decide +kernel
theorem ilX1_ruleAt_1 : ∀ w ∈ u_ws RX1 TX1 4, w ∈ wsX1_ruleAt := by decide +kernel
theorem ilX1_fire_1 : ∀ w ∈ u_ws RX1 TX1 4, w ∈ wsX1_fire := by decide +kernel
theorem ilX1_fireFacts_1 : ∀ w ∈ u_ws RX1 TX1 4, w ∈ wsX1_fireFacts := by decide +kernel
theorem ilX1_countDown_1 : ∀ w ∈ u_ws RX1 TX1 4, w ∈ wsX1_countDown := by decide +kernel
theorem ilX1_run_1 : ∀ w ∈ u_ws RX1 TX1 4, w ∈ wsX1_run := by decide +kernel
set_option maxHeartbeats 4000000 in
set_option maxRecDepth 100000 in
theorem k_X1_atomCount (l : Launch) (D : va_G) (cI cB : ClassId) (p_ : Nat) (rq : Nat) (qq : Nat) (rf : Nat) (qr : Nat) (qc : Nat) (qf : Nat → Int32) (qn : Nat) (ff : Nat → Int32) (fn : Nat) (ct : Nat → Int32) (qa : Int32) (hqn : qn ≤ 16) (hfn : fn ≤ 24) : Rd l yX1_atomCount wsX1_atomCount ({ frames := 1, cells := 0, slots := 0, locals := 20 }) D cI cB [.ref p_] [(p_, .inr (1, [.ref rq, .ref rf, .ref qc, .int qa])), (rq, .inr (2, [.ref qq, .int (nI qn)])), (qq, .inl (cI, 16, .inl qf)), (rf, .inr (2, [.ref qr, .int (nI fn)])), (qr, .inl (cI, 24, .inl ff)), (qc, .inl (cI, 24, .inl ct))] (.int (nI qn)) := by
  refine pu_startI (cc := cX1_atomCount) (maxL := 1) (by decide) rfl (Nat.le_of_ble_eq_true rfl) ?_
  intro p e s m args below meth c Q hx hb hml hown hts hP hG hret ls hl
  have hown : s.vm.findClass RX1 = some m.cls := hown
  have hl : lv_has ls 1 [(0, .ref p_)] := hl
  refine lv_aload_n hx hb dX1_atomCount_0 rfl (lv_at hl 0 rfl) ?_
  refine va_get (D := D) (ci := 1) (v := .ref rq) (C := RX1) (T := TX1) (N := 4) hx hb hts ilX1_atomCount_1 hown hG.1 hP 0 rfl rfl 0 (by decide) (hts (.fieldLink RX1 14 "HornEngine$Propagation" "queue" "LHornEngine$Row;") (List.mem_of_getElem? (i := 1) rfl)) (fun _ h9 => h9) rfl dX1_atomCount_1 ?_
  refine pu_V (As := []) (rest := []) ⟨hx, hb, hml, hown, hts⟩ hG hP (k_X2_size l D cI cB rq qq qf qn 16 (by decide) (by omega)) (cwV 0 hts gX1_atomCount_X2_size rfl rfl rfl (by decide +kernel) ⟨(Nat.le_of_ble_eq_true rfl), (Nat.le_of_ble_eq_true rfl)⟩) [1, 2] rfl 1 rfl rfl rfl rfl hl.1 rfl (Nat.le_of_ble_eq_true rfl) dX1_atomCount_4 ⟨Nat.zero_le _, Nat.zero_le _⟩ ?_
  exact hret _ _ _ rfl dX1_atomCount_7
set_option maxHeartbeats 4000000 in
set_option maxRecDepth 100000 in
theorem k_X1_ruleCount (l : Launch) (D : va_G) (cI cB : ClassId) (p_ : Nat) (rq : Nat) (qq : Nat) (rf : Nat) (qr : Nat) (qc : Nat) (qf : Nat → Int32) (qn : Nat) (ff : Nat → Int32) (fn : Nat) (ct : Nat → Int32) (qa : Int32) (hqn : qn ≤ 16) (hfn : fn ≤ 24) : Rd l yX1_ruleCount wsX1_ruleCount ({ frames := 1, cells := 0, slots := 0, locals := 20 }) D cI cB [.ref p_] [(p_, .inr (1, [.ref rq, .ref rf, .ref qc, .int qa])), (rq, .inr (2, [.ref qq, .int (nI qn)])), (qq, .inl (cI, 16, .inl qf)), (rf, .inr (2, [.ref qr, .int (nI fn)])), (qr, .inl (cI, 24, .inl ff)), (qc, .inl (cI, 24, .inl ct))] (.int (nI fn)) := by
  refine pu_startI (cc := cX1_ruleCount) (maxL := 1) (by decide) rfl (Nat.le_of_ble_eq_true rfl) ?_
  intro p e s m args below meth c Q hx hb hml hown hts hP hG hret ls hl
  have hown : s.vm.findClass RX1 = some m.cls := hown
  have hl : lv_has ls 1 [(0, .ref p_)] := hl
  refine lv_aload_n hx hb dX1_ruleCount_0 rfl (lv_at hl 0 rfl) ?_
  refine va_get (D := D) (ci := 1) (v := .ref rf) (C := RX1) (T := TX1) (N := 4) hx hb hts ilX1_ruleCount_1 hown hG.1 hP 0 rfl rfl 1 (by decide) (hts (.fieldLink RX1 20 "HornEngine$Propagation" "firedRules" "LHornEngine$Row;") (List.mem_of_getElem? (i := 1) rfl)) (fun _ h9 => h9) rfl dX1_ruleCount_1 ?_
  refine pu_V (As := []) (rest := []) ⟨hx, hb, hml, hown, hts⟩ hG hP (k_X2_size l D cI cB rf qr ff fn 24 (by decide) (by omega)) (cwV 0 hts gX1_ruleCount_X2_size rfl rfl rfl (by decide +kernel) ⟨(Nat.le_of_ble_eq_true rfl), (Nat.le_of_ble_eq_true rfl)⟩) [3, 4] rfl 3 rfl rfl rfl rfl hl.1 rfl (Nat.le_of_ble_eq_true rfl) dX1_ruleCount_4 ⟨Nat.zero_le _, Nat.zero_le _⟩ ?_
  exact hret _ _ _ rfl dX1_ruleCount_7
set_option maxHeartbeats 4000000 in
set_option maxRecDepth 100000 in
theorem k_X1_atomAt (l : Launch) (D : va_G) (cI cB : ClassId) (p_ : Nat) (rq : Nat) (qq : Nat) (rf : Nat) (qr : Nat) (qc : Nat) (qf : Nat → Int32) (qn : Nat) (ff : Nat → Int32) (fn : Nat) (ct : Nat → Int32) (qa : Int32) (i_ : Int32) (hqn : qn ≤ 16) (hfn : fn ≤ 24) : Rd l yX1_atomAt wsX1_atomAt ({ frames := 1, cells := 0, slots := 0, locals := 21 }) D cI cB [.ref p_, .int i_] [(p_, .inr (1, [.ref rq, .ref rf, .ref qc, .int qa])), (rq, .inr (2, [.ref qq, .int (nI qn)])), (qq, .inl (cI, 16, .inl qf)), (rf, .inr (2, [.ref qr, .int (nI fn)])), (qr, .inl (cI, 24, .inl ff)), (qc, .inl (cI, 24, .inl ct))] (.int (itm qf qn i_)) := by
  refine pu_startI (cc := cX1_atomAt) (maxL := 2) (by decide) rfl (Nat.le_of_ble_eq_true rfl) ?_
  intro p e s m args below meth c Q hx hb hml hown hts hP hG hret ls hl
  have hown : s.vm.findClass RX1 = some m.cls := hown
  have hl : lv_has ls 2 [(0, .ref p_), (1, .int i_)] := hl
  refine lv_aload_n hx hb dX1_atomAt_0 rfl (lv_at hl 0 rfl) ?_
  refine va_get (D := D) (ci := 1) (v := .ref rq) (C := RX1) (T := TX1) (N := 4) hx hb hts ilX1_atomAt_1 hown hG.1 hP 0 rfl rfl 0 (by decide) (hts (.fieldLink RX1 14 "HornEngine$Propagation" "queue" "LHornEngine$Row;") (List.mem_of_getElem? (i := 1) rfl)) (fun _ h9 => h9) rfl dX1_atomAt_1 ?_
  refine lv_iload_n hx hb dX1_atomAt_4 rfl (lv_at hl 1 rfl) ?_
  refine pu_V (As := [.int i_]) (rest := []) ⟨hx, hb, hml, hown, hts⟩ hG hP (k_X2_itemAt l D cI cB rq qq qf qn 16 i_ (by decide) (by omega)) (cwV 1 hts gX1_atomAt_X2_itemAt rfl rfl rfl (by decide +kernel) ⟨(Nat.le_of_ble_eq_true rfl), (Nat.le_of_ble_eq_true rfl)⟩) [1, 2] rfl 1 rfl rfl rfl rfl hl.1 rfl (Nat.le_of_ble_eq_true rfl) dX1_atomAt_5 ⟨Nat.zero_le _, Nat.zero_le _⟩ ?_
  exact hret _ _ _ rfl dX1_atomAt_8
set_option maxHeartbeats 4000000 in
set_option maxRecDepth 100000 in
theorem k_X1_ruleAt (l : Launch) (D : va_G) (cI cB : ClassId) (p_ : Nat) (rq : Nat) (qq : Nat) (rf : Nat) (qr : Nat) (qc : Nat) (qf : Nat → Int32) (qn : Nat) (ff : Nat → Int32) (fn : Nat) (ct : Nat → Int32) (qa : Int32) (i_ : Int32) (hqn : qn ≤ 16) (hfn : fn ≤ 24) : Rd l yX1_ruleAt wsX1_ruleAt ({ frames := 1, cells := 0, slots := 0, locals := 21 }) D cI cB [.ref p_, .int i_] [(p_, .inr (1, [.ref rq, .ref rf, .ref qc, .int qa])), (rq, .inr (2, [.ref qq, .int (nI qn)])), (qq, .inl (cI, 16, .inl qf)), (rf, .inr (2, [.ref qr, .int (nI fn)])), (qr, .inl (cI, 24, .inl ff)), (qc, .inl (cI, 24, .inl ct))] (.int (itm ff fn i_)) := by
  refine pu_startI (cc := cX1_ruleAt) (maxL := 2) (by decide) rfl (Nat.le_of_ble_eq_true rfl) ?_
  intro p e s m args below meth c Q hx hb hml hown hts hP hG hret ls hl
  have hown : s.vm.findClass RX1 = some m.cls := hown
  have hl : lv_has ls 2 [(0, .ref p_), (1, .int i_)] := hl
  refine lv_aload_n hx hb dX1_ruleAt_0 rfl (lv_at hl 0 rfl) ?_
  refine va_get (D := D) (ci := 1) (v := .ref rf) (C := RX1) (T := TX1) (N := 4) hx hb hts ilX1_ruleAt_1 hown hG.1 hP 0 rfl rfl 1 (by decide) (hts (.fieldLink RX1 20 "HornEngine$Propagation" "firedRules" "LHornEngine$Row;") (List.mem_of_getElem? (i := 1) rfl)) (fun _ h9 => h9) rfl dX1_ruleAt_1 ?_
  refine lv_iload_n hx hb dX1_ruleAt_4 rfl (lv_at hl 1 rfl) ?_
  refine pu_V (As := [.int i_]) (rest := []) ⟨hx, hb, hml, hown, hts⟩ hG hP (k_X2_itemAt l D cI cB rf qr ff fn 24 i_ (by decide) (by omega)) (cwV 1 hts gX1_ruleAt_X2_itemAt rfl rfl rfl (by decide +kernel) ⟨(Nat.le_of_ble_eq_true rfl), (Nat.le_of_ble_eq_true rfl)⟩) [3, 4] rfl 3 rfl rfl rfl rfl hl.1 rfl (Nat.le_of_ble_eq_true rfl) dX1_ruleAt_5 ⟨Nat.zero_le _, Nat.zero_le _⟩ ?_
  exact hret _ _ _ rfl dX1_ruleAt_8
set_option maxHeartbeats 4000000 in
set_option maxRecDepth 100000 in
theorem k_X1_fire (l : Launch) (D : va_G) (cI cB : ClassId) (p_ : Nat) (rq : Nat) (qq : Nat) (rf : Nat) (qr : Nat) (qc : Nat) (qf : Nat → Int32) (qn : Nat) (ff : Nat → Int32) (fn : Nat) (ct : Nat → Int32) (qa : Int32) (b : Nat) (qh : Nat) (qb : Nat) (hs : Nat → Int32) (bs : Nat → Int32) (n : Nat) (as_ : Int32) (r : Nat) (s_ : PS) (hn : n ≤ 24) (hr : r < n) (hh : ∃ a, a < 16 ∧ hs r = nI a) (hR : prR s_ qf qn ff fn qa) (hqn : qn ≤ 16) (ho : okF s_ (hs r)) (sz : Nat) : Wr l yX1_fire wsX1_fire ({ frames := 2, cells := 0, slots := 0, locals := 42 }) D cI cB [.ref p_, .ref b, .int (nI r)] [(p_, .inr (1, [.ref rq, .ref rf, .ref qc, .int qa])), (rq, .inr (2, [.ref qq, .int (nI qn)])), (qq, .inl (cI, 16, .inl qf)), (rf, .inr (2, [.ref qr, .int (nI fn)])), (qr, .inl (cI, 24, .inl ff)), (qc, .inl (cI, 24, .inl ct)), (b, .inr (4, [.ref qh, .ref qb, .int (nI n), .int as_])), (qh, .inl (cI, 24, .inl hs)), (qb, .inl (cI, 24, .inl bs))] sz (S := (Nat → Int32) × Nat × (Nat → Int32) × Nat × Int32) (fun v u => v = none ∧ (prR (fireP hs r s_) u.1 u.2.1 u.2.2.1 u.2.2.2.1 u.2.2.2.2 ∧ u.2.1 ≤ 16 ∧ u.2.2.2.1 ≤ 24)) (fun u => [(p_, .inr (1, [.ref rq, .ref rf, .ref qc, .int u.2.2.2.2])), (rq, .inr (2, [.ref qq, .int (nI u.2.1)])), (qq, .inl (cI, 16, .inl u.1)), (rf, .inr (2, [.ref qr, .int (nI u.2.2.2.1)])), (qr, .inl (cI, 24, .inl u.2.2.1)), (qc, .inl (cI, 24, .inl ct)), (b, .inr (4, [.ref qh, .ref qb, .int (nI n), .int as_])), (qh, .inl (cI, 24, .inl hs)), (qb, .inl (cI, 24, .inl bs))]) 0 0 := by
  refine ef_startV (cc := cX1_fire) (maxL := 4) (by decide) rfl (Nat.le_of_ble_eq_true rfl) ?_
  intro p e s m args below meth c Q A hx hb hml hown hts hP hG hD hA hin hret ls hl
  have hown : s.vm.findClass RX1 = some m.cls := hown
  have hl : lv_has ls 4 [(0, .ref p_), (1, .ref b), (2, .int (nI r))] := hl
  have hS : va_S A s.heap s.heap [] := va_S.rf
  refine lv_aload_n hx hb dX1_fire_0 rfl (lv_at hl 1 rfl) ?_
  refine lv_iload_n hx hb dX1_fire_1 rfl (lv_at hl 2 rfl) ?_
  refine pu_V (As := [.int (nI r)]) (rest := []) ⟨hx, hb, hml, hown, hts⟩ hG hP (k_X4_headOf l D cI cB b qh qb hs bs n as_ r (by omega) (by omega)) (cwV 1 hts gX1_fire_X4_headOf rfl rfl rfl (by decide +kernel) ⟨(Nat.le_of_ble_eq_true rfl), (Nat.le_of_ble_eq_true rfl)⟩) [6, 7, 8] rfl 6 rfl rfl rfl rfl hl.1 rfl (Nat.le_of_ble_eq_true rfl) dX1_fire_2 ⟨Nat.zero_le _, Nat.zero_le _⟩ ?_
  refine lv_istore_n (lv' := [(3, .int (hs r)), (0, .ref p_), (1, .ref b), (2, .int (nI r))]) hx hb dX1_fire_5 rfl hl (by decide) rfl (fun ls hl => ?_)
  refine lv_aload_n hx hb dX1_fire_6 rfl (lv_at hl 1 rfl) ?_
  refine va_get (D := D) (ci := 1) (v := .ref rf) (C := RX1) (T := TX1) (N := 4) hx hb hts ilX1_fire_1 hown hG.1 hP 0 rfl rfl 1 (by decide) (hts (.fieldLink RX1 20 "HornEngine$Propagation" "firedRules" "LHornEngine$Row;") (List.mem_of_getElem? (i := 1) rfl)) (fun _ h9 => h9) rfl dX1_fire_7 ?_
  refine lv_iload_n hx hb dX1_fire_10 rfl (lv_at hl 3 rfl) ?_
  refine ef_V (As := [.int (nI r)]) (rest := []) (wr := [(p_, .inr (1, [.ref rq, .ref rf, .ref qc, .int qa])), (rq, .inr (2, [.ref qq, .int (nI qn)])), (qq, .inl (cI, 16, .inl qf)), (qc, .inl (cI, 24, .inl ct)), (b, .inr (4, [.ref qh, .ref qb, .int (nI n), .int as_])), (qh, .inl (cI, 24, .inl hs)), (qb, .inl (cI, 24, .inl bs))]) ⟨hx, hb, hml, hown, hts⟩ hG hP hD hS hA (k_X2_addLast l D cI cB rf qr ff fn 24 (nI r) (by decide) (prR_nf hR ho) _) (cwV 1 hts gX1_fire_X2_addLast rfl rfl rfl (by decide +kernel) ⟨(Nat.le_of_ble_eq_true rfl), (Nat.le_of_ble_eq_true rfl)⟩) [3, 4] [0, 1, 2, 5, 6, 7, 8] rfl rfl rfl rfl (by decide) 3 rfl rfl rfl rfl hl.1 rfl (Nat.le_of_ble_eq_true rfl) dX1_fire_11 ⟨(Nat.le_of_ble_eq_true rfl), (Nat.le_of_ble_eq_true rfl)⟩ (fun v_1 u_1 H locs w_1 hP hD hS => ?_)
  have w_1 : v_1 = none := w_1
  subst w_1
  have hP : va_P D vwCl [(p_, .inr (1, [.ref rq, .ref rf, .ref qc, .int qa])), (rq, .inr (2, [.ref qq, .int (nI qn)])), (qq, .inl (cI, 16, .inl qf)), (rf, .inr (2, [.ref qr, .int (nI (fn + 1))])), (qr, .inl (cI, 24, .inl (upd ff fn (nI r)))), (qc, .inl (cI, 24, .inl ct)), (b, .inr (4, [.ref qh, .ref qb, .int (nI n), .int as_])), (qh, .inl (cI, 24, .inl hs)), (qb, .inl (cI, 24, .inl bs))] H := hP.sub [0, 1, 2, 7, 8, 3, 4, 5, 6] rfl
  have hD : va_D A [(p_, .inr (1, [.ref rq, .ref rf, .ref qc, .int qa])), (rq, .inr (2, [.ref qq, .int (nI qn)])), (qq, .inl (cI, 16, .inl qf)), (rf, .inr (2, [.ref qr, .int (nI (fn + 1))])), (qr, .inl (cI, 24, .inl (upd ff fn (nI r)))), (qc, .inl (cI, 24, .inl ct)), (b, .inr (4, [.ref qh, .ref qb, .int (nI n), .int as_])), (qh, .inl (cI, 24, .inl hs)), (qb, .inl (cI, 24, .inl bs))] := hD.sub [0, 1, 2, 7, 8, 3, 4, 5, 6] rfl rfl
  refine W.eq (g2 := F0 m 14 ls []) rfl ?_
  refine lv_aload_n hx hb dX1_fire_14 rfl (lv_at hl 1 rfl) ?_
  refine va_get (D := D) (ci := 1) (v := .int qa) (C := RX1) (T := TX1) (N := 4) hx hb hts ilX1_fire_1 hown hG.1 hP 0 rfl rfl 3 (by decide) (hts (.fieldLink RX1 38 "HornEngine$Propagation" "queuedAtoms" "I") (List.mem_of_getElem? (i := 2) rfl)) (fun _ h9 => h9) rfl dX1_fire_15 ?_
  refine lv_iload_n hx hb dX1_fire_18 rfl (lv_at hl 0 rfl) ?_
  refine pu_SN (As := [.int qa, .int (hs r)]) (rest := []) ⟨hx, hb, hml, hown, hts⟩ hG hP (k_X5_contains l D cI cB qa (hs r) ) (va_cnB 2 hts gX1_fire_X5_contains_n64 rfl rfl rfl (hG.2 _ (List.mem_of_getElem? (i := 7) rfl)) (hts (.initialized RX5) (List.mem_of_getElem? (i := 27) rfl)) (by decide +kernel) ⟨(Nat.le_of_ble_eq_true rfl), (Nat.le_of_ble_eq_true rfl)⟩) (hts (.static yX5_contains) (List.mem_of_getElem? (i := 26) rfl)) [] rfl rfl hl.1 rfl (Nat.le_of_ble_eq_true rfl) dX1_fire_19 ⟨Nat.zero_le _, Nat.zero_le _⟩ ?_
  refine lv_if_ne (tgt := 45) hx hb dX1_fire_22 (by decide) (fun c_2 => ?_) (fun c_2 => ?_)
  · skip
    have c_2 : (has qa (hs r)) = true := bI_t.mp c_2
    exact hret (qf, qn, upd ff fn (nI r), fn + 1, qa) _ _ _ _ (⟨rfl, prR_yes hR hh c_2, hqn, prR_nf hR ho⟩) (hP) (hD) hS dX1_fire_45
  · skip
    have c_2 : (has qa (hs r)) = false := bI_f.mp c_2
    refine lv_aload_n hx hb dX1_fire_25 rfl (lv_at hl 1 rfl) ?_
    refine lv_dup hx hb dX1_fire_26 rfl ?_
    refine va_get (D := D) (ci := 1) (v := .int qa) (C := RX1) (T := TX1) (N := 4) hx hb hts ilX1_fire_1 hown hG.1 hP 0 rfl rfl 3 (by decide) (hts (.fieldLink RX1 38 "HornEngine$Propagation" "queuedAtoms" "I") (List.mem_of_getElem? (i := 2) rfl)) (fun _ h9 => h9) rfl dX1_fire_27 ?_
    refine lv_iconst (v := nI 1) hx hb dX1_fire_30 (by decide) ?_
    refine lv_iload_n hx hb dX1_fire_31 rfl (lv_at hl 0 rfl) ?_
    refine lv_ishl hx hb dX1_fire_32 ?_
    refine lv_ior hx hb dX1_fire_33 ?_
    refine va_put (D := D) (ci := 1) (v := .int (qa ||| ((nI 1) <<< ((hs r) &&& 31)))) (ty := .int) (C := RX1) (T := TX1) (N := 4) hx hb hts ilX1_fire_1 tyX1 tyX1_ok nmX1 hown hG.1 hP hD hS 0 rfl rfl 3 (by decide) (hts (.fieldLink RX1 38 "HornEngine$Propagation" "queuedAtoms" "I") (List.mem_of_getElem? (i := 2) rfl)) (fun _ h9 => h9) rfl (by decide +kernel) rfl rfl (Nat.le_of_ble_eq_true rfl) dX1_fire_34 (fun H locs hP hD hS => ?_)
    have hP : va_P D vwCl [(p_, .inr (1, [.ref rq, .ref rf, .ref qc, .int (qa ||| ((nI 1) <<< ((hs r) &&& 31)))])), (rq, .inr (2, [.ref qq, .int (nI qn)])), (qq, .inl (cI, 16, .inl qf)), (rf, .inr (2, [.ref qr, .int (nI (fn + 1))])), (qr, .inl (cI, 24, .inl (upd ff fn (nI r)))), (qc, .inl (cI, 24, .inl ct)), (b, .inr (4, [.ref qh, .ref qb, .int (nI n), .int as_])), (qh, .inl (cI, 24, .inl hs)), (qb, .inl (cI, 24, .inl bs))] H := hP
    have hD : va_D A [(p_, .inr (1, [.ref rq, .ref rf, .ref qc, .int (qa ||| ((nI 1) <<< ((hs r) &&& 31)))])), (rq, .inr (2, [.ref qq, .int (nI qn)])), (qq, .inl (cI, 16, .inl qf)), (rf, .inr (2, [.ref qr, .int (nI (fn + 1))])), (qr, .inl (cI, 24, .inl (upd ff fn (nI r)))), (qc, .inl (cI, 24, .inl ct)), (b, .inr (4, [.ref qh, .ref qb, .int (nI n), .int as_])), (qh, .inl (cI, 24, .inl hs)), (qb, .inl (cI, 24, .inl bs))] := hD
    refine lv_aload_n hx hb dX1_fire_37 rfl (lv_at hl 1 rfl) ?_
    refine va_get (D := D) (ci := 1) (v := .ref rq) (C := RX1) (T := TX1) (N := 4) hx hb hts ilX1_fire_1 hown hG.1 hP 0 rfl rfl 0 (by decide) (hts (.fieldLink RX1 14 "HornEngine$Propagation" "queue" "LHornEngine$Row;") (List.mem_of_getElem? (i := 3) rfl)) (fun _ h9 => h9) rfl dX1_fire_38 ?_
    refine lv_iload_n hx hb dX1_fire_41 rfl (lv_at hl 0 rfl) ?_
    refine ef_V (As := [.int (hs r)]) (rest := []) (wr := [(p_, .inr (1, [.ref rq, .ref rf, .ref qc, .int (qa ||| ((nI 1) <<< ((hs r) &&& 31)))])), (rf, .inr (2, [.ref qr, .int (nI (fn + 1))])), (qr, .inl (cI, 24, .inl (upd ff fn (nI r)))), (qc, .inl (cI, 24, .inl ct)), (b, .inr (4, [.ref qh, .ref qb, .int (nI n), .int as_])), (qh, .inl (cI, 24, .inl hs)), (qb, .inl (cI, 24, .inl bs))]) ⟨hx, hb, hml, hown, hts⟩ hG hP hD hS hA (k_X2_addLast l D cI cB rq qq qf qn 16 (hs r) (by decide) (prR_nq hR hh ho c_2) _) (cwV 1 hts gX1_fire_X2_addLast rfl rfl rfl (by decide +kernel) ⟨(Nat.le_of_ble_eq_true rfl), (Nat.le_of_ble_eq_true rfl)⟩) [1, 2] [0, 3, 4, 5, 6, 7, 8] rfl rfl rfl rfl (by decide) 1 rfl rfl rfl rfl hl.1 rfl (Nat.le_of_ble_eq_true rfl) dX1_fire_42 ⟨(Nat.le_of_ble_eq_true rfl), (Nat.le_of_ble_eq_true rfl)⟩ (fun v_3 u_3 H locs w_3 hP hD hS => ?_)
    have w_3 : v_3 = none := w_3
    subst w_3
    have hP : va_P D vwCl [(p_, .inr (1, [.ref rq, .ref rf, .ref qc, .int (qa ||| ((nI 1) <<< ((hs r) &&& 31)))])), (rq, .inr (2, [.ref qq, .int (nI (qn + 1))])), (qq, .inl (cI, 16, .inl (upd qf qn (hs r)))), (rf, .inr (2, [.ref qr, .int (nI (fn + 1))])), (qr, .inl (cI, 24, .inl (upd ff fn (nI r)))), (qc, .inl (cI, 24, .inl ct)), (b, .inr (4, [.ref qh, .ref qb, .int (nI n), .int as_])), (qh, .inl (cI, 24, .inl hs)), (qb, .inl (cI, 24, .inl bs))] H := hP.sub [0, 7, 8, 1, 2, 3, 4, 5, 6] rfl
    have hD : va_D A [(p_, .inr (1, [.ref rq, .ref rf, .ref qc, .int (qa ||| ((nI 1) <<< ((hs r) &&& 31)))])), (rq, .inr (2, [.ref qq, .int (nI (qn + 1))])), (qq, .inl (cI, 16, .inl (upd qf qn (hs r)))), (rf, .inr (2, [.ref qr, .int (nI (fn + 1))])), (qr, .inl (cI, 24, .inl (upd ff fn (nI r)))), (qc, .inl (cI, 24, .inl ct)), (b, .inr (4, [.ref qh, .ref qb, .int (nI n), .int as_])), (qh, .inl (cI, 24, .inl hs)), (qb, .inl (cI, 24, .inl bs))] := hD.sub [0, 7, 8, 1, 2, 3, 4, 5, 6] rfl rfl
    refine W.eq (g2 := F0 m 45 ls []) rfl ?_
    exact hret (upd qf qn (hs r), qn + 1, upd ff fn (nI r), fn + 1, qa ||| (nI 1 <<< (hs r &&& 31))) _ _ _ _ (⟨rfl, prR_no hR hh c_2, prR_nq hR hh ho c_2, prR_nf hR ho⟩) (hP) (hD) hS dX1_fire_45
set_option maxHeartbeats 4000000 in
set_option maxRecDepth 100000 in
theorem k_X1_fireFacts (l : Launch) (D : va_G) (cI cB : ClassId) (p_ : Nat) (rq : Nat) (qq : Nat) (rf : Nat) (qr : Nat) (qc : Nat) (qf : Nat → Int32) (qn : Nat) (ff : Nat → Int32) (fn : Nat) (ct : Nat → Int32) (qa : Int32) (b : Nat) (qh : Nat) (qb : Nat) (hs : Nat → Int32) (bs : Nat → Int32) (n : Nat) (as_ : Int32) (hn : n ≤ 24) (hH : ∀ j, j < n → ∃ a, a < 16 ∧ hs j = nI a) (hR : prR ([], [], fun _ => 0) qf qn ff fn qa) (hok : okA hs bs n) (sz : Nat) : Wr l yX1_fireFacts wsX1_fireFacts ({ frames := 3, cells := 0, slots := 0, locals := 65 }) D cI cB [.ref p_, .ref b] [(p_, .inr (1, [.ref rq, .ref rf, .ref qc, .int qa])), (rq, .inr (2, [.ref qq, .int (nI qn)])), (qq, .inl (cI, 16, .inl qf)), (rf, .inr (2, [.ref qr, .int (nI fn)])), (qr, .inl (cI, 24, .inl ff)), (qc, .inl (cI, 24, .inl ct)), (b, .inr (4, [.ref qh, .ref qb, .int (nI n), .int as_])), (qh, .inl (cI, 24, .inl hs)), (qb, .inl (cI, 24, .inl bs))] sz (S := (Nat → Int32) × Nat × (Nat → Int32) × Nat × (Nat → Int32) × Int32) (fun v u => v = none ∧ (prR (factP hs bs n) u.1 u.2.1 u.2.2.1 u.2.2.2.1 u.2.2.2.2.2 ∧ (∀ j, j < n → u.2.2.2.2.1 j = (factP hs bs n).2.2 j) ∧ u.2.1 ≤ 16 ∧ u.2.2.2.1 ≤ 24)) (fun u => [(p_, .inr (1, [.ref rq, .ref rf, .ref qc, .int u.2.2.2.2.2])), (rq, .inr (2, [.ref qq, .int (nI u.2.1)])), (qq, .inl (cI, 16, .inl u.1)), (rf, .inr (2, [.ref qr, .int (nI u.2.2.2.1)])), (qr, .inl (cI, 24, .inl u.2.2.1)), (qc, .inl (cI, 24, .inl u.2.2.2.2.1)), (b, .inr (4, [.ref qh, .ref qb, .int (nI n), .int as_])), (qh, .inl (cI, 24, .inl hs)), (qb, .inl (cI, 24, .inl bs))]) 0 0 := by
  refine ef_startV (cc := cX1_fireFacts) (maxL := 3) (by decide) rfl (Nat.le_of_ble_eq_true rfl) ?_
  intro p e s m args below meth c Q A hx hb hml hown hts hP hG hD hA hin hret ls hl
  have hown : s.vm.findClass RX1 = some m.cls := hown
  have hl : lv_has ls 3 [(0, .ref p_), (1, .ref b)] := hl
  have hS : va_S A s.heap s.heap [] := va_S.rf
  have hqn : qn ≤ 16 := by rw [← prR_q hR]; decide
  have hfn : fn ≤ 24 := by rw [← prR_f hR]; decide
  refine lv_iconst (v := nI 0) hx hb dX1_fireFacts_0 (by decide) ?_
  refine lv_istore_n (lv' := [(2, .int (nI 0)), (0, .ref p_), (1, .ref b)]) hx hb dX1_fireFacts_1 rfl hl (by decide) rfl (fun ls hl => ?_)
  have lp_2_1 : ∀ (fu_2 : Nat) (r : Nat) (qf1 : Nat → Int32) (qn1 : Nat) (ff1 : Nat → Int32) (fn1 : Nat) (ct1 : Nat → Int32) (qa1 : Int32) (hr : r ≤ n) (hR1 : prR (factP hs bs r) qf1 qn1 ff1 fn1 qa1) (hc1 : ∀ j, j < r → ct1 j = (factP hs bs r).2.2 j) (hqn1 : qn1 ≤ 16) (hfn1 : fn1 ≤ 24) (hfu_2 : n - r < fu_2) (H : Heap) (locs : List Loc) (hP : va_P D vwCl [(p_, .inr (1, [.ref rq, .ref rf, .ref qc, .int qa1])), (rq, .inr (2, [.ref qq, .int (nI qn1)])), (qq, .inl (cI, 16, .inl qf1)), (rf, .inr (2, [.ref qr, .int (nI fn1)])), (qr, .inl (cI, 24, .inl ff1)), (qc, .inl (cI, 24, .inl ct1)), (b, .inr (4, [.ref qh, .ref qb, .int (nI n), .int as_])), (qh, .inl (cI, 24, .inl hs)), (qb, .inl (cI, 24, .inl bs))] H) (hD : va_D A [(p_, .inr (1, [.ref rq, .ref rf, .ref qc, .int qa1])), (rq, .inr (2, [.ref qq, .int (nI qn1)])), (qq, .inl (cI, 16, .inl qf1)), (rf, .inr (2, [.ref qr, .int (nI fn1)])), (qr, .inl (cI, 24, .inl ff1)), (qc, .inl (cI, 24, .inl ct1)), (b, .inr (4, [.ref qh, .ref qb, .int (nI n), .int as_])), (qh, .inl (cI, 24, .inl hs)), (qb, .inl (cI, 24, .inl bs))]) (hS : va_S A s.heap H locs) (ls : Array Slot) (hl : lv_has ls 3 [(0, .ref p_), (1, .ref b), (2, .int (nI r))]), W p l e ({ frames := 3, cells := 0, slots := 0, locals := 65 }) s m args below meth c H locs 0 0 Q (F0 m 2 ls []) := by
    intro fu_2
    induction fu_2 with
    | zero => intro r qf1 qn1 ff1 fn1 ct1 qa1 hr hR1 hc1 hqn1 hfn1 hfu; exact absurd hfu (Nat.not_lt_zero _)
    | succ fu_2 ih_2 =>
      intro r qf1 qn1 ff1 fn1 ct1 qa1 hr hR1 hc1 hqn1 hfn1 hfu_2 H locs hP hD hS ls hl
      refine lv_iload_n hx hb dX1_fireFacts_2 rfl (lv_at hl 2 rfl) ?_
      refine lv_bipush (v := nI 24) hx hb dX1_fireFacts_3 (by decide) ?_
      refine lv_icmp_ge (tgt := 51) hx hb dX1_fireFacts_5 (by decide) (fun c_2 => ?_) (fun c_2 => ?_)
      · skip
        have c_2 : 24 ≤ r := (nI_leI (by omega) (by omega)).mp (show nI 24 ≤ nI r from c_2)
        exact hret (qf1, qn1, ff1, fn1, ct1, qa1) _ _ _ _ (⟨rfl, by rw [show n = r from by omega]; exact hR1, by rw [show n = r from by omega]; exact hc1, hqn1, hfn1⟩) (hP) (hD) hS dX1_fireFacts_51
      · skip
        have c_2 : ¬ (24 ≤ r) := fun h9 => (show ¬ (nI 24 ≤ nI r) from c_2) ((nI_leI (by omega) (by omega)).mpr h9)
        refine lv_iload_n hx hb dX1_fireFacts_8 rfl (lv_at hl 2 rfl) ?_
        refine lv_aload_n hx hb dX1_fireFacts_9 rfl (lv_at hl 1 rfl) ?_
        refine pu_V (As := []) (rest := [.int (nI r)]) ⟨hx, hb, hml, hown, hts⟩ hG hP (k_X4_size l D cI cB b qh qb hs bs n as_ (by omega)) (cwV 0 hts gX1_fireFacts_X4_size rfl rfl rfl (by decide +kernel) ⟨(Nat.le_of_ble_eq_true rfl), (Nat.le_of_ble_eq_true rfl)⟩) [6, 7, 8] rfl 6 rfl rfl rfl rfl hl.1 rfl (Nat.le_of_ble_eq_true rfl) dX1_fireFacts_10 ⟨Nat.zero_le _, Nat.zero_le _⟩ ?_
        refine lv_icmp_ge (tgt := 51) hx hb dX1_fireFacts_13 (by decide) (fun c_3 => ?_) (fun c_3 => ?_)
        · skip
          have c_3 : n ≤ r := (nI_leI (by omega) (by omega)).mp (show nI n ≤ nI r from c_3)
          exact hret (qf1, qn1, ff1, fn1, ct1, qa1) _ _ _ _ (⟨rfl, by rw [show n = r from by omega]; exact hR1, by rw [show n = r from by omega]; exact hc1, hqn1, hfn1⟩) (hP) (hD) hS dX1_fireFacts_51
        · skip
          have c_3 : ¬ (n ≤ r) := fun h9 => (show ¬ (nI n ≤ nI r) from c_3) ((nI_leI (by omega) (by omega)).mpr h9)
          refine lv_aload_n hx hb dX1_fireFacts_16 rfl (lv_at hl 0 rfl) ?_
          refine va_get (D := D) (ci := 1) (v := .ref qc) (C := RX1) (T := TX1) (N := 4) hx hb hts ilX1_fireFacts_1 hown hG.1 hP 0 rfl rfl 2 (by decide) (hts (.fieldLink RX1 23 "HornEngine$Propagation" "counters" "[I") (List.mem_of_getElem? (i := 1) rfl)) (fun _ h9 => h9) rfl dX1_fireFacts_17 ?_
          refine lv_iload_n hx hb dX1_fireFacts_20 rfl (lv_at hl 2 rfl) ?_
          refine lv_aload_n hx hb dX1_fireFacts_21 rfl (lv_at hl 1 rfl) ?_
          refine lv_iload_n hx hb dX1_fireFacts_22 rfl (lv_at hl 2 rfl) ?_
          refine pu_V (As := [.int (nI r)]) (rest := [.int (nI r), .ref qc]) ⟨hx, hb, hml, hown, hts⟩ hG hP (k_X4_bodyOf l D cI cB b qh qb hs bs n as_ r (by omega) (by omega)) (cwV 1 hts gX1_fireFacts_X4_bodyOf rfl rfl rfl (by decide +kernel) ⟨(Nat.le_of_ble_eq_true rfl), (Nat.le_of_ble_eq_true rfl)⟩) [6, 7, 8] rfl 6 rfl rfl rfl rfl hl.1 rfl (Nat.le_of_ble_eq_true rfl) dX1_fireFacts_23 ⟨Nat.zero_le _, Nat.zero_le _⟩ ?_
          refine pu_S (As := [.int (bs r)]) (rest := [.int (nI r), .ref qc]) ⟨hx, hb, hml, hown, hts⟩ hG hP (k_J6_bitCount_0f7a4 l D cI cB (bs r) ) (va_cwS 1 hts gX1_fireFacts_J6_bitCount_0f7a4 rfl rfl rfl (by decide +kernel) ⟨(Nat.le_of_ble_eq_true rfl), (Nat.le_of_ble_eq_true rfl)⟩) [] rfl rfl hl.1 rfl (Nat.le_of_ble_eq_true rfl) dX1_fireFacts_26 ⟨Nat.zero_le _, Nat.zero_le _⟩ ?_
          refine ia_st hx hb hG hP hD hS 5 rfl r rfl (by omega) (by decide) dX1_fireFacts_29 (fun H locs hP hD hS => ?_)
          have hP : va_P D vwCl [(p_, .inr (1, [.ref rq, .ref rf, .ref qc, .int qa1])), (rq, .inr (2, [.ref qq, .int (nI qn1)])), (qq, .inl (cI, 16, .inl qf1)), (rf, .inr (2, [.ref qr, .int (nI fn1)])), (qr, .inl (cI, 24, .inl ff1)), (qc, .inl (cI, 24, .inl (upd ct1 r (bc (bs r))))), (b, .inr (4, [.ref qh, .ref qb, .int (nI n), .int as_])), (qh, .inl (cI, 24, .inl hs)), (qb, .inl (cI, 24, .inl bs))] H := hP
          have hD : va_D A [(p_, .inr (1, [.ref rq, .ref rf, .ref qc, .int qa1])), (rq, .inr (2, [.ref qq, .int (nI qn1)])), (qq, .inl (cI, 16, .inl qf1)), (rf, .inr (2, [.ref qr, .int (nI fn1)])), (qr, .inl (cI, 24, .inl ff1)), (qc, .inl (cI, 24, .inl (upd ct1 r (bc (bs r))))), (b, .inr (4, [.ref qh, .ref qb, .int (nI n), .int as_])), (qh, .inl (cI, 24, .inl hs)), (qb, .inl (cI, 24, .inl bs))] := hD
          refine lv_aload_n hx hb dX1_fireFacts_30 rfl (lv_at hl 0 rfl) ?_
          refine va_get (D := D) (ci := 1) (v := .ref qc) (C := RX1) (T := TX1) (N := 4) hx hb hts ilX1_fireFacts_1 hown hG.1 hP 0 rfl rfl 2 (by decide) (hts (.fieldLink RX1 23 "HornEngine$Propagation" "counters" "[I") (List.mem_of_getElem? (i := 1) rfl)) (fun _ h9 => h9) rfl dX1_fireFacts_31 ?_
          refine lv_iload_n hx hb dX1_fireFacts_34 rfl (lv_at hl 2 rfl) ?_
          refine ia_ld hx hb hG hP 5 rfl r rfl (by omega) (by decide) dX1_fireFacts_35 ?_
          refine lv_if_ne (tgt := 45) hx hb dX1_fireFacts_36 (by decide) (fun c_4 => ?_) (fun c_4 => ?_)
          · skip
            have hz : ¬ bc (bs r) = 0 := fun q => c_4 (by simp only [upd, reduceIte]; exact q)
            refine lv_iinc (v := nI (r + 1)) (lv' := [(2, .int (nI (r + 1))), (0, .ref p_), (1, .ref b)]) hx hb dX1_fireFacts_45 hl (k := 2) rfl (nI_s1 r) (by decide) rfl (fun ls hl => ?_)
            refine lv_goto (tgt := 2) hx hb dX1_fireFacts_48 (by decide) ?_
            exact ih_2 (r + 1) qf1 qn1 ff1 fn1 (upd ct1 r (bc (bs r))) qa1 (by omega) (by rw [factP, if_neg hz]; exact hR1) (fact_c hc1) (by omega) (by omega) (by omega) _ _ hP hD hS ls (lv_sub hl [1, 2, 0] rfl)
          · skip
            have hz : bc (bs r) = 0 := by simpa only [upd, reduceIte] using c_4
            refine lv_aload_n hx hb dX1_fireFacts_39 rfl (lv_at hl 0 rfl) ?_
            refine lv_aload_n hx hb dX1_fireFacts_40 rfl (lv_at hl 1 rfl) ?_
            refine lv_iload_n hx hb dX1_fireFacts_41 rfl (lv_at hl 2 rfl) ?_
            refine ef_V (As := [.ref b, .int (nI r)]) (rest := []) (wr := []) ⟨hx, hb, hml, hown, hts⟩ hG hP hD hS hA (k_X1_fire l D cI cB p_ rq qq rf qr qc qf1 qn1 ff1 fn1 (upd ct1 r (bc (bs r))) qa1 b qh qb hs bs n as_ r (setC (factP hs bs r) r (bc (bs r))) (by omega) (by omega) (hH r (by omega)) (prR_set hR1 r (bc (bs r))) (by omega) (hok r (by omega) hz) _) (cwV 2 hts gX1_fireFacts_X1_fire rfl rfl rfl (by decide +kernel) ⟨(Nat.le_of_ble_eq_true rfl), (Nat.le_of_ble_eq_true rfl)⟩) [0, 1, 2, 3, 4, 5, 6, 7, 8] [] rfl rfl rfl rfl (by decide) 0 rfl rfl rfl rfl hl.1 rfl (Nat.le_of_ble_eq_true rfl) dX1_fireFacts_42 ⟨(Nat.le_of_ble_eq_true rfl), (Nat.le_of_ble_eq_true rfl)⟩ (fun v_5 u_5 H locs w_5 hP hD hS => ?_)
            obtain ⟨qf9_5, qn9_5, ff9_5, fn9_5, qa9_5⟩ := u_5
            obtain ⟨e_5, w_5⟩ := w_5
            have w_5 : prR (fireP hs r (setC (factP hs bs r) r (bc (bs r)))) qf9_5 qn9_5 ff9_5 fn9_5 qa9_5 ∧ qn9_5 ≤ 16 ∧ fn9_5 ≤ 24 := w_5
            have e_5 : v_5 = none := e_5
            subst e_5
            have hP : va_P D vwCl [(p_, .inr (1, [.ref rq, .ref rf, .ref qc, .int qa9_5])), (rq, .inr (2, [.ref qq, .int (nI qn9_5)])), (qq, .inl (cI, 16, .inl qf9_5)), (rf, .inr (2, [.ref qr, .int (nI fn9_5)])), (qr, .inl (cI, 24, .inl ff9_5)), (qc, .inl (cI, 24, .inl (upd ct1 r (bc (bs r))))), (b, .inr (4, [.ref qh, .ref qb, .int (nI n), .int as_])), (qh, .inl (cI, 24, .inl hs)), (qb, .inl (cI, 24, .inl bs))] H := hP.sub [0, 1, 2, 3, 4, 5, 6, 7, 8] rfl
            have hD : va_D A [(p_, .inr (1, [.ref rq, .ref rf, .ref qc, .int qa9_5])), (rq, .inr (2, [.ref qq, .int (nI qn9_5)])), (qq, .inl (cI, 16, .inl qf9_5)), (rf, .inr (2, [.ref qr, .int (nI fn9_5)])), (qr, .inl (cI, 24, .inl ff9_5)), (qc, .inl (cI, 24, .inl (upd ct1 r (bc (bs r))))), (b, .inr (4, [.ref qh, .ref qb, .int (nI n), .int as_])), (qh, .inl (cI, 24, .inl hs)), (qb, .inl (cI, 24, .inl bs))] := hD.sub [0, 1, 2, 3, 4, 5, 6, 7, 8] rfl rfl
            refine W.eq (g2 := F0 m 45 ls []) rfl ?_
            have hR2 := w_5.1
            have hq2 := w_5.2.1
            have hf2 := w_5.2.2
            refine lv_iinc (v := nI (r + 1)) (lv' := [(2, .int (nI (r + 1))), (0, .ref p_), (1, .ref b)]) hx hb dX1_fireFacts_45 hl (k := 2) rfl (nI_s1 r) (by decide) rfl (fun ls hl => ?_)
            refine lv_goto (tgt := 2) hx hb dX1_fireFacts_48 (by decide) ?_
            exact ih_2 (r + 1) qf9_5 qn9_5 ff9_5 fn9_5 (upd ct1 r (bc (bs r))) qa9_5 (by omega) (by rw [factP, if_pos hz]; exact hR2) (fact_c hc1) (by omega) (by omega) (by omega) _ _ hP hD hS ls (lv_sub hl [1, 2, 0] rfl)
  exact lp_2_1 (n - 0 + 1) 0 qf qn ff fn ct qa (by omega) hR (fun j hj => absurd hj (Nat.not_lt_zero j)) (by omega) (by omega) (Nat.lt_succ_self _) _ _ hP hD hS ls (lv_sub hl [1, 2, 0] rfl)
set_option maxHeartbeats 4000000 in
set_option maxRecDepth 100000 in
theorem k_X1_countDown (l : Launch) (D : va_G) (cI cB : ClassId) (p_ : Nat) (rq : Nat) (qq : Nat) (rf : Nat) (qr : Nat) (qc : Nat) (qf : Nat → Int32) (qn : Nat) (ff : Nat → Int32) (fn : Nat) (ct : Nat → Int32) (qa : Int32) (b : Nat) (qh : Nat) (qb : Nat) (hs : Nat → Int32) (bs : Nat → Int32) (n : Nat) (as_ : Int32) (x : Int32) (s_ : PS) (hn : n ≤ 24) (hH : ∀ j, j < n → ∃ a, a < 16 ∧ hs j = nI a) (hR : prR s_ qf qn ff fn qa) (hc : ∀ j, j < n → ct j = s_.2.2 j) (hqn : qn ≤ 16) (hfn : fn ≤ 24) (hok : okC hs bs n x s_) (sz : Nat) : Wr l yX1_countDown wsX1_countDown ({ frames := 3, cells := 0, slots := 0, locals := 65 }) D cI cB [.ref p_, .ref b, .int x] [(p_, .inr (1, [.ref rq, .ref rf, .ref qc, .int qa])), (rq, .inr (2, [.ref qq, .int (nI qn)])), (qq, .inl (cI, 16, .inl qf)), (rf, .inr (2, [.ref qr, .int (nI fn)])), (qr, .inl (cI, 24, .inl ff)), (qc, .inl (cI, 24, .inl ct)), (b, .inr (4, [.ref qh, .ref qb, .int (nI n), .int as_])), (qh, .inl (cI, 24, .inl hs)), (qb, .inl (cI, 24, .inl bs))] sz (S := (Nat → Int32) × Nat × (Nat → Int32) × Nat × (Nat → Int32) × Int32) (fun v u => v = none ∧ (prR (cdP hs bs x s_ n) u.1 u.2.1 u.2.2.1 u.2.2.2.1 u.2.2.2.2.2 ∧ (∀ j, j < n → u.2.2.2.2.1 j = (cdP hs bs x s_ n).2.2 j) ∧ u.2.1 ≤ 16 ∧ u.2.2.2.1 ≤ 24)) (fun u => [(p_, .inr (1, [.ref rq, .ref rf, .ref qc, .int u.2.2.2.2.2])), (rq, .inr (2, [.ref qq, .int (nI u.2.1)])), (qq, .inl (cI, 16, .inl u.1)), (rf, .inr (2, [.ref qr, .int (nI u.2.2.2.1)])), (qr, .inl (cI, 24, .inl u.2.2.1)), (qc, .inl (cI, 24, .inl u.2.2.2.2.1)), (b, .inr (4, [.ref qh, .ref qb, .int (nI n), .int as_])), (qh, .inl (cI, 24, .inl hs)), (qb, .inl (cI, 24, .inl bs))]) 0 0 := by
  refine ef_startV (cc := cX1_countDown) (maxL := 4) (by decide) rfl (Nat.le_of_ble_eq_true rfl) ?_
  intro p e s m args below meth c Q A hx hb hml hown hts hP hG hD hA hin hret ls hl
  have hown : s.vm.findClass RX1 = some m.cls := hown
  have hl : lv_has ls 4 [(0, .ref p_), (1, .ref b), (2, .int x)] := hl
  have hS : va_S A s.heap s.heap [] := va_S.rf
  refine lv_iconst (v := nI 0) hx hb dX1_countDown_0 (by decide) ?_
  refine lv_istore_n (lv' := [(3, .int (nI 0)), (0, .ref p_), (1, .ref b), (2, .int x)]) hx hb dX1_countDown_1 rfl hl (by decide) rfl (fun ls hl => ?_)
  have lp_2_1 : ∀ (fu_2 : Nat) (r : Nat) (qf1 : Nat → Int32) (qn1 : Nat) (ff1 : Nat → Int32) (fn1 : Nat) (ct1 : Nat → Int32) (qa1 : Int32) (hr : r ≤ n) (hR1 : prR (cdP hs bs x s_ r) qf1 qn1 ff1 fn1 qa1) (hc1 : ∀ j, j < n → ct1 j = (cdP hs bs x s_ r).2.2 j) (hqn1 : qn1 ≤ 16) (hfn1 : fn1 ≤ 24) (hfu_2 : n - r < fu_2) (H : Heap) (locs : List Loc) (hP : va_P D vwCl [(p_, .inr (1, [.ref rq, .ref rf, .ref qc, .int qa1])), (rq, .inr (2, [.ref qq, .int (nI qn1)])), (qq, .inl (cI, 16, .inl qf1)), (rf, .inr (2, [.ref qr, .int (nI fn1)])), (qr, .inl (cI, 24, .inl ff1)), (qc, .inl (cI, 24, .inl ct1)), (b, .inr (4, [.ref qh, .ref qb, .int (nI n), .int as_])), (qh, .inl (cI, 24, .inl hs)), (qb, .inl (cI, 24, .inl bs))] H) (hD : va_D A [(p_, .inr (1, [.ref rq, .ref rf, .ref qc, .int qa1])), (rq, .inr (2, [.ref qq, .int (nI qn1)])), (qq, .inl (cI, 16, .inl qf1)), (rf, .inr (2, [.ref qr, .int (nI fn1)])), (qr, .inl (cI, 24, .inl ff1)), (qc, .inl (cI, 24, .inl ct1)), (b, .inr (4, [.ref qh, .ref qb, .int (nI n), .int as_])), (qh, .inl (cI, 24, .inl hs)), (qb, .inl (cI, 24, .inl bs))]) (hS : va_S A s.heap H locs) (ls : Array Slot) (hl : lv_has ls 4 [(0, .ref p_), (1, .ref b), (2, .int x), (3, .int (nI r))]), W p l e ({ frames := 3, cells := 0, slots := 0, locals := 65 }) s m args below meth c H locs 0 0 Q (F0 m 2 ls []) := by
    intro fu_2
    induction fu_2 with
    | zero => intro r qf1 qn1 ff1 fn1 ct1 qa1 hr hR1 hc1 hqn1 hfn1 hfu; exact absurd hfu (Nat.not_lt_zero _)
    | succ fu_2 ih_2 =>
      intro r qf1 qn1 ff1 fn1 ct1 qa1 hr hR1 hc1 hqn1 hfn1 hfu_2 H locs hP hD hS ls hl
      refine lv_iload_n hx hb dX1_countDown_2 rfl (lv_at hl 3 rfl) ?_
      refine lv_bipush (v := nI 24) hx hb dX1_countDown_3 (by decide) ?_
      refine lv_icmp_ge (tgt := 59) hx hb dX1_countDown_5 (by decide) (fun c_2 => ?_) (fun c_2 => ?_)
      · skip
        have c_2 : 24 ≤ r := (nI_leI (by omega) (by omega)).mp (show nI 24 ≤ nI r from c_2)
        exact hret (qf1, qn1, ff1, fn1, ct1, qa1) _ _ _ _ (⟨rfl, by rw [show n = r from by omega]; exact hR1, by rw [show n = r from by omega]; rw [show n = r from by omega] at hc1; exact hc1, hqn1, hfn1⟩) (hP) (hD) hS dX1_countDown_59
      · skip
        have c_2 : ¬ (24 ≤ r) := fun h9 => (show ¬ (nI 24 ≤ nI r) from c_2) ((nI_leI (by omega) (by omega)).mpr h9)
        refine lv_iload_n hx hb dX1_countDown_8 rfl (lv_at hl 3 rfl) ?_
        refine lv_aload_n hx hb dX1_countDown_9 rfl (lv_at hl 1 rfl) ?_
        refine pu_V (As := []) (rest := [.int (nI r)]) ⟨hx, hb, hml, hown, hts⟩ hG hP (k_X4_size l D cI cB b qh qb hs bs n as_ (by omega)) (cwV 0 hts gX1_countDown_X4_size rfl rfl rfl (by decide +kernel) ⟨(Nat.le_of_ble_eq_true rfl), (Nat.le_of_ble_eq_true rfl)⟩) [6, 7, 8] rfl 6 rfl rfl rfl rfl hl.1 rfl (Nat.le_of_ble_eq_true rfl) dX1_countDown_10 ⟨Nat.zero_le _, Nat.zero_le _⟩ ?_
        refine lv_icmp_ge (tgt := 59) hx hb dX1_countDown_13 (by decide) (fun c_3 => ?_) (fun c_3 => ?_)
        · skip
          have c_3 : n ≤ r := (nI_leI (by omega) (by omega)).mp (show nI n ≤ nI r from c_3)
          exact hret (qf1, qn1, ff1, fn1, ct1, qa1) _ _ _ _ (⟨rfl, by rw [show n = r from by omega]; exact hR1, by rw [show n = r from by omega]; rw [show n = r from by omega] at hc1; exact hc1, hqn1, hfn1⟩) (hP) (hD) hS dX1_countDown_59
        · skip
          have c_3 : ¬ (n ≤ r) := fun h9 => (show ¬ (nI n ≤ nI r) from c_3) ((nI_leI (by omega) (by omega)).mpr h9)
          refine lv_aload_n hx hb dX1_countDown_16 rfl (lv_at hl 1 rfl) ?_
          refine lv_iload_n hx hb dX1_countDown_17 rfl (lv_at hl 3 rfl) ?_
          refine pu_V (As := [.int (nI r)]) (rest := []) ⟨hx, hb, hml, hown, hts⟩ hG hP (k_X4_bodyOf l D cI cB b qh qb hs bs n as_ r (by omega) (by omega)) (cwV 1 hts gX1_countDown_X4_bodyOf rfl rfl rfl (by decide +kernel) ⟨(Nat.le_of_ble_eq_true rfl), (Nat.le_of_ble_eq_true rfl)⟩) [6, 7, 8] rfl 6 rfl rfl rfl rfl hl.1 rfl (Nat.le_of_ble_eq_true rfl) dX1_countDown_18 ⟨Nat.zero_le _, Nat.zero_le _⟩ ?_
          refine lv_iload_n hx hb dX1_countDown_21 rfl (lv_at hl 2 rfl) ?_
          refine pu_SN (As := [.int (bs r), .int x]) (rest := []) ⟨hx, hb, hml, hown, hts⟩ hG hP (k_X5_contains l D cI cB (bs r) x ) (va_cnB 2 hts gX1_countDown_X5_contains_n64 rfl rfl rfl (hG.2 _ (List.mem_of_getElem? (i := 7) rfl)) (hts (.initialized RX5) (List.mem_of_getElem? (i := 18) rfl)) (by decide +kernel) ⟨(Nat.le_of_ble_eq_true rfl), (Nat.le_of_ble_eq_true rfl)⟩) (hts (.static yX5_contains) (List.mem_of_getElem? (i := 17) rfl)) [] rfl rfl hl.1 rfl (Nat.le_of_ble_eq_true rfl) dX1_countDown_22 ⟨Nat.zero_le _, Nat.zero_le _⟩ ?_
          refine lv_if_eq (tgt := 53) hx hb dX1_countDown_25 (by decide) (fun c_4 => ?_) (fun c_4 => ?_)
          · skip
            have c_4 : (has (bs r) x) = false := bI_f.mp c_4
            have hca : has (bs r) x = false := c_4
            refine lv_iinc (v := nI (r + 1)) (lv' := [(3, .int (nI (r + 1))), (0, .ref p_), (1, .ref b), (2, .int x)]) hx hb dX1_countDown_53 hl (k := 3) rfl (nI_s1 r) (by decide) rfl (fun ls hl => ?_)
            refine lv_goto (tgt := 2) hx hb dX1_countDown_56 (by decide) ?_
            exact ih_2 (r + 1) qf1 qn1 ff1 fn1 ct1 qa1 (by omega) (by rw [cdP, if_neg (by rw [hca]; decide)]; exact hR1) (by rw [cdP, if_neg (by rw [hca]; decide)]; exact hc1) (by omega) (by omega) (by omega) _ _ hP hD hS ls (lv_sub hl [1, 2, 3, 0] rfl)
          · skip
            have c_4 : (has (bs r) x) = true := bI_t.mp c_4
            have hca : has (bs r) x = true := c_4
            refine lv_aload_n hx hb dX1_countDown_28 rfl (lv_at hl 0 rfl) ?_
            refine va_get (D := D) (ci := 1) (v := .ref qc) (C := RX1) (T := TX1) (N := 4) hx hb hts ilX1_countDown_1 hown hG.1 hP 0 rfl rfl 2 (by decide) (hts (.fieldLink RX1 23 "HornEngine$Propagation" "counters" "[I") (List.mem_of_getElem? (i := 1) rfl)) (fun _ h9 => h9) rfl dX1_countDown_29 ?_
            refine lv_iload_n hx hb dX1_countDown_32 rfl (lv_at hl 3 rfl) ?_
            refine lv_dup2_11 hx hb dX1_countDown_33 rfl rfl ?_
            refine ia_ld hx hb hG hP 5 rfl r rfl (by omega) (by decide) dX1_countDown_34 ?_
            refine lv_eqi (hc1 r (by omega)) ?_
            refine lv_iconst (v := nI 1) hx hb dX1_countDown_35 (by decide) ?_
            refine lv_isub hx hb dX1_countDown_36 ?_
            refine ia_st hx hb hG hP hD hS 5 rfl r rfl (by omega) (by decide) dX1_countDown_37 (fun H locs hP hD hS => ?_)
            have hP : va_P D vwCl [(p_, .inr (1, [.ref rq, .ref rf, .ref qc, .int qa1])), (rq, .inr (2, [.ref qq, .int (nI qn1)])), (qq, .inl (cI, 16, .inl qf1)), (rf, .inr (2, [.ref qr, .int (nI fn1)])), (qr, .inl (cI, 24, .inl ff1)), (qc, .inl (cI, 24, .inl (upd ct1 r (((cdP hs bs x s_ r).2.2 r) - (nI 1))))), (b, .inr (4, [.ref qh, .ref qb, .int (nI n), .int as_])), (qh, .inl (cI, 24, .inl hs)), (qb, .inl (cI, 24, .inl bs))] H := hP
            have hD : va_D A [(p_, .inr (1, [.ref rq, .ref rf, .ref qc, .int qa1])), (rq, .inr (2, [.ref qq, .int (nI qn1)])), (qq, .inl (cI, 16, .inl qf1)), (rf, .inr (2, [.ref qr, .int (nI fn1)])), (qr, .inl (cI, 24, .inl ff1)), (qc, .inl (cI, 24, .inl (upd ct1 r (((cdP hs bs x s_ r).2.2 r) - (nI 1))))), (b, .inr (4, [.ref qh, .ref qb, .int (nI n), .int as_])), (qh, .inl (cI, 24, .inl hs)), (qb, .inl (cI, 24, .inl bs))] := hD
            refine lv_aload_n hx hb dX1_countDown_38 rfl (lv_at hl 0 rfl) ?_
            refine va_get (D := D) (ci := 1) (v := .ref qc) (C := RX1) (T := TX1) (N := 4) hx hb hts ilX1_countDown_1 hown hG.1 hP 0 rfl rfl 2 (by decide) (hts (.fieldLink RX1 23 "HornEngine$Propagation" "counters" "[I") (List.mem_of_getElem? (i := 1) rfl)) (fun _ h9 => h9) rfl dX1_countDown_39 ?_
            refine lv_iload_n hx hb dX1_countDown_42 rfl (lv_at hl 3 rfl) ?_
            refine ia_ld hx hb hG hP 5 rfl r rfl (by omega) (by decide) dX1_countDown_43 ?_
            refine lv_if_ne (tgt := 53) hx hb dX1_countDown_44 (by decide) (fun c_5 => ?_) (fun c_5 => ?_)
            · skip
              have hz : ¬ (cdP hs bs x s_ r).2.2 r - nI 1 = 0 := fun q => c_5 (by simp only [upd, reduceIte]; exact q)
              refine lv_iinc (v := nI (r + 1)) (lv' := [(3, .int (nI (r + 1))), (0, .ref p_), (1, .ref b), (2, .int x)]) hx hb dX1_countDown_53 hl (k := 3) rfl (nI_s1 r) (by decide) rfl (fun ls hl => ?_)
              refine lv_goto (tgt := 2) hx hb dX1_countDown_56 (by decide) ?_
              exact ih_2 (r + 1) qf1 qn1 ff1 fn1 (upd ct1 r (((cdP hs bs x s_ r).2.2 r) - (nI 1))) qa1 (by omega) (by rw [cdP, if_pos hca, if_neg hz]; exact hR1) (cd_c hc1 hca) (by omega) (by omega) (by omega) _ _ hP hD hS ls (lv_sub hl [1, 2, 3, 0] rfl)
            · skip
              have hz : (cdP hs bs x s_ r).2.2 r - nI 1 = 0 := by simpa only [upd, reduceIte] using c_5
              refine lv_aload_n hx hb dX1_countDown_47 rfl (lv_at hl 0 rfl) ?_
              refine lv_aload_n hx hb dX1_countDown_48 rfl (lv_at hl 1 rfl) ?_
              refine lv_iload_n hx hb dX1_countDown_49 rfl (lv_at hl 3 rfl) ?_
              refine ef_V (As := [.ref b, .int (nI r)]) (rest := []) (wr := []) ⟨hx, hb, hml, hown, hts⟩ hG hP hD hS hA (k_X1_fire l D cI cB p_ rq qq rf qr qc qf1 qn1 ff1 fn1 (upd ct1 r (((cdP hs bs x s_ r).2.2 r) - (nI 1))) qa1 b qh qb hs bs n as_ r (setC (cdP hs bs x s_ r) r ((cdP hs bs x s_ r).2.2 r - nI 1)) (by omega) (by omega) (hH r (by omega)) (prR_set hR1 r _) (by omega) (hok r (by omega) hca hz) _) (cwV 2 hts gX1_countDown_X1_fire rfl rfl rfl (by decide +kernel) ⟨(Nat.le_of_ble_eq_true rfl), (Nat.le_of_ble_eq_true rfl)⟩) [0, 1, 2, 3, 4, 5, 6, 7, 8] [] rfl rfl rfl rfl (by decide) 0 rfl rfl rfl rfl hl.1 rfl (Nat.le_of_ble_eq_true rfl) dX1_countDown_50 ⟨(Nat.le_of_ble_eq_true rfl), (Nat.le_of_ble_eq_true rfl)⟩ (fun v_6 u_6 H locs w_6 hP hD hS => ?_)
              obtain ⟨qf9_6, qn9_6, ff9_6, fn9_6, qa9_6⟩ := u_6
              obtain ⟨e_6, w_6⟩ := w_6
              have w_6 : prR (fireP hs r (setC (cdP hs bs x s_ r) r ((cdP hs bs x s_ r).2.2 r - nI 1))) qf9_6 qn9_6 ff9_6 fn9_6 qa9_6 ∧ qn9_6 ≤ 16 ∧ fn9_6 ≤ 24 := w_6
              have e_6 : v_6 = none := e_6
              subst e_6
              have hP : va_P D vwCl [(p_, .inr (1, [.ref rq, .ref rf, .ref qc, .int qa9_6])), (rq, .inr (2, [.ref qq, .int (nI qn9_6)])), (qq, .inl (cI, 16, .inl qf9_6)), (rf, .inr (2, [.ref qr, .int (nI fn9_6)])), (qr, .inl (cI, 24, .inl ff9_6)), (qc, .inl (cI, 24, .inl (upd ct1 r (((cdP hs bs x s_ r).2.2 r) - (nI 1))))), (b, .inr (4, [.ref qh, .ref qb, .int (nI n), .int as_])), (qh, .inl (cI, 24, .inl hs)), (qb, .inl (cI, 24, .inl bs))] H := hP.sub [0, 1, 2, 3, 4, 5, 6, 7, 8] rfl
              have hD : va_D A [(p_, .inr (1, [.ref rq, .ref rf, .ref qc, .int qa9_6])), (rq, .inr (2, [.ref qq, .int (nI qn9_6)])), (qq, .inl (cI, 16, .inl qf9_6)), (rf, .inr (2, [.ref qr, .int (nI fn9_6)])), (qr, .inl (cI, 24, .inl ff9_6)), (qc, .inl (cI, 24, .inl (upd ct1 r (((cdP hs bs x s_ r).2.2 r) - (nI 1))))), (b, .inr (4, [.ref qh, .ref qb, .int (nI n), .int as_])), (qh, .inl (cI, 24, .inl hs)), (qb, .inl (cI, 24, .inl bs))] := hD.sub [0, 1, 2, 3, 4, 5, 6, 7, 8] rfl rfl
              refine W.eq (g2 := F0 m 53 ls []) rfl ?_
              have hR2 := w_6.1
              have hq2 := w_6.2.1
              have hf2 := w_6.2.2
              refine lv_iinc (v := nI (r + 1)) (lv' := [(3, .int (nI (r + 1))), (0, .ref p_), (1, .ref b), (2, .int x)]) hx hb dX1_countDown_53 hl (k := 3) rfl (nI_s1 r) (by decide) rfl (fun ls hl => ?_)
              refine lv_goto (tgt := 2) hx hb dX1_countDown_56 (by decide) ?_
              exact ih_2 (r + 1) qf9_6 qn9_6 ff9_6 fn9_6 (upd ct1 r (((cdP hs bs x s_ r).2.2 r) - (nI 1))) qa9_6 (by omega) (by rw [cdP, if_pos hca, if_pos hz]; exact hR2) (cd_c hc1 hca) (by omega) (by omega) (by omega) _ _ hP hD hS ls (lv_sub hl [1, 2, 3, 0] rfl)
  exact lp_2_1 (n - 0 + 1) 0 qf qn ff fn ct qa (by omega) hR hc (by omega) (by omega) (Nat.lt_succ_self _) _ _ hP hD hS ls (lv_sub hl [1, 2, 3, 0] rfl)
set_option maxHeartbeats 4000000 in
set_option maxRecDepth 100000 in
theorem k_X1_run (l : Launch) (D : va_G) (cI cB : ClassId) (p_ : Nat) (rq : Nat) (qq : Nat) (rf : Nat) (qr : Nat) (qc : Nat) (qf : Nat → Int32) (qn : Nat) (ff : Nat → Int32) (fn : Nat) (ct : Nat → Int32) (qa : Int32) (b : Nat) (qh : Nat) (qb : Nat) (hs : Nat → Int32) (bs : Nat → Int32) (n : Nat) (as_ : Int32) (hn : n ≤ 24) (hH : ∀ j, j < n → ∃ a, a < 16 ∧ hs j = nI a) (hqn : qn ≤ 16) (hfn : fn ≤ 24) (hok : okR hs bs n) (sz : Nat) : Wr l yX1_run wsX1_run ({ frames := 4, cells := 0, slots := 0, locals := 88 }) D cI cB [.ref p_, .ref b] [(p_, .inr (1, [.ref rq, .ref rf, .ref qc, .int qa])), (rq, .inr (2, [.ref qq, .int (nI qn)])), (qq, .inl (cI, 16, .inl qf)), (rf, .inr (2, [.ref qr, .int (nI fn)])), (qr, .inl (cI, 24, .inl ff)), (qc, .inl (cI, 24, .inl ct)), (b, .inr (4, [.ref qh, .ref qb, .int (nI n), .int as_])), (qh, .inl (cI, 24, .inl hs)), (qb, .inl (cI, 24, .inl bs))] sz (S := (Nat → Int32) × Nat × (Nat → Int32) × Nat × (Nat → Int32) × Int32) (fun v u => v = none ∧ (prR (runP hs bs n 16) u.1 u.2.1 u.2.2.1 u.2.2.2.1 u.2.2.2.2.2 ∧ u.2.1 ≤ 16 ∧ u.2.2.2.1 ≤ 24)) (fun u => [(p_, .inr (1, [.ref rq, .ref rf, .ref qc, .int u.2.2.2.2.2])), (rq, .inr (2, [.ref qq, .int (nI u.2.1)])), (qq, .inl (cI, 16, .inl u.1)), (rf, .inr (2, [.ref qr, .int (nI u.2.2.2.1)])), (qr, .inl (cI, 24, .inl u.2.2.1)), (qc, .inl (cI, 24, .inl u.2.2.2.2.1)), (b, .inr (4, [.ref qh, .ref qb, .int (nI n), .int as_])), (qh, .inl (cI, 24, .inl hs)), (qb, .inl (cI, 24, .inl bs))]) 0 0 := by
  refine ef_startV (cc := cX1_run) (maxL := 3) (by decide) rfl (Nat.le_of_ble_eq_true rfl) ?_
  intro p e s m args below meth c Q A hx hb hml hown hts hP hG hD hA hin hret ls hl
  have hown : s.vm.findClass RX1 = some m.cls := hown
  have hl : lv_has ls 3 [(0, .ref p_), (1, .ref b)] := hl
  have hS : va_S A s.heap s.heap [] := va_S.rf
  refine lv_aload_n hx hb dX1_run_0 rfl (lv_at hl 0 rfl) ?_
  refine va_get (D := D) (ci := 1) (v := .ref rq) (C := RX1) (T := TX1) (N := 4) hx hb hts ilX1_run_1 hown hG.1 hP 0 rfl rfl 0 (by decide) (hts (.fieldLink RX1 14 "HornEngine$Propagation" "queue" "LHornEngine$Row;") (List.mem_of_getElem? (i := 1) rfl)) (fun _ h9 => h9) rfl dX1_run_1 ?_
  refine ef_V (As := []) (rest := []) (wr := [(p_, .inr (1, [.ref rq, .ref rf, .ref qc, .int qa])), (rf, .inr (2, [.ref qr, .int (nI fn)])), (qr, .inl (cI, 24, .inl ff)), (qc, .inl (cI, 24, .inl ct)), (b, .inr (4, [.ref qh, .ref qb, .int (nI n), .int as_])), (qh, .inl (cI, 24, .inl hs)), (qb, .inl (cI, 24, .inl bs))]) ⟨hx, hb, hml, hown, hts⟩ hG hP hD hS hA (k_X2_empty l D cI cB rq qq qf qn 16 (by decide) (by omega) _) (cwV 0 hts gX1_run_X2_empty rfl rfl rfl (by decide +kernel) ⟨(Nat.le_of_ble_eq_true rfl), (Nat.le_of_ble_eq_true rfl)⟩) [1, 2] [0, 3, 4, 5, 6, 7, 8] rfl rfl rfl rfl (by decide) 1 rfl rfl rfl rfl hl.1 rfl (Nat.le_of_ble_eq_true rfl) dX1_run_4 ⟨(Nat.le_of_ble_eq_true rfl), (Nat.le_of_ble_eq_true rfl)⟩ (fun v_1 u_1 H locs w_1 hP hD hS => ?_)
  have w_1 : v_1 = none := w_1
  subst w_1
  have hP : va_P D vwCl [(p_, .inr (1, [.ref rq, .ref rf, .ref qc, .int qa])), (rq, .inr (2, [.ref qq, .int (nI 0)])), (qq, .inl (cI, 16, .inl qf)), (rf, .inr (2, [.ref qr, .int (nI fn)])), (qr, .inl (cI, 24, .inl ff)), (qc, .inl (cI, 24, .inl ct)), (b, .inr (4, [.ref qh, .ref qb, .int (nI n), .int as_])), (qh, .inl (cI, 24, .inl hs)), (qb, .inl (cI, 24, .inl bs))] H := hP.sub [0, 7, 8, 1, 2, 3, 4, 5, 6] rfl
  have hD : va_D A [(p_, .inr (1, [.ref rq, .ref rf, .ref qc, .int qa])), (rq, .inr (2, [.ref qq, .int (nI 0)])), (qq, .inl (cI, 16, .inl qf)), (rf, .inr (2, [.ref qr, .int (nI fn)])), (qr, .inl (cI, 24, .inl ff)), (qc, .inl (cI, 24, .inl ct)), (b, .inr (4, [.ref qh, .ref qb, .int (nI n), .int as_])), (qh, .inl (cI, 24, .inl hs)), (qb, .inl (cI, 24, .inl bs))] := hD.sub [0, 7, 8, 1, 2, 3, 4, 5, 6] rfl rfl
  refine W.eq (g2 := F0 m 7 ls []) rfl ?_
  refine lv_aload_n hx hb dX1_run_7 rfl (lv_at hl 0 rfl) ?_
  refine va_get (D := D) (ci := 1) (v := .ref rf) (C := RX1) (T := TX1) (N := 4) hx hb hts ilX1_run_1 hown hG.1 hP 0 rfl rfl 1 (by decide) (hts (.fieldLink RX1 20 "HornEngine$Propagation" "firedRules" "LHornEngine$Row;") (List.mem_of_getElem? (i := 2) rfl)) (fun _ h9 => h9) rfl dX1_run_8 ?_
  refine ef_V (As := []) (rest := []) (wr := [(p_, .inr (1, [.ref rq, .ref rf, .ref qc, .int qa])), (rq, .inr (2, [.ref qq, .int (nI 0)])), (qq, .inl (cI, 16, .inl qf)), (qc, .inl (cI, 24, .inl ct)), (b, .inr (4, [.ref qh, .ref qb, .int (nI n), .int as_])), (qh, .inl (cI, 24, .inl hs)), (qb, .inl (cI, 24, .inl bs))]) ⟨hx, hb, hml, hown, hts⟩ hG hP hD hS hA (k_X2_empty l D cI cB rf qr ff fn 24 (by decide) (by omega) _) (cwV 0 hts gX1_run_X2_empty rfl rfl rfl (by decide +kernel) ⟨(Nat.le_of_ble_eq_true rfl), (Nat.le_of_ble_eq_true rfl)⟩) [3, 4] [0, 1, 2, 5, 6, 7, 8] rfl rfl rfl rfl (by decide) 3 rfl rfl rfl rfl hl.1 rfl (Nat.le_of_ble_eq_true rfl) dX1_run_11 ⟨(Nat.le_of_ble_eq_true rfl), (Nat.le_of_ble_eq_true rfl)⟩ (fun v_2 u_2 H locs w_2 hP hD hS => ?_)
  have w_2 : v_2 = none := w_2
  subst w_2
  have hP : va_P D vwCl [(p_, .inr (1, [.ref rq, .ref rf, .ref qc, .int qa])), (rq, .inr (2, [.ref qq, .int (nI 0)])), (qq, .inl (cI, 16, .inl qf)), (rf, .inr (2, [.ref qr, .int (nI 0)])), (qr, .inl (cI, 24, .inl ff)), (qc, .inl (cI, 24, .inl ct)), (b, .inr (4, [.ref qh, .ref qb, .int (nI n), .int as_])), (qh, .inl (cI, 24, .inl hs)), (qb, .inl (cI, 24, .inl bs))] H := hP.sub [0, 1, 2, 7, 8, 3, 4, 5, 6] rfl
  have hD : va_D A [(p_, .inr (1, [.ref rq, .ref rf, .ref qc, .int qa])), (rq, .inr (2, [.ref qq, .int (nI 0)])), (qq, .inl (cI, 16, .inl qf)), (rf, .inr (2, [.ref qr, .int (nI 0)])), (qr, .inl (cI, 24, .inl ff)), (qc, .inl (cI, 24, .inl ct)), (b, .inr (4, [.ref qh, .ref qb, .int (nI n), .int as_])), (qh, .inl (cI, 24, .inl hs)), (qb, .inl (cI, 24, .inl bs))] := hD.sub [0, 1, 2, 7, 8, 3, 4, 5, 6] rfl rfl
  refine W.eq (g2 := F0 m 14 ls []) rfl ?_
  refine lv_aload_n hx hb dX1_run_14 rfl (lv_at hl 0 rfl) ?_
  refine lv_iconst (v := nI 0) hx hb dX1_run_15 (by decide) ?_
  refine va_put (D := D) (ci := 1) (v := .int (nI 0)) (ty := .int) (C := RX1) (T := TX1) (N := 4) hx hb hts ilX1_run_1 tyX1 tyX1_ok nmX1 hown hG.1 hP hD hS 0 rfl rfl 3 (by decide) (hts (.fieldLink RX1 38 "HornEngine$Propagation" "queuedAtoms" "I") (List.mem_of_getElem? (i := 3) rfl)) (fun _ h9 => h9) rfl (by decide +kernel) rfl rfl (Nat.le_of_ble_eq_true rfl) dX1_run_16 (fun H locs hP hD hS => ?_)
  have hP : va_P D vwCl [(p_, .inr (1, [.ref rq, .ref rf, .ref qc, .int (nI 0)])), (rq, .inr (2, [.ref qq, .int (nI 0)])), (qq, .inl (cI, 16, .inl qf)), (rf, .inr (2, [.ref qr, .int (nI 0)])), (qr, .inl (cI, 24, .inl ff)), (qc, .inl (cI, 24, .inl ct)), (b, .inr (4, [.ref qh, .ref qb, .int (nI n), .int as_])), (qh, .inl (cI, 24, .inl hs)), (qb, .inl (cI, 24, .inl bs))] H := hP
  have hD : va_D A [(p_, .inr (1, [.ref rq, .ref rf, .ref qc, .int (nI 0)])), (rq, .inr (2, [.ref qq, .int (nI 0)])), (qq, .inl (cI, 16, .inl qf)), (rf, .inr (2, [.ref qr, .int (nI 0)])), (qr, .inl (cI, 24, .inl ff)), (qc, .inl (cI, 24, .inl ct)), (b, .inr (4, [.ref qh, .ref qb, .int (nI n), .int as_])), (qh, .inl (cI, 24, .inl hs)), (qb, .inl (cI, 24, .inl bs))] := hD
  refine lv_aload_n hx hb dX1_run_19 rfl (lv_at hl 0 rfl) ?_
  refine lv_aload_n hx hb dX1_run_20 rfl (lv_at hl 1 rfl) ?_
  refine ef_V (As := [.ref b]) (rest := []) (wr := []) ⟨hx, hb, hml, hown, hts⟩ hG hP hD hS hA (k_X1_fireFacts l D cI cB p_ rq qq rf qr qc qf 0 ff 0 ct (nI 0) b qh qb hs bs n as_ (by omega) hH (prR_0 qf ff) hok.1 _) (cwV 1 hts gX1_run_X1_fireFacts rfl rfl rfl (by decide +kernel) ⟨(Nat.le_of_ble_eq_true rfl), (Nat.le_of_ble_eq_true rfl)⟩) [0, 1, 2, 3, 4, 5, 6, 7, 8] [] rfl rfl rfl rfl (by decide) 0 rfl rfl rfl rfl hl.1 rfl (Nat.le_of_ble_eq_true rfl) dX1_run_21 ⟨(Nat.le_of_ble_eq_true rfl), (Nat.le_of_ble_eq_true rfl)⟩ (fun v_3 u_3 H locs w_3 hP hD hS => ?_)
  obtain ⟨qf9_3, qn9_3, ff9_3, fn9_3, ct9_3, qa9_3⟩ := u_3
  obtain ⟨e_3, w_3⟩ := w_3
  have w_3 : prR (factP hs bs n) qf9_3 qn9_3 ff9_3 fn9_3 qa9_3 ∧ (∀ j, j < n → ct9_3 j = (factP hs bs n).2.2 j) ∧ qn9_3 ≤ 16 ∧ fn9_3 ≤ 24 := w_3
  have e_3 : v_3 = none := e_3
  subst e_3
  have hP : va_P D vwCl [(p_, .inr (1, [.ref rq, .ref rf, .ref qc, .int qa9_3])), (rq, .inr (2, [.ref qq, .int (nI qn9_3)])), (qq, .inl (cI, 16, .inl qf9_3)), (rf, .inr (2, [.ref qr, .int (nI fn9_3)])), (qr, .inl (cI, 24, .inl ff9_3)), (qc, .inl (cI, 24, .inl ct9_3)), (b, .inr (4, [.ref qh, .ref qb, .int (nI n), .int as_])), (qh, .inl (cI, 24, .inl hs)), (qb, .inl (cI, 24, .inl bs))] H := hP.sub [0, 1, 2, 3, 4, 5, 6, 7, 8] rfl
  have hD : va_D A [(p_, .inr (1, [.ref rq, .ref rf, .ref qc, .int qa9_3])), (rq, .inr (2, [.ref qq, .int (nI qn9_3)])), (qq, .inl (cI, 16, .inl qf9_3)), (rf, .inr (2, [.ref qr, .int (nI fn9_3)])), (qr, .inl (cI, 24, .inl ff9_3)), (qc, .inl (cI, 24, .inl ct9_3)), (b, .inr (4, [.ref qh, .ref qb, .int (nI n), .int as_])), (qh, .inl (cI, 24, .inl hs)), (qb, .inl (cI, 24, .inl bs))] := hD.sub [0, 1, 2, 3, 4, 5, 6, 7, 8] rfl rfl
  refine W.eq (g2 := F0 m 24 ls []) rfl ?_
  have hR0 := w_3.1
  have hc0 := w_3.2.1
  have hq0 := w_3.2.2.1
  have hf0 := w_3.2.2.2
  refine lv_iconst (v := nI 0) hx hb dX1_run_24 (by decide) ?_
  refine lv_istore_n (lv' := [(2, .int (nI 0)), (0, .ref p_), (1, .ref b)]) hx hb dX1_run_25 rfl hl (by decide) rfl (fun ls hl => ?_)
  have lp_26_4 : ∀ (fu_26 : Nat) (k : Nat) (qf1 : Nat → Int32) (qn1 : Nat) (ff1 : Nat → Int32) (fn1 : Nat) (ct1 : Nat → Int32) (qa1 : Int32) (hk : k ≤ 16) (hR1 : prR (runP hs bs n k) qf1 qn1 ff1 fn1 qa1) (hc1 : ∀ j, j < n → ct1 j = (runP hs bs n k).2.2 j) (hqn1 : qn1 ≤ 16) (hfn1 : fn1 ≤ 24) (hfu_26 : 16 - k < fu_26) (H : Heap) (locs : List Loc) (hP : va_P D vwCl [(p_, .inr (1, [.ref rq, .ref rf, .ref qc, .int qa1])), (rq, .inr (2, [.ref qq, .int (nI qn1)])), (qq, .inl (cI, 16, .inl qf1)), (rf, .inr (2, [.ref qr, .int (nI fn1)])), (qr, .inl (cI, 24, .inl ff1)), (qc, .inl (cI, 24, .inl ct1)), (b, .inr (4, [.ref qh, .ref qb, .int (nI n), .int as_])), (qh, .inl (cI, 24, .inl hs)), (qb, .inl (cI, 24, .inl bs))] H) (hD : va_D A [(p_, .inr (1, [.ref rq, .ref rf, .ref qc, .int qa1])), (rq, .inr (2, [.ref qq, .int (nI qn1)])), (qq, .inl (cI, 16, .inl qf1)), (rf, .inr (2, [.ref qr, .int (nI fn1)])), (qr, .inl (cI, 24, .inl ff1)), (qc, .inl (cI, 24, .inl ct1)), (b, .inr (4, [.ref qh, .ref qb, .int (nI n), .int as_])), (qh, .inl (cI, 24, .inl hs)), (qb, .inl (cI, 24, .inl bs))]) (hS : va_S A s.heap H locs) (ls : Array Slot) (hl : lv_has ls 3 [(0, .ref p_), (1, .ref b), (2, .int (nI k))]), W p l e ({ frames := 4, cells := 0, slots := 0, locals := 88 }) s m args below meth c H locs 0 0 Q (F0 m 26 ls []) := by
    intro fu_26
    induction fu_26 with
    | zero => intro k qf1 qn1 ff1 fn1 ct1 qa1 hk hR1 hc1 hqn1 hfn1 hfu; exact absurd hfu (Nat.not_lt_zero _)
    | succ fu_26 ih_26 =>
      intro k qf1 qn1 ff1 fn1 ct1 qa1 hk hR1 hc1 hqn1 hfn1 hfu_26 H locs hP hD hS ls hl
      refine lv_iload_n hx hb dX1_run_26 rfl (lv_at hl 2 rfl) ?_
      refine lv_bipush (v := nI 16) hx hb dX1_run_27 (by decide) ?_
      refine lv_icmp_ge (tgt := 62) hx hb dX1_run_29 (by decide) (fun c_5 => ?_) (fun c_5 => ?_)
      · skip
        have c_5 : 16 ≤ k := (nI_leI (by omega) (by omega)).mp (show nI 16 ≤ nI k from c_5)
        exact hret (qf1, qn1, ff1, fn1, ct1, qa1) _ _ _ _ (⟨rfl, by rw [show 16 = k from by omega]; exact hR1, hqn1, hfn1⟩) (hP) (hD) hS dX1_run_62
      · skip
        have c_5 : ¬ (16 ≤ k) := fun h9 => (show ¬ (nI 16 ≤ nI k) from c_5) ((nI_leI (by omega) (by omega)).mpr h9)
        refine lv_iload_n hx hb dX1_run_32 rfl (lv_at hl 2 rfl) ?_
        refine lv_aload_n hx hb dX1_run_33 rfl (lv_at hl 0 rfl) ?_
        refine va_get (D := D) (ci := 1) (v := .ref rq) (C := RX1) (T := TX1) (N := 4) hx hb hts ilX1_run_1 hown hG.1 hP 0 rfl rfl 0 (by decide) (hts (.fieldLink RX1 14 "HornEngine$Propagation" "queue" "LHornEngine$Row;") (List.mem_of_getElem? (i := 1) rfl)) (fun _ h9 => h9) rfl dX1_run_34 ?_
        refine pu_V (As := []) (rest := [.int (nI k)]) ⟨hx, hb, hml, hown, hts⟩ hG hP (k_X2_size l D cI cB rq qq qf1 qn1 16 (by decide) (by omega)) (cwV 0 hts gX1_run_X2_size rfl rfl rfl (by decide +kernel) ⟨(Nat.le_of_ble_eq_true rfl), (Nat.le_of_ble_eq_true rfl)⟩) [1, 2] rfl 1 rfl rfl rfl rfl hl.1 rfl (Nat.le_of_ble_eq_true rfl) dX1_run_37 ⟨Nat.zero_le _, Nat.zero_le _⟩ ?_
        refine lv_icmp_ge (tgt := 62) hx hb dX1_run_40 (by decide) (fun c_6 => ?_) (fun c_6 => ?_)
        · skip
          have c_6 : qn1 ≤ k := (nI_leI (by omega) (by omega)).mp (show nI qn1 ≤ nI k from c_6)
          exact hret (qf1, qn1, ff1, fn1, ct1, qa1) _ _ _ _ (⟨rfl, by have h9 := runP_stay (hs := hs) (bs := bs) (n := n) (k := k) (by rw [prR_q hR1]; omega) (16 - k); rw [show k + (16 - k) = 16 from by omega] at h9; rw [h9]; exact hR1, hqn1, hfn1⟩) (hP) (hD) hS dX1_run_62
        · skip
          have c_6 : ¬ (qn1 ≤ k) := fun h9 => (show ¬ (nI qn1 ≤ nI k) from c_6) ((nI_leI (by omega) (by omega)).mpr h9)
          have hkl : k < (runP hs bs n k).1.length := by rw [prR_q hR1]; omega
          refine lv_aload_n hx hb dX1_run_43 rfl (lv_at hl 0 rfl) ?_
          refine lv_aload_n hx hb dX1_run_44 rfl (lv_at hl 1 rfl) ?_
          refine lv_aload_n hx hb dX1_run_45 rfl (lv_at hl 0 rfl) ?_
          refine va_get (D := D) (ci := 1) (v := .ref rq) (C := RX1) (T := TX1) (N := 4) hx hb hts ilX1_run_1 hown hG.1 hP 0 rfl rfl 0 (by decide) (hts (.fieldLink RX1 14 "HornEngine$Propagation" "queue" "LHornEngine$Row;") (List.mem_of_getElem? (i := 1) rfl)) (fun _ h9 => h9) rfl dX1_run_46 ?_
          refine lv_iload_n hx hb dX1_run_49 rfl (lv_at hl 2 rfl) ?_
          refine pu_V (As := [.int (nI k)]) (rest := [.ref b, .ref p_]) ⟨hx, hb, hml, hown, hts⟩ hG hP (k_X2_itemAt l D cI cB rq qq qf1 qn1 16 (nI k) (by decide) (by omega)) (cwV 1 hts gX1_run_X2_itemAt rfl rfl rfl (by decide +kernel) ⟨(Nat.le_of_ble_eq_true rfl), (Nat.le_of_ble_eq_true rfl)⟩) [1, 2] rfl 1 rfl rfl rfl rfl hl.1 rfl (Nat.le_of_ble_eq_true rfl) dX1_run_50 ⟨Nat.zero_le _, Nat.zero_le _⟩ ?_
          refine lv_eqi (run_it hR1 (by omega)) ?_
          refine ef_V (As := [.ref b, .int ((runP hs bs n k).1.getD k 0)]) (rest := []) (wr := []) ⟨hx, hb, hml, hown, hts⟩ hG hP hD hS hA (k_X1_countDown l D cI cB p_ rq qq rf qr qc qf1 qn1 ff1 fn1 ct1 qa1 b qh qb hs bs n as_ ((runP hs bs n k).1.getD k 0) (runP hs bs n k) (by omega) hH hR1 hc1 (by omega) (by omega) (hok.2 k (by omega) hkl) _) (cwV 2 hts gX1_run_X1_countDown rfl rfl rfl (by decide +kernel) ⟨(Nat.le_of_ble_eq_true rfl), (Nat.le_of_ble_eq_true rfl)⟩) [0, 1, 2, 3, 4, 5, 6, 7, 8] [] rfl rfl rfl rfl (by decide) 0 rfl rfl rfl rfl hl.1 rfl (Nat.le_of_ble_eq_true rfl) dX1_run_53 ⟨(Nat.le_of_ble_eq_true rfl), (Nat.le_of_ble_eq_true rfl)⟩ (fun v_7 u_7 H locs w_7 hP hD hS => ?_)
          obtain ⟨qf9_7, qn9_7, ff9_7, fn9_7, ct9_7, qa9_7⟩ := u_7
          obtain ⟨e_7, w_7⟩ := w_7
          have w_7 : prR (cdP hs bs ((runP hs bs n k).1.getD k 0) (runP hs bs n k) n) qf9_7 qn9_7 ff9_7 fn9_7 qa9_7 ∧ (∀ j, j < n → ct9_7 j = (cdP hs bs ((runP hs bs n k).1.getD k 0) (runP hs bs n k) n).2.2 j) ∧ qn9_7 ≤ 16 ∧ fn9_7 ≤ 24 := w_7
          have e_7 : v_7 = none := e_7
          subst e_7
          have hP : va_P D vwCl [(p_, .inr (1, [.ref rq, .ref rf, .ref qc, .int qa9_7])), (rq, .inr (2, [.ref qq, .int (nI qn9_7)])), (qq, .inl (cI, 16, .inl qf9_7)), (rf, .inr (2, [.ref qr, .int (nI fn9_7)])), (qr, .inl (cI, 24, .inl ff9_7)), (qc, .inl (cI, 24, .inl ct9_7)), (b, .inr (4, [.ref qh, .ref qb, .int (nI n), .int as_])), (qh, .inl (cI, 24, .inl hs)), (qb, .inl (cI, 24, .inl bs))] H := hP.sub [0, 1, 2, 3, 4, 5, 6, 7, 8] rfl
          have hD : va_D A [(p_, .inr (1, [.ref rq, .ref rf, .ref qc, .int qa9_7])), (rq, .inr (2, [.ref qq, .int (nI qn9_7)])), (qq, .inl (cI, 16, .inl qf9_7)), (rf, .inr (2, [.ref qr, .int (nI fn9_7)])), (qr, .inl (cI, 24, .inl ff9_7)), (qc, .inl (cI, 24, .inl ct9_7)), (b, .inr (4, [.ref qh, .ref qb, .int (nI n), .int as_])), (qh, .inl (cI, 24, .inl hs)), (qb, .inl (cI, 24, .inl bs))] := hD.sub [0, 1, 2, 3, 4, 5, 6, 7, 8] rfl rfl
          refine W.eq (g2 := F0 m 56 ls []) rfl ?_
          have hR3 := w_7.1
          have hc3 := w_7.2.1
          have hq3 := w_7.2.2.1
          have hf3 := w_7.2.2.2
          refine lv_iinc (v := nI (k + 1)) (lv' := [(2, .int (nI (k + 1))), (0, .ref p_), (1, .ref b)]) hx hb dX1_run_56 hl (k := 2) rfl (nI_s1 k) (by decide) rfl (fun ls hl => ?_)
          refine lv_goto (tgt := 26) hx hb dX1_run_59 (by decide) ?_
          exact ih_26 (k + 1) qf9_7 qn9_7 ff9_7 fn9_7 ct9_7 qa9_7 (by omega) (by rw [runP, if_pos hkl]; exact hR3) (by rw [runP, if_pos hkl]; exact hc3) (by omega) (by omega) (by omega) _ _ hP hD hS ls (lv_sub hl [1, 2, 0] rfl)
  exact lp_26_4 (16 - 0 + 1) 0 qf9_3 qn9_3 ff9_3 fn9_3 ct9_3 qa9_3 (by omega) hR0 hc0 (by omega) (by omega) (Nat.lt_succ_self _) _ _ hP hD hS ls (lv_sub hl [1, 2, 0] rfl)
