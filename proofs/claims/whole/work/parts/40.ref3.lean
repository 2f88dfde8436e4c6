theorem ilX6_adds_6 : ∀ w ∈ u_ws RX6 TX6 15, w ∈ wsX6_adds := by decide +kernel
theorem ilX6_addRule_6 : ∀ w ∈ u_ws RX6 TX6 15, w ∈ wsX6_addRule := by decide +kernel
theorem ilX6_removeRule_6 : ∀ w ∈ u_ws RX6 TX6 15, w ∈ wsX6_removeRule := by decide +kernel
theorem ilX6_setAssumable_6 : ∀ w ∈ u_ws RX6 TX6 15, w ∈ wsX6_setAssumable := by decide +kernel
theorem ilX6_undo_6 : ∀ w ∈ u_ws RX6 TX6 15, w ∈ wsX6_undo := by decide +kernel
set_option maxHeartbeats 4000000 in
set_option maxRecDepth 100000 in
theorem k_X6_adds (l : Launch) (D : va_G) (cI cB : ClassId) (mo : Nat) (qA : Nat) (qS : Nat) (sm : Nat) (qE : Nat) (qT : Nat) (tl : Nat) (qQ : Nat) (qd : Nat) (qF : Nat) (fm : Nat) (qC : Nat) (ap : Nat) (pl : Nat) (qH : Nat) (qB : Nat) (av : Nat → Int32) (hs : Nat → Int32) (bs : Nat → Int32) (n : Nat) (as_ : Int32) (h_ : Int32) (y_ : Int32) (hM : mA av hs bs n as_) (hn : n < 24) (sz : Nat) : Wr l yX6_adds wsX6_adds ({ frames := 0, cells := 0, slots := 0, locals := 0 }) D cI cB [.ref mo, .int h_, .int y_] [(mo, .inr (6, [.ref qA, .ref qS, .int (nI sm), .ref qE, .ref qT, .int (nI tl), .ref qQ, .int (nI qd), .ref qF, .int (nI fm), .ref qC, .int (nI ap), .int (nI pl), .ref qH, .ref qB])), (qA, .inl (cI, 50, .inl av))] sz (S := (Nat → Int32)) (fun v u => v = none ∧ (mA u (upd hs n h_) (upd bs n y_) (n + 1) as_)) (fun u => [(mo, .inr (6, [.ref qA, .ref qS, .int (nI sm), .ref qE, .ref qT, .int (nI tl), .ref qQ, .int (nI qd), .ref qF, .int (nI fm), .ref qC, .int (nI ap), .int (nI pl), .ref qH, .ref qB])), (qA, .inl (cI, 50, .inl u))]) 0 0 := by
  refine ef_startV (cc := cX6_adds) (maxL := 3) (by decide) rfl (Nat.le_of_ble_eq_true rfl) ?_
  intro p e s m args below meth c Q A hx hb hml hown hts hP hG hD hA hin hret ls hl
  have hown : s.vm.findClass RX6 = some m.cls := hown
  have hl : lv_has ls 3 [(0, .ref mo), (1, .int h_), (2, .int y_)] := hl
  have hS : va_S A s.heap s.heap [] := va_S.rf
  refine lv_aload_n hx hb dX6_adds_0 rfl (lv_at hl 0 rfl) ?_
  refine va_get (D := D) (ci := 6) (v := .ref qA) (C := RX6) (T := TX6) (N := 15) hx hb hts ilX6_adds_6 hown hG.1 hP 0 rfl rfl 0 (by decide) (hts (.fieldLink RX6 7 "HornEngineModel" "all" "[I") (List.mem_of_getElem? (i := 1) rfl)) (fun _ h9 => h9) rfl dX6_adds_1 ?_
  refine lv_iconst (v := nI 2) hx hb dX6_adds_4 (by decide) ?_
  refine lv_aload_n hx hb dX6_adds_5 rfl (lv_at hl 0 rfl) ?_
  refine va_get (D := D) (ci := 6) (v := .ref qA) (C := RX6) (T := TX6) (N := 15) hx hb hts ilX6_adds_6 hown hG.1 hP 0 rfl rfl 0 (by decide) (hts (.fieldLink RX6 7 "HornEngineModel" "all" "[I") (List.mem_of_getElem? (i := 1) rfl)) (fun _ h9 => h9) rfl dX6_adds_6 ?_
  refine lv_iconst (v := nI 0) hx hb dX6_adds_9 (by decide) ?_
  refine ia_ld hx hb hG hP 1 rfl 0 rfl (by omega) (by decide) dX6_adds_10 ?_
  refine lv_eqi (y := nI n) hM.1 ?_
  refine lv_iadd hx hb dX6_adds_11 ?_
  refine lv_eqi (y := nI (2 + n)) (nI_add 2 n) ?_
  refine lv_iload_n hx hb dX6_adds_12 rfl (lv_at hl 1 rfl) ?_
  refine ia_st hx hb hG hP hD hS 1 rfl (2 + n) rfl (by omega) (by decide) dX6_adds_13 (fun H locs hP hD hS => ?_)
  have hP : va_P D vwCl [(mo, .inr (6, [.ref qA, .ref qS, .int (nI sm), .ref qE, .ref qT, .int (nI tl), .ref qQ, .int (nI qd), .ref qF, .int (nI fm), .ref qC, .int (nI ap), .int (nI pl), .ref qH, .ref qB])), (qA, .inl (cI, 50, .inl (upd av (2 + n) h_)))] H := hP
  have hD : va_D A [(mo, .inr (6, [.ref qA, .ref qS, .int (nI sm), .ref qE, .ref qT, .int (nI tl), .ref qQ, .int (nI qd), .ref qF, .int (nI fm), .ref qC, .int (nI ap), .int (nI pl), .ref qH, .ref qB])), (qA, .inl (cI, 50, .inl (upd av (2 + n) h_)))] := hD
  refine lv_aload_n hx hb dX6_adds_14 rfl (lv_at hl 0 rfl) ?_
  refine va_get (D := D) (ci := 6) (v := .ref qA) (C := RX6) (T := TX6) (N := 15) hx hb hts ilX6_adds_6 hown hG.1 hP 0 rfl rfl 0 (by decide) (hts (.fieldLink RX6 7 "HornEngineModel" "all" "[I") (List.mem_of_getElem? (i := 1) rfl)) (fun _ h9 => h9) rfl dX6_adds_15 ?_
  refine lv_bipush (v := nI 26) hx hb dX6_adds_18 (by decide) ?_
  refine lv_aload_n hx hb dX6_adds_20 rfl (lv_at hl 0 rfl) ?_
  refine va_get (D := D) (ci := 6) (v := .ref qA) (C := RX6) (T := TX6) (N := 15) hx hb hts ilX6_adds_6 hown hG.1 hP 0 rfl rfl 0 (by decide) (hts (.fieldLink RX6 7 "HornEngineModel" "all" "[I") (List.mem_of_getElem? (i := 1) rfl)) (fun _ h9 => h9) rfl dX6_adds_21 ?_
  refine lv_iconst (v := nI 0) hx hb dX6_adds_24 (by decide) ?_
  refine ia_ld hx hb hG hP 1 rfl 0 rfl (by omega) (by decide) dX6_adds_25 ?_
  refine lv_eqi (y := nI n) (by simp only [upd]; rw [if_neg (by omega)]; exact hM.1) ?_
  refine lv_iadd hx hb dX6_adds_26 ?_
  refine lv_eqi (y := nI (26 + n)) (nI_add 26 n) ?_
  refine lv_iload_n hx hb dX6_adds_27 rfl (lv_at hl 2 rfl) ?_
  refine ia_st hx hb hG hP hD hS 1 rfl (26 + n) rfl (by omega) (by decide) dX6_adds_28 (fun H locs hP hD hS => ?_)
  have hP : va_P D vwCl [(mo, .inr (6, [.ref qA, .ref qS, .int (nI sm), .ref qE, .ref qT, .int (nI tl), .ref qQ, .int (nI qd), .ref qF, .int (nI fm), .ref qC, .int (nI ap), .int (nI pl), .ref qH, .ref qB])), (qA, .inl (cI, 50, .inl (upd (upd av (2 + n) h_) (26 + n) y_)))] H := hP
  have hD : va_D A [(mo, .inr (6, [.ref qA, .ref qS, .int (nI sm), .ref qE, .ref qT, .int (nI tl), .ref qQ, .int (nI qd), .ref qF, .int (nI fm), .ref qC, .int (nI ap), .int (nI pl), .ref qH, .ref qB])), (qA, .inl (cI, 50, .inl (upd (upd av (2 + n) h_) (26 + n) y_)))] := hD
  refine lv_aload_n hx hb dX6_adds_29 rfl (lv_at hl 0 rfl) ?_
  refine va_get (D := D) (ci := 6) (v := .ref qA) (C := RX6) (T := TX6) (N := 15) hx hb hts ilX6_adds_6 hown hG.1 hP 0 rfl rfl 0 (by decide) (hts (.fieldLink RX6 7 "HornEngineModel" "all" "[I") (List.mem_of_getElem? (i := 1) rfl)) (fun _ h9 => h9) rfl dX6_adds_30 ?_
  refine lv_iconst (v := nI 0) hx hb dX6_adds_33 (by decide) ?_
  refine lv_dup2_11 hx hb dX6_adds_34 rfl rfl ?_
  refine ia_ld hx hb hG hP 1 rfl 0 rfl (by omega) (by decide) dX6_adds_35 ?_
  refine lv_eqi (y := nI n) (by simp only [upd]; rw [if_neg (by omega), if_neg (by omega)]; exact hM.1) ?_
  refine lv_iconst (v := nI 1) hx hb dX6_adds_36 (by decide) ?_
  refine lv_iadd hx hb dX6_adds_37 ?_
  refine lv_eqi (y := nI (n + 1)) (nI_add n 1) ?_
  refine ia_st hx hb hG hP hD hS 1 rfl 0 rfl (by omega) (by decide) dX6_adds_38 (fun H locs hP hD hS => ?_)
  rw [show upd (upd (upd av (2 + n) h_) (26 + n) y_) 0 (nI (n + 1)) = adF av n h_ y_ from rfl] at hP hD
  have hP : va_P D vwCl [(mo, .inr (6, [.ref qA, .ref qS, .int (nI sm), .ref qE, .ref qT, .int (nI tl), .ref qQ, .int (nI qd), .ref qF, .int (nI fm), .ref qC, .int (nI ap), .int (nI pl), .ref qH, .ref qB])), (qA, .inl (cI, 50, .inl (adF av n h_ y_)))] H := hP
  have hD : va_D A [(mo, .inr (6, [.ref qA, .ref qS, .int (nI sm), .ref qE, .ref qT, .int (nI tl), .ref qQ, .int (nI qd), .ref qF, .int (nI fm), .ref qC, .int (nI ap), .int (nI pl), .ref qH, .ref qB])), (qA, .inl (cI, 50, .inl (adF av n h_ y_)))] := hD
  exact hret (adF av n h_ y_) _ _ _ _ (⟨rfl, adF_mA hM hn⟩) (hP) (hD) hS dX6_adds_39
set_option maxHeartbeats 4000000 in
set_option maxRecDepth 100000 in
theorem k_X6_addRule (l : Launch) (D : va_G) (cI cB : ClassId) (mo : Nat) (qA : Nat) (qS : Nat) (sm : Nat) (qE : Nat) (qT : Nat) (tl : Nat) (qQ : Nat) (qd : Nat) (qF : Nat) (fm : Nat) (qC : Nat) (ap : Nat) (pl : Nat) (qH : Nat) (qB : Nat) (av : Nat → Int32) (hs : Nat → Int32) (bs : Nat → Int32) (n : Nat) (as_ : Int32) (sv : Nat → Int32) (er : Nat → Int32) (hd_ : Int32) (bd_ : Int32) (hM : mA av hs bs n as_) (hn : n ≤ 24) (hsm : sm ≤ 4) (hsv : svOK sv sm) (sz : Nat) : Wr l yX6_addRule wsX6_addRule ({ frames := 2, cells := 0, slots := 0, locals := 45 }) D cI cB [.ref mo, .int hd_, .int bd_] [(mo, .inr (6, [.ref qA, .ref qS, .int (nI sm), .ref qE, .ref qT, .int (nI tl), .ref qQ, .int (nI qd), .ref qF, .int (nI fm), .ref qC, .int (nI ap), .int (nI pl), .ref qH, .ref qB])), (qA, .inl (cI, 50, .inl av)), (qS, .inl (cI, 200, .inl sv)), (qE, .inl (cI, 4, .inl er))] sz (S := Int32 × (Nat → Int32) × (Nat → Int32) × (Nat → Int32) × Nat × (Nat → Int32) × Nat × (Nat → Int32)) (fun v u => v = some (.int u.1) ∧ ((u.1, tab2 u.2.2.1 u.2.2.2.1 u.2.2.2.2.1, msv u.2.2.2.2.2.1 u.2.2.2.2.2.2.1, u.2.2.2.2.2.2.2) = addS hd_ bd_ (tab2 hs bs n) as_ (msv sv sm) er ∧ mA u.2.1 u.2.2.1 u.2.2.2.1 u.2.2.2.2.1 as_ ∧ u.2.2.2.2.1 ≤ 24 ∧ u.2.2.2.2.2.2.1 ≤ 4 ∧ svOK u.2.2.2.2.2.1 u.2.2.2.2.2.2.1)) (fun u => [(mo, .inr (6, [.ref qA, .ref qS, .int (nI u.2.2.2.2.2.2.1), .ref qE, .ref qT, .int (nI tl), .ref qQ, .int (nI qd), .ref qF, .int (nI fm), .ref qC, .int (nI ap), .int (nI pl), .ref qH, .ref qB])), (qA, .inl (cI, 50, .inl u.2.1)), (qS, .inl (cI, 200, .inl u.2.2.2.2.2.1)), (qE, .inl (cI, 4, .inl u.2.2.2.2.2.2.2))]) 0 0 := by
  refine ef_startI (cc := cX6_addRule) (maxL := 3) (by decide) rfl (Nat.le_of_ble_eq_true rfl) ?_
  intro p e s m args below meth c Q A hx hb hml hown hts hP hG hD hA hret ls hl
  have hown : s.vm.findClass RX6 = some m.cls := hown
  have hl : lv_has ls 3 [(0, .ref mo), (1, .int hd_), (2, .int bd_)] := hl
  have hS : va_S A s.heap s.heap [] := va_S.rf
  refine lv_iload_n hx hb dX6_addRule_0 rfl (lv_at hl 1 rfl) ?_
  refine pu_S (As := [.int hd_]) (rest := []) ⟨hx, hb, hml, hown, hts⟩ hG hP (k_X6_isAtom l D cI cB hd_ ) (cwS 1 hts gX6_addRule_X6_isAtom rfl rfl rfl (by decide +kernel) ⟨(Nat.le_of_ble_eq_true rfl), (Nat.le_of_ble_eq_true rfl)⟩) [] rfl rfl hl.1 rfl (Nat.le_of_ble_eq_true rfl) dX6_addRule_1 ⟨Nat.zero_le _, Nat.zero_le _⟩ ?_
  refine lv_if_eq (tgt := 14) hx hb dX6_addRule_4 (by decide) (fun c_1 => ?_) (fun c_1 => ?_)
  · skip
    have c_1 : (isA hd_) = false := bI_f.mp c_1
    have hk0 : (isA hd_ && isS bd_ (nI 4)) = false := by rw [c_1]; rfl
    refine lv_aload_n hx hb dX6_addRule_14 rfl (lv_at hl 0 rfl) ?_
    refine lv_bipush (v := (-2)) hx hb dX6_addRule_15 (by decide) ?_
    refine ef_V (As := [.int (-2)]) (rest := []) (wr := [(qA, .inl (cI, 50, .inl av)), (qS, .inl (cI, 200, .inl sv))]) ⟨hx, hb, hml, hown, hts⟩ hG hP hD hS hA (k_X6_error l D cI cB mo qA qS sm qE qT tl qQ qd qF fm qC ap pl qH qB er (-2) 0 (by decide) (by decide) _) (cwV 1 hts gX6_addRule_X6_error rfl rfl rfl (by decide +kernel) ⟨(Nat.le_of_ble_eq_true rfl), (Nat.le_of_ble_eq_true rfl)⟩) [0, 3] [1, 2] rfl rfl rfl rfl (by decide) 0 rfl rfl rfl rfl hl.1 rfl (Nat.le_of_ble_eq_true rfl) dX6_addRule_17 ⟨(Nat.le_of_ble_eq_true rfl), (Nat.le_of_ble_eq_true rfl)⟩ (fun v_2 u_2 H locs w_2 hP hD hS => ?_)
    have w_2 : v_2 = some (.int (-2)) := w_2
    subst w_2
    have hP : va_P D vwCl [(mo, .inr (6, [.ref qA, .ref qS, .int (nI sm), .ref qE, .ref qT, .int (nI tl), .ref qQ, .int (nI qd), .ref qF, .int (nI fm), .ref qC, .int (nI ap), .int (nI pl), .ref qH, .ref qB])), (qA, .inl (cI, 50, .inl av)), (qS, .inl (cI, 200, .inl sv)), (qE, .inl (cI, 4, .inl (bad er 0)))] H := hP.sub [2, 0, 1, 3] rfl
    have hD : va_D A [(mo, .inr (6, [.ref qA, .ref qS, .int (nI sm), .ref qE, .ref qT, .int (nI tl), .ref qQ, .int (nI qd), .ref qF, .int (nI fm), .ref qC, .int (nI ap), .int (nI pl), .ref qH, .ref qB])), (qA, .inl (cI, 50, .inl av)), (qS, .inl (cI, 200, .inl sv)), (qE, .inl (cI, 4, .inl (bad er 0)))] := hD.sub [2, 0, 1, 3] rfl rfl
    refine W.eq (g2 := F0 m 20 ls [.int (-2)]) rfl ?_
    exact hret _ (-2, av, hs, bs, n, sv, sm, bad er 0) _ _ _ _ (⟨rfl, by rw [addS, if_neg (by rw [hk0]; decide)], hM, hn, hsm, hsv⟩) (hP) (hD) hS dX6_addRule_20
  · skip
    have c_1 : (isA hd_) = true := bI_t.mp c_1
    have hA1 := c_1
    refine lv_iload_n hx hb dX6_addRule_7 rfl (lv_at hl 2 rfl) ?_
    refine pu_S (As := [.int bd_]) (rest := []) ⟨hx, hb, hml, hown, hts⟩ hG hP (k_X6_isBody l D cI cB bd_ ) (cwS 1 hts gX6_addRule_X6_isBody rfl rfl rfl (by decide +kernel) ⟨(Nat.le_of_ble_eq_true rfl), (Nat.le_of_ble_eq_true rfl)⟩) [] rfl rfl hl.1 rfl (Nat.le_of_ble_eq_true rfl) dX6_addRule_8 ⟨Nat.zero_le _, Nat.zero_le _⟩ ?_
    refine lv_if_ne (tgt := 21) hx hb dX6_addRule_11 (by decide) (fun c_3 => ?_) (fun c_3 => ?_)
    · skip
      have c_3 : (isS bd_ (nI 4)) = true := bI_t.mp c_3
      have hk1 : (isA hd_ && isS bd_ (nI 4)) = true := by rw [hA1, c_3]; rfl
      refine lv_aload_n hx hb dX6_addRule_21 rfl (lv_at hl 0 rfl) ?_
      refine va_get (D := D) (ci := 6) (v := .ref qA) (C := RX6) (T := TX6) (N := 15) hx hb hts ilX6_addRule_6 hown hG.1 hP 0 rfl rfl 0 (by decide) (hts (.fieldLink RX6 7 "HornEngineModel" "all" "[I") (List.mem_of_getElem? (i := 1) rfl)) (fun _ h9 => h9) rfl dX6_addRule_22 ?_
      refine lv_iconst (v := nI 0) hx hb dX6_addRule_25 (by decide) ?_
      refine ia_ld hx hb hG hP 1 rfl 0 rfl (by omega) (by decide) dX6_addRule_26 ?_
      refine lv_eqi (y := nI n) hM.1 ?_
      refine lv_bipush (v := nI 24) hx hb dX6_addRule_27 (by decide) ?_
      refine lv_icmp_ne (tgt := 39) hx hb dX6_addRule_29 (by decide) (fun c_4 => ?_) (fun c_4 => ?_)
      · skip
        have c_4 : ¬ (n = 24) := fun h9 => (show ¬ (nI n = nI 24) from c_4) ((nI_eq (by omega) (by omega)).mpr h9)
        have hf : ¬ 24 ≤ n := by omega
        refine lv_aload_n hx hb dX6_addRule_39 rfl (lv_at hl 0 rfl) ?_
        refine ef_V (As := []) (rest := []) (wr := [(qE, .inl (cI, 4, .inl er))]) ⟨hx, hb, hml, hown, hts⟩ hG hP hD hS hA (k_X6_save l D cI cB mo qA qS sm qE qT tl qQ qd qF fm qC ap pl qH qB av hs bs n as_ sv hM hn hsm hsv _) (cwV 0 hts gX6_addRule_X6_save rfl rfl rfl (by decide +kernel) ⟨(Nat.le_of_ble_eq_true rfl), (Nat.le_of_ble_eq_true rfl)⟩) [0, 1, 2] [3] rfl rfl rfl rfl (by decide) 0 rfl rfl rfl rfl hl.1 rfl (Nat.le_of_ble_eq_true rfl) dX6_addRule_40 ⟨(Nat.le_of_ble_eq_true rfl), (Nat.le_of_ble_eq_true rfl)⟩ (fun v_5 u_5 H locs w_5 hP hD hS => ?_)
        obtain ⟨sv9_5, sm9_5⟩ := u_5
        obtain ⟨e_5, w_5⟩ := w_5
        have w_5 : msv sv9_5 sm9_5 = svP (msv sv sm) (tab2 hs bs n, as_) ∧ sm9_5 ≤ 4 ∧ svOK sv9_5 sm9_5 := w_5
        have e_5 : v_5 = none := e_5
        subst e_5
        have hP : va_P D vwCl [(mo, .inr (6, [.ref qA, .ref qS, .int (nI sm9_5), .ref qE, .ref qT, .int (nI tl), .ref qQ, .int (nI qd), .ref qF, .int (nI fm), .ref qC, .int (nI ap), .int (nI pl), .ref qH, .ref qB])), (qA, .inl (cI, 50, .inl av)), (qS, .inl (cI, 200, .inl sv9_5)), (qE, .inl (cI, 4, .inl er))] H := hP.sub [1, 2, 3, 0] rfl
        have hD : va_D A [(mo, .inr (6, [.ref qA, .ref qS, .int (nI sm9_5), .ref qE, .ref qT, .int (nI tl), .ref qQ, .int (nI qd), .ref qF, .int (nI fm), .ref qC, .int (nI ap), .int (nI pl), .ref qH, .ref qB])), (qA, .inl (cI, 50, .inl av)), (qS, .inl (cI, 200, .inl sv9_5)), (qE, .inl (cI, 4, .inl er))] := hD.sub [1, 2, 3, 0] rfl rfl
        refine W.eq (g2 := F0 m 43 ls []) rfl ?_
        have hsv1 := w_5.1
        have hk9 := w_5.2.1
        have hB9 := w_5.2.2
        refine lv_aload_n hx hb dX6_addRule_43 rfl (lv_at hl 0 rfl) ?_
        refine lv_iload_n hx hb dX6_addRule_44 rfl (lv_at hl 1 rfl) ?_
        refine lv_iload_n hx hb dX6_addRule_45 rfl (lv_at hl 2 rfl) ?_
        refine ef_V (As := [.int hd_, .int bd_]) (rest := []) (wr := [(qS, .inl (cI, 200, .inl sv9_5)), (qE, .inl (cI, 4, .inl er))]) ⟨hx, hb, hml, hown, hts⟩ hG hP hD hS hA (k_X6_adds l D cI cB mo qA qS sm9_5 qE qT tl qQ qd qF fm qC ap pl qH qB av hs bs n as_ hd_ bd_ hM (by omega) _) (cwV 2 hts gX6_addRule_X6_adds rfl rfl rfl (by decide +kernel) ⟨(Nat.le_of_ble_eq_true rfl), (Nat.le_of_ble_eq_true rfl)⟩) [0, 1] [2, 3] rfl rfl rfl rfl (by decide) 0 rfl rfl rfl rfl hl.1 rfl (Nat.le_of_ble_eq_true rfl) dX6_addRule_46 ⟨(Nat.le_of_ble_eq_true rfl), (Nat.le_of_ble_eq_true rfl)⟩ (fun v_6 u_6 H locs w_6 hP hD hS => ?_)
        obtain ⟨av9_6, rfl⟩ : ∃ z, z = u_6 := ⟨_, rfl⟩
        obtain ⟨e_6, w_6⟩ := w_6
        have w_6 : mA av9_6 (upd hs n hd_) (upd bs n bd_) (n + 1) as_ := w_6
        have e_6 : v_6 = none := e_6
        subst e_6
        have hP : va_P D vwCl [(mo, .inr (6, [.ref qA, .ref qS, .int (nI sm9_5), .ref qE, .ref qT, .int (nI tl), .ref qQ, .int (nI qd), .ref qF, .int (nI fm), .ref qC, .int (nI ap), .int (nI pl), .ref qH, .ref qB])), (qA, .inl (cI, 50, .inl av9_6)), (qS, .inl (cI, 200, .inl sv9_5)), (qE, .inl (cI, 4, .inl er))] H := hP.sub [2, 3, 0, 1] rfl
        have hD : va_D A [(mo, .inr (6, [.ref qA, .ref qS, .int (nI sm9_5), .ref qE, .ref qT, .int (nI tl), .ref qQ, .int (nI qd), .ref qF, .int (nI fm), .ref qC, .int (nI ap), .int (nI pl), .ref qH, .ref qB])), (qA, .inl (cI, 50, .inl av9_6)), (qS, .inl (cI, 200, .inl sv9_5)), (qE, .inl (cI, 4, .inl er))] := hD.sub [2, 3, 0, 1] rfl rfl
        refine W.eq (g2 := F0 m 49 ls []) rfl ?_
        refine lv_aload_n hx hb dX6_addRule_49 rfl (lv_at hl 0 rfl) ?_
        refine va_get (D := D) (ci := 6) (v := .ref qA) (C := RX6) (T := TX6) (N := 15) hx hb hts ilX6_addRule_6 hown hG.1 hP 0 rfl rfl 0 (by decide) (hts (.fieldLink RX6 7 "HornEngineModel" "all" "[I") (List.mem_of_getElem? (i := 1) rfl)) (fun _ h9 => h9) rfl dX6_addRule_50 ?_
        refine lv_iconst (v := nI 0) hx hb dX6_addRule_53 (by decide) ?_
        refine ia_ld hx hb hG hP 1 rfl 0 rfl (by omega) (by decide) dX6_addRule_54 ?_
        refine lv_eqi (y := nI (n + 1)) w_6.1 ?_
        refine lv_iconst (v := nI 1) hx hb dX6_addRule_55 (by decide) ?_
        refine lv_isub hx hb dX6_addRule_56 ?_
        refine lv_eqi (y := nI n) (nI_pred n) ?_
        exact hret _ (nI n, av9_6, upd hs n hd_, upd bs n bd_, n + 1, sv9_5, sm9_5, er) _ _ _ _ (⟨rfl, by rw [addS, if_pos hk1, if_neg (by rw [tab2_len]; exact hf), tab2_len, tab2_push, hsv1], w_6, (show n + 1 ≤ 24 by omega), hk9, hB9⟩) (hP) (hD) hS dX6_addRule_57
      · skip
        have c_4 : n = 24 := (nI_eq (by omega) (by omega)).mp (show nI n = nI 24 from c_4)
        have hf : 24 ≤ n := by omega
        refine lv_aload_n hx hb dX6_addRule_32 rfl (lv_at hl 0 rfl) ?_
        refine lv_bipush (v := (-4)) hx hb dX6_addRule_33 (by decide) ?_
        refine ef_V (As := [.int (-4)]) (rest := []) (wr := [(qA, .inl (cI, 50, .inl av)), (qS, .inl (cI, 200, .inl sv))]) ⟨hx, hb, hml, hown, hts⟩ hG hP hD hS hA (k_X6_error l D cI cB mo qA qS sm qE qT tl qQ qd qF fm qC ap pl qH qB er (-4) 2 (by decide) (by decide) _) (cwV 1 hts gX6_addRule_X6_error rfl rfl rfl (by decide +kernel) ⟨(Nat.le_of_ble_eq_true rfl), (Nat.le_of_ble_eq_true rfl)⟩) [0, 3] [1, 2] rfl rfl rfl rfl (by decide) 0 rfl rfl rfl rfl hl.1 rfl (Nat.le_of_ble_eq_true rfl) dX6_addRule_35 ⟨(Nat.le_of_ble_eq_true rfl), (Nat.le_of_ble_eq_true rfl)⟩ (fun v_7 u_7 H locs w_7 hP hD hS => ?_)
        have w_7 : v_7 = some (.int (-4)) := w_7
        subst w_7
        have hP : va_P D vwCl [(mo, .inr (6, [.ref qA, .ref qS, .int (nI sm), .ref qE, .ref qT, .int (nI tl), .ref qQ, .int (nI qd), .ref qF, .int (nI fm), .ref qC, .int (nI ap), .int (nI pl), .ref qH, .ref qB])), (qA, .inl (cI, 50, .inl av)), (qS, .inl (cI, 200, .inl sv)), (qE, .inl (cI, 4, .inl (bad er 2)))] H := hP.sub [2, 0, 1, 3] rfl
        have hD : va_D A [(mo, .inr (6, [.ref qA, .ref qS, .int (nI sm), .ref qE, .ref qT, .int (nI tl), .ref qQ, .int (nI qd), .ref qF, .int (nI fm), .ref qC, .int (nI ap), .int (nI pl), .ref qH, .ref qB])), (qA, .inl (cI, 50, .inl av)), (qS, .inl (cI, 200, .inl sv)), (qE, .inl (cI, 4, .inl (bad er 2)))] := hD.sub [2, 0, 1, 3] rfl rfl
        refine W.eq (g2 := F0 m 38 ls [.int (-4)]) rfl ?_
        exact hret _ (-4, av, hs, bs, n, sv, sm, bad er 2) _ _ _ _ (⟨rfl, by rw [addS, if_pos hk1, if_pos (by rw [tab2_len]; exact hf)], hM, hn, hsm, hsv⟩) (hP) (hD) hS dX6_addRule_38
    · skip
      have c_3 : (isS bd_ (nI 4)) = false := bI_f.mp c_3
      have hk0 : (isA hd_ && isS bd_ (nI 4)) = false := by rw [c_3]; exact Bool.and_false _
      refine lv_aload_n hx hb dX6_addRule_14 rfl (lv_at hl 0 rfl) ?_
      refine lv_bipush (v := (-2)) hx hb dX6_addRule_15 (by decide) ?_
      refine ef_V (As := [.int (-2)]) (rest := []) (wr := [(qA, .inl (cI, 50, .inl av)), (qS, .inl (cI, 200, .inl sv))]) ⟨hx, hb, hml, hown, hts⟩ hG hP hD hS hA (k_X6_error l D cI cB mo qA qS sm qE qT tl qQ qd qF fm qC ap pl qH qB er (-2) 0 (by decide) (by decide) _) (cwV 1 hts gX6_addRule_X6_error rfl rfl rfl (by decide +kernel) ⟨(Nat.le_of_ble_eq_true rfl), (Nat.le_of_ble_eq_true rfl)⟩) [0, 3] [1, 2] rfl rfl rfl rfl (by decide) 0 rfl rfl rfl rfl hl.1 rfl (Nat.le_of_ble_eq_true rfl) dX6_addRule_17 ⟨(Nat.le_of_ble_eq_true rfl), (Nat.le_of_ble_eq_true rfl)⟩ (fun v_8 u_8 H locs w_8 hP hD hS => ?_)
      have w_8 : v_8 = some (.int (-2)) := w_8
      subst w_8
      have hP : va_P D vwCl [(mo, .inr (6, [.ref qA, .ref qS, .int (nI sm), .ref qE, .ref qT, .int (nI tl), .ref qQ, .int (nI qd), .ref qF, .int (nI fm), .ref qC, .int (nI ap), .int (nI pl), .ref qH, .ref qB])), (qA, .inl (cI, 50, .inl av)), (qS, .inl (cI, 200, .inl sv)), (qE, .inl (cI, 4, .inl (bad er 0)))] H := hP.sub [2, 0, 1, 3] rfl
      have hD : va_D A [(mo, .inr (6, [.ref qA, .ref qS, .int (nI sm), .ref qE, .ref qT, .int (nI tl), .ref qQ, .int (nI qd), .ref qF, .int (nI fm), .ref qC, .int (nI ap), .int (nI pl), .ref qH, .ref qB])), (qA, .inl (cI, 50, .inl av)), (qS, .inl (cI, 200, .inl sv)), (qE, .inl (cI, 4, .inl (bad er 0)))] := hD.sub [2, 0, 1, 3] rfl rfl
      refine W.eq (g2 := F0 m 20 ls [.int (-2)]) rfl ?_
      exact hret _ (-2, av, hs, bs, n, sv, sm, bad er 0) _ _ _ _ (⟨rfl, by rw [addS, if_neg (by rw [hk0]; decide)], hM, hn, hsm, hsv⟩) (hP) (hD) hS dX6_addRule_20
set_option maxHeartbeats 4000000 in
set_option maxRecDepth 100000 in
theorem k_X6_removeRule (l : Launch) (D : va_G) (cI cB : ClassId) (mo : Nat) (qA : Nat) (qS : Nat) (sm : Nat) (qE : Nat) (qT : Nat) (tl : Nat) (qQ : Nat) (qd : Nat) (qF : Nat) (fm : Nat) (qC : Nat) (ap : Nat) (pl : Nat) (qH : Nat) (qB : Nat) (av : Nat → Int32) (hs : Nat → Int32) (bs : Nat → Int32) (n : Nat) (as_ : Int32) (sv : Nat → Int32) (er : Nat → Int32) (r_ : Int32) (hM : mA av hs bs n as_) (hn : n ≤ 24) (hsm : sm ≤ 4) (hsv : svOK sv sm) (sz : Nat) : Wr l yX6_removeRule wsX6_removeRule ({ frames := 2, cells := 0, slots := 0, locals := 46 }) D cI cB [.ref mo, .int r_] [(mo, .inr (6, [.ref qA, .ref qS, .int (nI sm), .ref qE, .ref qT, .int (nI tl), .ref qQ, .int (nI qd), .ref qF, .int (nI fm), .ref qC, .int (nI ap), .int (nI pl), .ref qH, .ref qB])), (qA, .inl (cI, 50, .inl av)), (qS, .inl (cI, 200, .inl sv)), (qE, .inl (cI, 4, .inl er))] sz (S := Int32 × (Nat → Int32) × (Nat → Int32) × (Nat → Int32) × Nat × (Nat → Int32) × Nat × (Nat → Int32)) (fun v u => v = some (.int u.1) ∧ ((u.1, tab2 u.2.2.1 u.2.2.2.1 u.2.2.2.2.1, msv u.2.2.2.2.2.1 u.2.2.2.2.2.2.1, u.2.2.2.2.2.2.2) = remS r_ (tab2 hs bs n) as_ (msv sv sm) er ∧ mA u.2.1 u.2.2.1 u.2.2.2.1 u.2.2.2.2.1 as_ ∧ u.2.2.2.2.1 ≤ 24 ∧ u.2.2.2.2.2.2.1 ≤ 4 ∧ svOK u.2.2.2.2.2.1 u.2.2.2.2.2.2.1)) (fun u => [(mo, .inr (6, [.ref qA, .ref qS, .int (nI u.2.2.2.2.2.2.1), .ref qE, .ref qT, .int (nI tl), .ref qQ, .int (nI qd), .ref qF, .int (nI fm), .ref qC, .int (nI ap), .int (nI pl), .ref qH, .ref qB])), (qA, .inl (cI, 50, .inl u.2.1)), (qS, .inl (cI, 200, .inl u.2.2.2.2.2.1)), (qE, .inl (cI, 4, .inl u.2.2.2.2.2.2.2))]) 0 0 := by
  refine ef_startI (cc := cX6_removeRule) (maxL := 3) (by decide) rfl (Nat.le_of_ble_eq_true rfl) ?_
  intro p e s m args below meth c Q A hx hb hml hown hts hP hG hD hA hret ls hl
  have hown : s.vm.findClass RX6 = some m.cls := hown
  have hl : lv_has ls 3 [(0, .ref mo), (1, .int r_)] := hl
  have hS : va_S A s.heap s.heap [] := va_S.rf
  refine lv_aload_n hx hb dX6_removeRule_0 rfl (lv_at hl 0 rfl) ?_
  refine lv_iload_n hx hb dX6_removeRule_1 rfl (lv_at hl 1 rfl) ?_
  refine pu_V (As := [.int r_]) (rest := []) ⟨hx, hb, hml, hown, hts⟩ hG hP (k_X6_isRule l D cI cB mo qA qS sm qE qT tl qQ qd qF fm qC ap pl qH qB av hs bs n as_ r_ hM hn) (cwV 1 hts gX6_removeRule_X6_isRule rfl rfl rfl (by decide +kernel) ⟨(Nat.le_of_ble_eq_true rfl), (Nat.le_of_ble_eq_true rfl)⟩) [0, 1] rfl 0 rfl rfl rfl rfl hl.1 rfl (Nat.le_of_ble_eq_true rfl) dX6_removeRule_2 ⟨Nat.zero_le _, Nat.zero_le _⟩ ?_
  refine lv_if_ne (tgt := 15) hx hb dX6_removeRule_5 (by decide) (fun c_1 => ?_) (fun c_1 => ?_)
  · skip
    have c_1 : (hasR r_ n) = true := bI_t.mp c_1
    obtain ⟨j_, hj_, rfl⟩ := hasR_nat (by omega) c_1
    refine lv_aload_n hx hb dX6_removeRule_15 rfl (lv_at hl 0 rfl) ?_
    refine ef_V (As := []) (rest := []) (wr := [(qE, .inl (cI, 4, .inl er))]) ⟨hx, hb, hml, hown, hts⟩ hG hP hD hS hA (k_X6_save l D cI cB mo qA qS sm qE qT tl qQ qd qF fm qC ap pl qH qB av hs bs n as_ sv hM hn hsm hsv _) (cwV 0 hts gX6_removeRule_X6_save rfl rfl rfl (by decide +kernel) ⟨(Nat.le_of_ble_eq_true rfl), (Nat.le_of_ble_eq_true rfl)⟩) [0, 1, 2] [3] rfl rfl rfl rfl (by decide) 0 rfl rfl rfl rfl hl.1 rfl (Nat.le_of_ble_eq_true rfl) dX6_removeRule_16 ⟨(Nat.le_of_ble_eq_true rfl), (Nat.le_of_ble_eq_true rfl)⟩ (fun v_2 u_2 H locs w_2 hP hD hS => ?_)
    obtain ⟨sv9_2, sm9_2⟩ := u_2
    obtain ⟨e_2, w_2⟩ := w_2
    have w_2 : msv sv9_2 sm9_2 = svP (msv sv sm) (tab2 hs bs n, as_) ∧ sm9_2 ≤ 4 ∧ svOK sv9_2 sm9_2 := w_2
    have e_2 : v_2 = none := e_2
    subst e_2
    have hP : va_P D vwCl [(mo, .inr (6, [.ref qA, .ref qS, .int (nI sm9_2), .ref qE, .ref qT, .int (nI tl), .ref qQ, .int (nI qd), .ref qF, .int (nI fm), .ref qC, .int (nI ap), .int (nI pl), .ref qH, .ref qB])), (qA, .inl (cI, 50, .inl av)), (qS, .inl (cI, 200, .inl sv9_2)), (qE, .inl (cI, 4, .inl er))] H := hP.sub [1, 2, 3, 0] rfl
    have hD : va_D A [(mo, .inr (6, [.ref qA, .ref qS, .int (nI sm9_2), .ref qE, .ref qT, .int (nI tl), .ref qQ, .int (nI qd), .ref qF, .int (nI fm), .ref qC, .int (nI ap), .int (nI pl), .ref qH, .ref qB])), (qA, .inl (cI, 50, .inl av)), (qS, .inl (cI, 200, .inl sv9_2)), (qE, .inl (cI, 4, .inl er))] := hD.sub [1, 2, 3, 0] rfl rfl
    refine W.eq (g2 := F0 m 19 ls []) rfl ?_
    have hsv1 := w_2.1
    have hk9 := w_2.2.1
    have hB9 := w_2.2.2
    refine lv_iload_n hx hb dX6_removeRule_19 rfl (lv_at hl 1 rfl) ?_
    refine lv_istore_n (lv' := [(2, .int (nI j_)), (0, .ref mo), (1, .int (nI j_))]) hx hb dX6_removeRule_20 rfl hl (by decide) rfl (fun ls hl => ?_)
    have hP : va_P D vwCl [(mo, .inr (6, [.ref qA, .ref qS, .int (nI sm9_2), .ref qE, .ref qT, .int (nI tl), .ref qQ, .int (nI qd), .ref qF, .int (nI fm), .ref qC, .int (nI ap), .int (nI pl), .ref qH, .ref qB])), (qA, .inl (cI, 50, .inl (r2F av j_ j_))), (qS, .inl (cI, 200, .inl sv9_2)), (qE, .inl (cI, 4, .inl er))] H := by rw [r2F_0]; exact hP
    have hD : va_D A [(mo, .inr (6, [.ref qA, .ref qS, .int (nI sm9_2), .ref qE, .ref qT, .int (nI tl), .ref qQ, .int (nI qd), .ref qF, .int (nI fm), .ref qC, .int (nI ap), .int (nI pl), .ref qH, .ref qB])), (qA, .inl (cI, 50, .inl (r2F av j_ j_))), (qS, .inl (cI, 200, .inl sv9_2)), (qE, .inl (cI, 4, .inl er))] := by rw [r2F_0]; exact hD
    have lp_21_3 : ∀ (fu_21 : Nat) (k : Nat) (hk : j_ ≤ k) (hk2 : k ≤ 23) (hfu_21 : 23 - k < fu_21) (H : Heap) (locs : List Loc) (hP : va_P D vwCl [(mo, .inr (6, [.ref qA, .ref qS, .int (nI sm9_2), .ref qE, .ref qT, .int (nI tl), .ref qQ, .int (nI qd), .ref qF, .int (nI fm), .ref qC, .int (nI ap), .int (nI pl), .ref qH, .ref qB])), (qA, .inl (cI, 50, .inl (r2F av j_ k))), (qS, .inl (cI, 200, .inl sv9_2)), (qE, .inl (cI, 4, .inl er))] H) (hD : va_D A [(mo, .inr (6, [.ref qA, .ref qS, .int (nI sm9_2), .ref qE, .ref qT, .int (nI tl), .ref qQ, .int (nI qd), .ref qF, .int (nI fm), .ref qC, .int (nI ap), .int (nI pl), .ref qH, .ref qB])), (qA, .inl (cI, 50, .inl (r2F av j_ k))), (qS, .inl (cI, 200, .inl sv9_2)), (qE, .inl (cI, 4, .inl er))]) (hS : va_S A s.heap H locs) (ls : Array Slot) (hl : lv_has ls 3 [(0, .ref mo), (2, .int (nI k))]), W p l e ({ frames := 2, cells := 0, slots := 0, locals := 46 }) s m args below meth c H locs 0 0 Q (F0 m 21 ls []) := by
      intro fu_21
      induction fu_21 with
      | zero => intro k hk hk2 hfu; exact absurd hfu (Nat.not_lt_zero _)
      | succ fu_21 ih_21 =>
        intro k hk hk2 hfu_21 H locs hP hD hS ls hl
        refine lv_iload_n hx hb dX6_removeRule_21 rfl (lv_at hl 1 rfl) ?_
        refine lv_bipush (v := nI 23) hx hb dX6_removeRule_22 (by decide) ?_
        refine lv_icmp_ge (tgt := 71) hx hb dX6_removeRule_24 (by decide) (fun c_4 => ?_) (fun c_4 => ?_)
        · skip
          have c_4 : 23 ≤ k := (nI_leI (by omega) (by omega)).mp (show nI 23 ≤ nI k from c_4)
          refine lv_aload_n hx hb dX6_removeRule_71 rfl (lv_at hl 0 rfl) ?_
          refine va_get (D := D) (ci := 6) (v := .ref qA) (C := RX6) (T := TX6) (N := 15) hx hb hts ilX6_removeRule_6 hown hG.1 hP 0 rfl rfl 0 (by decide) (hts (.fieldLink RX6 7 "HornEngineModel" "all" "[I") (List.mem_of_getElem? (i := 1) rfl)) (fun _ h9 => h9) rfl dX6_removeRule_72 ?_
          refine lv_iconst (v := nI 0) hx hb dX6_removeRule_75 (by decide) ?_
          refine lv_dup2_11 hx hb dX6_removeRule_76 rfl rfl ?_
          refine ia_ld hx hb hG hP 1 rfl 0 rfl (by omega) (by decide) dX6_removeRule_77 ?_
          refine lv_eqi (y := nI n) (by simp only [r2F]; rw [if_neg (by omega)]; exact hM.1) ?_
          refine lv_iconst (v := nI 1) hx hb dX6_removeRule_78 (by decide) ?_
          refine lv_isub hx hb dX6_removeRule_79 ?_
          refine lv_eqi (y := nI (n - 1)) (nI_sub1 (by omega)) ?_
          refine ia_st hx hb hG hP hD hS 1 rfl 0 rfl (by omega) (by decide) dX6_removeRule_80 (fun H locs hP hD hS => ?_)
          have hP : va_P D vwCl [(mo, .inr (6, [.ref qA, .ref qS, .int (nI sm9_2), .ref qE, .ref qT, .int (nI tl), .ref qQ, .int (nI qd), .ref qF, .int (nI fm), .ref qC, .int (nI ap), .int (nI pl), .ref qH, .ref qB])), (qA, .inl (cI, 50, .inl (upd (r2F av j_ k) 0 (nI (n - 1))))), (qS, .inl (cI, 200, .inl sv9_2)), (qE, .inl (cI, 4, .inl er))] H := hP
          have hD : va_D A [(mo, .inr (6, [.ref qA, .ref qS, .int (nI sm9_2), .ref qE, .ref qT, .int (nI tl), .ref qQ, .int (nI qd), .ref qF, .int (nI fm), .ref qC, .int (nI ap), .int (nI pl), .ref qH, .ref qB])), (qA, .inl (cI, 50, .inl (upd (r2F av j_ k) 0 (nI (n - 1))))), (qS, .inl (cI, 200, .inl sv9_2)), (qE, .inl (cI, 4, .inl er))] := hD
          refine lv_aload_n hx hb dX6_removeRule_81 rfl (lv_at hl 0 rfl) ?_
          refine va_get (D := D) (ci := 6) (v := .ref qA) (C := RX6) (T := TX6) (N := 15) hx hb hts ilX6_removeRule_6 hown hG.1 hP 0 rfl rfl 0 (by decide) (hts (.fieldLink RX6 7 "HornEngineModel" "all" "[I") (List.mem_of_getElem? (i := 1) rfl)) (fun _ h9 => h9) rfl dX6_removeRule_82 ?_
          refine lv_iconst (v := nI 0) hx hb dX6_removeRule_85 (by decide) ?_
          refine ia_ld hx hb hG hP 1 rfl 0 rfl (by omega) (by decide) dX6_removeRule_86 ?_
          refine lv_eqi (y := nI (n - 1)) (by simp [upd]) ?_
          exact hret _ (nI (n - 1), upd (r2F av j_ 23) 0 (nI (n - 1)), rmF hs j_ n, rmF bs j_ n, n - 1, sv9_2, sm9_2, er) _ _ _ _ (⟨rfl, by rw [remS, if_pos (by rw [tab2_len]; exact hasR_of hj_ (by omega)), tab2_len, nI_clamp (by omega), tab2_rm hs bs hj_, hsv1], r2F_mA hM hn hj_, (show n - 1 ≤ 24 by omega), hk9, hB9⟩) (by rw [show 23 = k from by omega]; exact hP) (by rw [show 23 = k from by omega]; exact hD) hS dX6_removeRule_87
        · skip
          have c_4 : ¬ (23 ≤ k) := fun h9 => (show ¬ (nI 23 ≤ nI k) from c_4) ((nI_leI (by omega) (by omega)).mpr h9)
          refine lv_aload_n hx hb dX6_removeRule_27 rfl (lv_at hl 0 rfl) ?_
          refine va_get (D := D) (ci := 6) (v := .ref qA) (C := RX6) (T := TX6) (N := 15) hx hb hts ilX6_removeRule_6 hown hG.1 hP 0 rfl rfl 0 (by decide) (hts (.fieldLink RX6 7 "HornEngineModel" "all" "[I") (List.mem_of_getElem? (i := 1) rfl)) (fun _ h9 => h9) rfl dX6_removeRule_28 ?_
          refine lv_iconst (v := nI 2) hx hb dX6_removeRule_31 (by decide) ?_
          refine lv_iload_n hx hb dX6_removeRule_32 rfl (lv_at hl 1 rfl) ?_
          refine lv_iadd hx hb dX6_removeRule_33 ?_
          refine lv_eqi (y := nI (2 + k)) (nI_add 2 k) ?_
          refine lv_aload_n hx hb dX6_removeRule_34 rfl (lv_at hl 0 rfl) ?_
          refine va_get (D := D) (ci := 6) (v := .ref qA) (C := RX6) (T := TX6) (N := 15) hx hb hts ilX6_removeRule_6 hown hG.1 hP 0 rfl rfl 0 (by decide) (hts (.fieldLink RX6 7 "HornEngineModel" "all" "[I") (List.mem_of_getElem? (i := 1) rfl)) (fun _ h9 => h9) rfl dX6_removeRule_35 ?_
          refine lv_iconst (v := nI 2) hx hb dX6_removeRule_38 (by decide) ?_
          refine lv_iload_n hx hb dX6_removeRule_39 rfl (lv_at hl 1 rfl) ?_
          refine lv_iadd hx hb dX6_removeRule_40 ?_
          refine lv_eqi (y := nI (2 + k)) (nI_add 2 k) ?_
          refine lv_iconst (v := nI 1) hx hb dX6_removeRule_41 (by decide) ?_
          refine lv_iadd hx hb dX6_removeRule_42 ?_
          refine lv_eqi (y := nI (2 + k + 1)) (nI_add (2 + k) 1) ?_
          refine ia_ld hx hb hG hP 1 rfl (2 + k + 1) rfl (by omega) (by decide) dX6_removeRule_43 ?_
          refine lv_eqi (y := av (2 + k + 1)) (r2F_a av hk (by omega)) ?_
          refine ia_st hx hb hG hP hD hS 1 rfl (2 + k) rfl (by omega) (by decide) dX6_removeRule_44 (fun H locs hP hD hS => ?_)
          have hP : va_P D vwCl [(mo, .inr (6, [.ref qA, .ref qS, .int (nI sm9_2), .ref qE, .ref qT, .int (nI tl), .ref qQ, .int (nI qd), .ref qF, .int (nI fm), .ref qC, .int (nI ap), .int (nI pl), .ref qH, .ref qB])), (qA, .inl (cI, 50, .inl (upd (r2F av j_ k) (2 + k) (av (2 + k + 1))))), (qS, .inl (cI, 200, .inl sv9_2)), (qE, .inl (cI, 4, .inl er))] H := hP
          have hD : va_D A [(mo, .inr (6, [.ref qA, .ref qS, .int (nI sm9_2), .ref qE, .ref qT, .int (nI tl), .ref qQ, .int (nI qd), .ref qF, .int (nI fm), .ref qC, .int (nI ap), .int (nI pl), .ref qH, .ref qB])), (qA, .inl (cI, 50, .inl (upd (r2F av j_ k) (2 + k) (av (2 + k + 1))))), (qS, .inl (cI, 200, .inl sv9_2)), (qE, .inl (cI, 4, .inl er))] := hD
          refine lv_aload_n hx hb dX6_removeRule_45 rfl (lv_at hl 0 rfl) ?_
          refine va_get (D := D) (ci := 6) (v := .ref qA) (C := RX6) (T := TX6) (N := 15) hx hb hts ilX6_removeRule_6 hown hG.1 hP 0 rfl rfl 0 (by decide) (hts (.fieldLink RX6 7 "HornEngineModel" "all" "[I") (List.mem_of_getElem? (i := 1) rfl)) (fun _ h9 => h9) rfl dX6_removeRule_46 ?_
          refine lv_bipush (v := nI 26) hx hb dX6_removeRule_49 (by decide) ?_
          refine lv_iload_n hx hb dX6_removeRule_51 rfl (lv_at hl 1 rfl) ?_
          refine lv_iadd hx hb dX6_removeRule_52 ?_
          refine lv_eqi (y := nI (26 + k)) (nI_add 26 k) ?_
          refine lv_aload_n hx hb dX6_removeRule_53 rfl (lv_at hl 0 rfl) ?_
          refine va_get (D := D) (ci := 6) (v := .ref qA) (C := RX6) (T := TX6) (N := 15) hx hb hts ilX6_removeRule_6 hown hG.1 hP 0 rfl rfl 0 (by decide) (hts (.fieldLink RX6 7 "HornEngineModel" "all" "[I") (List.mem_of_getElem? (i := 1) rfl)) (fun _ h9 => h9) rfl dX6_removeRule_54 ?_
          refine lv_bipush (v := nI 26) hx hb dX6_removeRule_57 (by decide) ?_
          refine lv_iload_n hx hb dX6_removeRule_59 rfl (lv_at hl 1 rfl) ?_
          refine lv_iadd hx hb dX6_removeRule_60 ?_
          refine lv_eqi (y := nI (26 + k)) (nI_add 26 k) ?_
          refine lv_iconst (v := nI 1) hx hb dX6_removeRule_61 (by decide) ?_
          refine lv_iadd hx hb dX6_removeRule_62 ?_
          refine lv_eqi (y := nI (26 + k + 1)) (nI_add (26 + k) 1) ?_
          refine ia_ld hx hb hG hP 1 rfl (26 + k + 1) rfl (by omega) (by decide) dX6_removeRule_63 ?_
          refine lv_eqi (y := av (26 + k + 1)) (r2F_b av hk (by omega)) ?_
          refine ia_st hx hb hG hP hD hS 1 rfl (26 + k) rfl (by omega) (by decide) dX6_removeRule_64 (fun H locs hP hD hS => ?_)
          rw [show upd (upd (r2F av j_ k) (2 + k) (av (2 + k + 1))) (26 + k) (av (26 + k + 1)) = r2F av j_ (k + 1) from r2F_st av hk (by omega)] at hP hD
          have hP : va_P D vwCl [(mo, .inr (6, [.ref qA, .ref qS, .int (nI sm9_2), .ref qE, .ref qT, .int (nI tl), .ref qQ, .int (nI qd), .ref qF, .int (nI fm), .ref qC, .int (nI ap), .int (nI pl), .ref qH, .ref qB])), (qA, .inl (cI, 50, .inl (r2F av j_ (k + 1)))), (qS, .inl (cI, 200, .inl sv9_2)), (qE, .inl (cI, 4, .inl er))] H := hP
          have hD : va_D A [(mo, .inr (6, [.ref qA, .ref qS, .int (nI sm9_2), .ref qE, .ref qT, .int (nI tl), .ref qQ, .int (nI qd), .ref qF, .int (nI fm), .ref qC, .int (nI ap), .int (nI pl), .ref qH, .ref qB])), (qA, .inl (cI, 50, .inl (r2F av j_ (k + 1)))), (qS, .inl (cI, 200, .inl sv9_2)), (qE, .inl (cI, 4, .inl er))] := hD
          refine lv_iinc (v := nI (k + 1)) (lv' := [(2, .int (nI (k + 1))), (0, .ref mo)]) hx hb dX6_removeRule_65 hl (k := 1) rfl (nI_s1 k) (by decide) rfl (fun ls hl => ?_)
          refine lv_goto (tgt := 21) hx hb dX6_removeRule_68 (by decide) ?_
          exact ih_21 (k + 1) (by omega) (by omega) (by omega) _ _ hP hD hS ls (lv_sub hl [1, 0] rfl)
    exact lp_21_3 (23 - j_ + 1) j_ (by omega) (by omega) (Nat.lt_succ_self _) _ _ hP hD hS ls (lv_sub hl [1, 0] rfl)
  · skip
    have c_1 : (hasR r_ n) = false := bI_f.mp c_1
    have hc : hasR r_ n = false := c_1
    refine lv_aload_n hx hb dX6_removeRule_8 rfl (lv_at hl 0 rfl) ?_
    refine lv_bipush (v := (-2)) hx hb dX6_removeRule_9 (by decide) ?_
    refine ef_V (As := [.int (-2)]) (rest := []) (wr := [(qA, .inl (cI, 50, .inl av)), (qS, .inl (cI, 200, .inl sv))]) ⟨hx, hb, hml, hown, hts⟩ hG hP hD hS hA (k_X6_error l D cI cB mo qA qS sm qE qT tl qQ qd qF fm qC ap pl qH qB er (-2) 0 (by decide) (by decide) _) (cwV 1 hts gX6_removeRule_X6_error rfl rfl rfl (by decide +kernel) ⟨(Nat.le_of_ble_eq_true rfl), (Nat.le_of_ble_eq_true rfl)⟩) [0, 3] [1, 2] rfl rfl rfl rfl (by decide) 0 rfl rfl rfl rfl hl.1 rfl (Nat.le_of_ble_eq_true rfl) dX6_removeRule_11 ⟨(Nat.le_of_ble_eq_true rfl), (Nat.le_of_ble_eq_true rfl)⟩ (fun v_5 u_5 H locs w_5 hP hD hS => ?_)
    have w_5 : v_5 = some (.int (-2)) := w_5
    subst w_5
    have hP : va_P D vwCl [(mo, .inr (6, [.ref qA, .ref qS, .int (nI sm), .ref qE, .ref qT, .int (nI tl), .ref qQ, .int (nI qd), .ref qF, .int (nI fm), .ref qC, .int (nI ap), .int (nI pl), .ref qH, .ref qB])), (qA, .inl (cI, 50, .inl av)), (qS, .inl (cI, 200, .inl sv)), (qE, .inl (cI, 4, .inl (bad er 0)))] H := hP.sub [2, 0, 1, 3] rfl
    have hD : va_D A [(mo, .inr (6, [.ref qA, .ref qS, .int (nI sm), .ref qE, .ref qT, .int (nI tl), .ref qQ, .int (nI qd), .ref qF, .int (nI fm), .ref qC, .int (nI ap), .int (nI pl), .ref qH, .ref qB])), (qA, .inl (cI, 50, .inl av)), (qS, .inl (cI, 200, .inl sv)), (qE, .inl (cI, 4, .inl (bad er 0)))] := hD.sub [2, 0, 1, 3] rfl rfl
    refine W.eq (g2 := F0 m 14 ls [.int (-2)]) rfl ?_
    exact hret _ (-2, av, hs, bs, n, sv, sm, bad er 0) _ _ _ _ (⟨rfl, by rw [remS, if_neg (by rw [tab2_len, hc]; decide)], hM, hn, hsm, hsv⟩) (hP) (hD) hS dX6_removeRule_14
set_option maxHeartbeats 4000000 in
set_option maxRecDepth 100000 in
theorem k_X6_setAssumable (l : Launch) (D : va_G) (cI cB : ClassId) (mo : Nat) (qA : Nat) (qS : Nat) (sm : Nat) (qE : Nat) (qT : Nat) (tl : Nat) (qQ : Nat) (qd : Nat) (qF : Nat) (fm : Nat) (qC : Nat) (ap : Nat) (pl : Nat) (qH : Nat) (qB : Nat) (av : Nat → Int32) (hs : Nat → Int32) (bs : Nat → Int32) (n : Nat) (as_ : Int32) (sv : Nat → Int32) (er : Nat → Int32) (x_ : Int32) (hM : mA av hs bs n as_) (hn : n ≤ 24) (hsm : sm ≤ 4) (hsv : svOK sv sm) (sz : Nat) : Wr l yX6_setAssumable wsX6_setAssumable ({ frames := 1, cells := 0, slots := 0, locals := 25 }) D cI cB [.ref mo, .int x_] [(mo, .inr (6, [.ref qA, .ref qS, .int (nI sm), .ref qE, .ref qT, .int (nI tl), .ref qQ, .int (nI qd), .ref qF, .int (nI fm), .ref qC, .int (nI ap), .int (nI pl), .ref qH, .ref qB])), (qA, .inl (cI, 50, .inl av)), (qS, .inl (cI, 200, .inl sv)), (qE, .inl (cI, 4, .inl er))] sz (S := Int32 × (Nat → Int32) × Int32 × (Nat → Int32) × Nat × (Nat → Int32)) (fun v u => v = some (.int u.1) ∧ ((u.1, u.2.2.1, msv u.2.2.2.1 u.2.2.2.2.1, u.2.2.2.2.2) = asmS x_ (tab2 hs bs n) as_ (msv sv sm) er ∧ mA u.2.1 hs bs n u.2.2.1 ∧ u.2.2.2.2.1 ≤ 4 ∧ svOK u.2.2.2.1 u.2.2.2.2.1)) (fun u => [(mo, .inr (6, [.ref qA, .ref qS, .int (nI u.2.2.2.2.1), .ref qE, .ref qT, .int (nI tl), .ref qQ, .int (nI qd), .ref qF, .int (nI fm), .ref qC, .int (nI ap), .int (nI pl), .ref qH, .ref qB])), (qA, .inl (cI, 50, .inl u.2.1)), (qS, .inl (cI, 200, .inl u.2.2.2.1)), (qE, .inl (cI, 4, .inl u.2.2.2.2.2))]) 0 0 := by
  refine ef_startI (cc := cX6_setAssumable) (maxL := 3) (by decide) rfl (Nat.le_of_ble_eq_true rfl) ?_
  intro p e s m args below meth c Q A hx hb hml hown hts hP hG hD hA hret ls hl
  have hown : s.vm.findClass RX6 = some m.cls := hown
  have hl : lv_has ls 3 [(0, .ref mo), (1, .int x_)] := hl
  have hS : va_S A s.heap s.heap [] := va_S.rf
  refine lv_iload_n hx hb dX6_setAssumable_0 rfl (lv_at hl 1 rfl) ?_
  refine lv_i2l (v := x_.toInt64) hx hb dX6_setAssumable_1 rfl ?_
  refine lv_lconst (v := 0) hx hb dX6_setAssumable_2 (by decide) ?_
  refine lv_ldc2 (v := 65535) hx hb hown (hts (.constantLong RX6 47 (65535)) (List.mem_of_getElem? (i := 1) rfl)) dX6_setAssumable_3 ?_
  refine pu_S (As := [.long x_.toInt64, .long 0, .long 65535]) (rest := []) ⟨hx, hb, hml, hown, hts⟩ hG hP (k_X6_in l D cI cB x_.toInt64 0 65535 ) (cwS 3 hts gX6_setAssumable_X6_in rfl rfl rfl (by decide +kernel) ⟨(Nat.le_of_ble_eq_true rfl), (Nat.le_of_ble_eq_true rfl)⟩) [] rfl rfl hl.1 rfl (Nat.le_of_ble_eq_true rfl) dX6_setAssumable_6 ⟨Nat.zero_le _, Nat.zero_le _⟩ ?_
  refine lv_if_eq (tgt := 21) hx hb dX6_setAssumable_9 (by decide) (fun c_1 => ?_) (fun c_1 => ?_)
  · skip
    have c_1 : (inJ x_.toInt64 0 65535) = false := bI_f.mp c_1
    have hc : isS x_ (nI 8) = false := isS_f1 c_1
    refine lv_aload_n hx hb dX6_setAssumable_21 rfl (lv_at hl 0 rfl) ?_
    refine lv_bipush (v := (-2)) hx hb dX6_setAssumable_22 (by decide) ?_
    refine ef_V (As := [.int (-2)]) (rest := []) (wr := [(qA, .inl (cI, 50, .inl av)), (qS, .inl (cI, 200, .inl sv))]) ⟨hx, hb, hml, hown, hts⟩ hG hP hD hS hA (k_X6_error l D cI cB mo qA qS sm qE qT tl qQ qd qF fm qC ap pl qH qB er (-2) 0 (by decide) (by decide) _) (cwV 1 hts gX6_setAssumable_X6_error rfl rfl rfl (by decide +kernel) ⟨(Nat.le_of_ble_eq_true rfl), (Nat.le_of_ble_eq_true rfl)⟩) [0, 3] [1, 2] rfl rfl rfl rfl (by decide) 0 rfl rfl rfl rfl hl.1 rfl (Nat.le_of_ble_eq_true rfl) dX6_setAssumable_24 ⟨(Nat.le_of_ble_eq_true rfl), (Nat.le_of_ble_eq_true rfl)⟩ (fun v_2 u_2 H locs w_2 hP hD hS => ?_)
    have w_2 : v_2 = some (.int (-2)) := w_2
    subst w_2
    have hP : va_P D vwCl [(mo, .inr (6, [.ref qA, .ref qS, .int (nI sm), .ref qE, .ref qT, .int (nI tl), .ref qQ, .int (nI qd), .ref qF, .int (nI fm), .ref qC, .int (nI ap), .int (nI pl), .ref qH, .ref qB])), (qA, .inl (cI, 50, .inl av)), (qS, .inl (cI, 200, .inl sv)), (qE, .inl (cI, 4, .inl (bad er 0)))] H := hP.sub [2, 0, 1, 3] rfl
    have hD : va_D A [(mo, .inr (6, [.ref qA, .ref qS, .int (nI sm), .ref qE, .ref qT, .int (nI tl), .ref qQ, .int (nI qd), .ref qF, .int (nI fm), .ref qC, .int (nI ap), .int (nI pl), .ref qH, .ref qB])), (qA, .inl (cI, 50, .inl av)), (qS, .inl (cI, 200, .inl sv)), (qE, .inl (cI, 4, .inl (bad er 0)))] := hD.sub [2, 0, 1, 3] rfl rfl
    refine W.eq (g2 := F0 m 27 ls [.int (-2)]) rfl ?_
    exact hret _ (-2, av, as_, sv, sm, bad er 0) _ _ _ _ (⟨rfl, by rw [asmS, if_neg (by rw [hc]; decide)], hM, hsm, hsv⟩) (hP) (hD) hS dX6_setAssumable_27
  · skip
    have c_1 : (inJ x_.toInt64 0 65535) = true := bI_t.mp c_1
    have hi := c_1
    refine lv_iload_n hx hb dX6_setAssumable_12 rfl (lv_at hl 1 rfl) ?_
    refine pu_S (As := [.int x_]) (rest := []) ⟨hx, hb, hml, hown, hts⟩ hG hP (k_X6_size l D cI cB x_ ) (cwS 1 hts gX6_setAssumable_X6_size rfl rfl rfl (by decide +kernel) ⟨(Nat.le_of_ble_eq_true rfl), (Nat.le_of_ble_eq_true rfl)⟩) [] rfl rfl hl.1 rfl (Nat.le_of_ble_eq_true rfl) dX6_setAssumable_13 ⟨Nat.zero_le _, Nat.zero_le _⟩ ?_
    refine lv_bipush (v := nI 8) hx hb dX6_setAssumable_16 (by decide) ?_
    refine lv_icmp_le (tgt := 28) hx hb dX6_setAssumable_18 (by decide) (fun c_3 => ?_) (fun c_3 => ?_)
    · skip
      have hc : isS x_ (nI 8) = true := isS_t hi (fun q => absurd c_3 (Int32.not_le.mpr q))
      refine lv_aload_n hx hb dX6_setAssumable_28 rfl (lv_at hl 0 rfl) ?_
      refine ef_V (As := []) (rest := []) (wr := [(qE, .inl (cI, 4, .inl er))]) ⟨hx, hb, hml, hown, hts⟩ hG hP hD hS hA (k_X6_save l D cI cB mo qA qS sm qE qT tl qQ qd qF fm qC ap pl qH qB av hs bs n as_ sv hM hn hsm hsv _) (cwV 0 hts gX6_setAssumable_X6_save rfl rfl rfl (by decide +kernel) ⟨(Nat.le_of_ble_eq_true rfl), (Nat.le_of_ble_eq_true rfl)⟩) [0, 1, 2] [3] rfl rfl rfl rfl (by decide) 0 rfl rfl rfl rfl hl.1 rfl (Nat.le_of_ble_eq_true rfl) dX6_setAssumable_29 ⟨(Nat.le_of_ble_eq_true rfl), (Nat.le_of_ble_eq_true rfl)⟩ (fun v_4 u_4 H locs w_4 hP hD hS => ?_)
      obtain ⟨sv9_4, sm9_4⟩ := u_4
      obtain ⟨e_4, w_4⟩ := w_4
      have w_4 : msv sv9_4 sm9_4 = svP (msv sv sm) (tab2 hs bs n, as_) ∧ sm9_4 ≤ 4 ∧ svOK sv9_4 sm9_4 := w_4
      have e_4 : v_4 = none := e_4
      subst e_4
      have hP : va_P D vwCl [(mo, .inr (6, [.ref qA, .ref qS, .int (nI sm9_4), .ref qE, .ref qT, .int (nI tl), .ref qQ, .int (nI qd), .ref qF, .int (nI fm), .ref qC, .int (nI ap), .int (nI pl), .ref qH, .ref qB])), (qA, .inl (cI, 50, .inl av)), (qS, .inl (cI, 200, .inl sv9_4)), (qE, .inl (cI, 4, .inl er))] H := hP.sub [1, 2, 3, 0] rfl
      have hD : va_D A [(mo, .inr (6, [.ref qA, .ref qS, .int (nI sm9_4), .ref qE, .ref qT, .int (nI tl), .ref qQ, .int (nI qd), .ref qF, .int (nI fm), .ref qC, .int (nI ap), .int (nI pl), .ref qH, .ref qB])), (qA, .inl (cI, 50, .inl av)), (qS, .inl (cI, 200, .inl sv9_4)), (qE, .inl (cI, 4, .inl er))] := hD.sub [1, 2, 3, 0] rfl rfl
      refine W.eq (g2 := F0 m 32 ls []) rfl ?_
      have hsv1 := w_4.1
      have hk9 := w_4.2.1
      have hB9 := w_4.2.2
      refine lv_aload_n hx hb dX6_setAssumable_32 rfl (lv_at hl 0 rfl) ?_
      refine va_get (D := D) (ci := 6) (v := .ref qA) (C := RX6) (T := TX6) (N := 15) hx hb hts ilX6_setAssumable_6 hown hG.1 hP 0 rfl rfl 0 (by decide) (hts (.fieldLink RX6 7 "HornEngineModel" "all" "[I") (List.mem_of_getElem? (i := 2) rfl)) (fun _ h9 => h9) rfl dX6_setAssumable_33 ?_
      refine lv_iconst (v := nI 1) hx hb dX6_setAssumable_36 (by decide) ?_
      refine ia_ld hx hb hG hP 1 rfl 1 rfl (by omega) (by decide) dX6_setAssumable_37 ?_
      refine lv_eqi (y := as_) hM.2.1 ?_
      refine lv_istore_n (lv' := [(2, .int as_), (0, .ref mo), (1, .int x_)]) hx hb dX6_setAssumable_38 rfl hl (by decide) rfl (fun ls hl => ?_)
      refine lv_aload_n hx hb dX6_setAssumable_39 rfl (lv_at hl 1 rfl) ?_
      refine va_get (D := D) (ci := 6) (v := .ref qA) (C := RX6) (T := TX6) (N := 15) hx hb hts ilX6_setAssumable_6 hown hG.1 hP 0 rfl rfl 0 (by decide) (hts (.fieldLink RX6 7 "HornEngineModel" "all" "[I") (List.mem_of_getElem? (i := 2) rfl)) (fun _ h9 => h9) rfl dX6_setAssumable_40 ?_
      refine lv_iconst (v := nI 1) hx hb dX6_setAssumable_43 (by decide) ?_
      refine lv_iload_n hx hb dX6_setAssumable_44 rfl (lv_at hl 2 rfl) ?_
      refine ia_st hx hb hG hP hD hS 1 rfl 1 rfl (by omega) (by decide) dX6_setAssumable_45 (fun H locs hP hD hS => ?_)
      have hP : va_P D vwCl [(mo, .inr (6, [.ref qA, .ref qS, .int (nI sm9_4), .ref qE, .ref qT, .int (nI tl), .ref qQ, .int (nI qd), .ref qF, .int (nI fm), .ref qC, .int (nI ap), .int (nI pl), .ref qH, .ref qB])), (qA, .inl (cI, 50, .inl (upd av 1 x_))), (qS, .inl (cI, 200, .inl sv9_4)), (qE, .inl (cI, 4, .inl er))] H := hP
      have hD : va_D A [(mo, .inr (6, [.ref qA, .ref qS, .int (nI sm9_4), .ref qE, .ref qT, .int (nI tl), .ref qQ, .int (nI qd), .ref qF, .int (nI fm), .ref qC, .int (nI ap), .int (nI pl), .ref qH, .ref qB])), (qA, .inl (cI, 50, .inl (upd av 1 x_))), (qS, .inl (cI, 200, .inl sv9_4)), (qE, .inl (cI, 4, .inl er))] := hD
      refine lv_iload_n hx hb dX6_setAssumable_46 rfl (lv_at hl 0 rfl) ?_
      exact hret _ (as_, upd av 1 x_, x_, sv9_4, sm9_4, er) _ _ _ _ (⟨rfl, by rw [asmS, if_pos hc, hsv1], asm_mA hM hn, hk9, hB9⟩) (hP) (hD) hS dX6_setAssumable_47
    · skip
      have hc : isS x_ (nI 8) = false := isS_f2 hi (Int32.not_le.mp c_3)
      refine lv_aload_n hx hb dX6_setAssumable_21 rfl (lv_at hl 0 rfl) ?_
      refine lv_bipush (v := (-2)) hx hb dX6_setAssumable_22 (by decide) ?_
      refine ef_V (As := [.int (-2)]) (rest := []) (wr := [(qA, .inl (cI, 50, .inl av)), (qS, .inl (cI, 200, .inl sv))]) ⟨hx, hb, hml, hown, hts⟩ hG hP hD hS hA (k_X6_error l D cI cB mo qA qS sm qE qT tl qQ qd qF fm qC ap pl qH qB er (-2) 0 (by decide) (by decide) _) (cwV 1 hts gX6_setAssumable_X6_error rfl rfl rfl (by decide +kernel) ⟨(Nat.le_of_ble_eq_true rfl), (Nat.le_of_ble_eq_true rfl)⟩) [0, 3] [1, 2] rfl rfl rfl rfl (by decide) 0 rfl rfl rfl rfl hl.1 rfl (Nat.le_of_ble_eq_true rfl) dX6_setAssumable_24 ⟨(Nat.le_of_ble_eq_true rfl), (Nat.le_of_ble_eq_true rfl)⟩ (fun v_5 u_5 H locs w_5 hP hD hS => ?_)
      have w_5 : v_5 = some (.int (-2)) := w_5
      subst w_5
      have hP : va_P D vwCl [(mo, .inr (6, [.ref qA, .ref qS, .int (nI sm), .ref qE, .ref qT, .int (nI tl), .ref qQ, .int (nI qd), .ref qF, .int (nI fm), .ref qC, .int (nI ap), .int (nI pl), .ref qH, .ref qB])), (qA, .inl (cI, 50, .inl av)), (qS, .inl (cI, 200, .inl sv)), (qE, .inl (cI, 4, .inl (bad er 0)))] H := hP.sub [2, 0, 1, 3] rfl
      have hD : va_D A [(mo, .inr (6, [.ref qA, .ref qS, .int (nI sm), .ref qE, .ref qT, .int (nI tl), .ref qQ, .int (nI qd), .ref qF, .int (nI fm), .ref qC, .int (nI ap), .int (nI pl), .ref qH, .ref qB])), (qA, .inl (cI, 50, .inl av)), (qS, .inl (cI, 200, .inl sv)), (qE, .inl (cI, 4, .inl (bad er 0)))] := hD.sub [2, 0, 1, 3] rfl rfl
      refine W.eq (g2 := F0 m 27 ls [.int (-2)]) rfl ?_
      exact hret _ (-2, av, as_, sv, sm, bad er 0) _ _ _ _ (⟨rfl, by rw [asmS, if_neg (by rw [hc]; decide)], hM, hsm, hsv⟩) (hP) (hD) hS dX6_setAssumable_27
set_option maxHeartbeats 4000000 in
set_option maxRecDepth 100000 in
theorem k_X6_undo (l : Launch) (D : va_G) (cI cB : ClassId) (mo : Nat) (qA : Nat) (qS : Nat) (sm : Nat) (qE : Nat) (qT : Nat) (tl : Nat) (qQ : Nat) (qd : Nat) (qF : Nat) (fm : Nat) (qC : Nat) (ap : Nat) (pl : Nat) (qH : Nat) (qB : Nat) (av : Nat → Int32) (hs : Nat → Int32) (bs : Nat → Int32) (n : Nat) (as_ : Int32) (sv : Nat → Int32) (er : Nat → Int32) (hM : mA av hs bs n as_) (hn : n ≤ 24) (hsm : sm ≤ 4) (hsv : svOK sv sm) (sz : Nat) : Wr l yX6_undo wsX6_undo ({ frames := 1, cells := 0, slots := 0, locals := 21 }) D cI cB [.ref mo] [(mo, .inr (6, [.ref qA, .ref qS, .int (nI sm), .ref qE, .ref qT, .int (nI tl), .ref qQ, .int (nI qd), .ref qF, .int (nI fm), .ref qC, .int (nI ap), .int (nI pl), .ref qH, .ref qB])), (qA, .inl (cI, 50, .inl av)), (qS, .inl (cI, 200, .inl sv)), (qE, .inl (cI, 4, .inl er))] sz (S := Int32 × (Nat → Int32) × (Nat → Int32) × (Nat → Int32) × Nat × Int32 × Nat × (Nat → Int32)) (fun v u => v = some (.int u.1) ∧ ((u.1, (tab2 u.2.2.1 u.2.2.2.1 u.2.2.2.2.1, u.2.2.2.2.2.1), msv sv u.2.2.2.2.2.2.1, u.2.2.2.2.2.2.2) = undS (tab2 hs bs n) as_ (msv sv sm) er ∧ mA u.2.1 u.2.2.1 u.2.2.2.1 u.2.2.2.2.1 u.2.2.2.2.2.1 ∧ u.2.2.2.2.1 ≤ 24 ∧ u.2.2.2.2.2.2.1 ≤ 4 ∧ svOK sv u.2.2.2.2.2.2.1)) (fun u => [(mo, .inr (6, [.ref qA, .ref qS, .int (nI u.2.2.2.2.2.2.1), .ref qE, .ref qT, .int (nI tl), .ref qQ, .int (nI qd), .ref qF, .int (nI fm), .ref qC, .int (nI ap), .int (nI pl), .ref qH, .ref qB])), (qA, .inl (cI, 50, .inl u.2.1)), (qS, .inl (cI, 200, .inl sv)), (qE, .inl (cI, 4, .inl u.2.2.2.2.2.2.2))]) 0 0 := by
  refine ef_startI (cc := cX6_undo) (maxL := 2) (by decide) rfl (Nat.le_of_ble_eq_true rfl) ?_
  intro p e s m args below meth c Q A hx hb hml hown hts hP hG hD hA hret ls hl
  have hown : s.vm.findClass RX6 = some m.cls := hown
  have hl : lv_has ls 2 [(0, .ref mo)] := hl
  have hS : va_S A s.heap s.heap [] := va_S.rf
  refine lv_aload_n hx hb dX6_undo_0 rfl (lv_at hl 0 rfl) ?_
  refine va_get (D := D) (ci := 6) (v := .int (nI sm)) (C := RX6) (T := TX6) (N := 15) hx hb hts ilX6_undo_6 hown hG.1 hP 0 rfl rfl 2 (by decide) (hts (.fieldLink RX6 37 "HornEngineModel" "savedMany" "I") (List.mem_of_getElem? (i := 1) rfl)) (fun _ h9 => h9) rfl dX6_undo_1 ?_
  refine lv_if_ne (tgt := 14) hx hb dX6_undo_4 (by decide) (fun c_1 => ?_) (fun c_1 => ?_)
  · skip
    have c_1 : ¬ (sm = 0) := fun h9 => (show ¬ (nI sm = nI 0) from c_1) ((nI_eq (by omega) (by omega)).mpr h9)
    have hk0 : 0 < sm := by omega
    refine lv_aload_n hx hb dX6_undo_14 rfl (lv_at hl 0 rfl) ?_
    refine lv_dup hx hb dX6_undo_15 rfl ?_
    refine va_get (D := D) (ci := 6) (v := .int (nI sm)) (C := RX6) (T := TX6) (N := 15) hx hb hts ilX6_undo_6 hown hG.1 hP 0 rfl rfl 2 (by decide) (hts (.fieldLink RX6 37 "HornEngineModel" "savedMany" "I") (List.mem_of_getElem? (i := 1) rfl)) (fun _ h9 => h9) rfl dX6_undo_16 ?_
    refine lv_iconst (v := nI 1) hx hb dX6_undo_19 (by decide) ?_
    refine lv_isub hx hb dX6_undo_20 ?_
    refine lv_eqi (y := nI (sm - 1)) (nI_sub1 (by omega)) ?_
    refine va_put (D := D) (ci := 6) (v := .int (nI (sm - 1))) (ty := .int) (C := RX6) (T := TX6) (N := 15) hx hb hts ilX6_undo_6 tyX6 tyX6_ok nmX6 hown hG.1 hP hD hS 0 rfl rfl 2 (by decide) (hts (.fieldLink RX6 37 "HornEngineModel" "savedMany" "I") (List.mem_of_getElem? (i := 1) rfl)) (fun _ h9 => h9) rfl (by decide +kernel) rfl rfl (Nat.le_of_ble_eq_true rfl) dX6_undo_21 (fun H locs hP hD hS => ?_)
    have hP : va_P D vwCl [(mo, .inr (6, [.ref qA, .ref qS, .int (nI (sm - 1)), .ref qE, .ref qT, .int (nI tl), .ref qQ, .int (nI qd), .ref qF, .int (nI fm), .ref qC, .int (nI ap), .int (nI pl), .ref qH, .ref qB])), (qA, .inl (cI, 50, .inl av)), (qS, .inl (cI, 200, .inl sv)), (qE, .inl (cI, 4, .inl er))] H := hP
    have hD : va_D A [(mo, .inr (6, [.ref qA, .ref qS, .int (nI (sm - 1)), .ref qE, .ref qT, .int (nI tl), .ref qQ, .int (nI qd), .ref qF, .int (nI fm), .ref qC, .int (nI ap), .int (nI pl), .ref qH, .ref qB])), (qA, .inl (cI, 50, .inl av)), (qS, .inl (cI, 200, .inl sv)), (qE, .inl (cI, 4, .inl er))] := hD
    refine lv_iconst (v := nI 0) hx hb dX6_undo_24 (by decide) ?_
    refine lv_istore_n (lv' := [(1, .int (nI 0)), (0, .ref mo)]) hx hb dX6_undo_25 rfl hl (by decide) rfl (fun ls hl => ?_)
    have hP : va_P D vwCl [(mo, .inr (6, [.ref qA, .ref qS, .int (nI (sm - 1)), .ref qE, .ref qT, .int (nI tl), .ref qQ, .int (nI qd), .ref qF, .int (nI fm), .ref qC, .int (nI ap), .int (nI pl), .ref qH, .ref qB])), (qA, .inl (cI, 50, .inl (cbF av (blk sv (sm - 1)) 0 0))), (qS, .inl (cI, 200, .inl sv)), (qE, .inl (cI, 4, .inl er))] H := by rw [cbF_0]; exact hP
    have hD : va_D A [(mo, .inr (6, [.ref qA, .ref qS, .int (nI (sm - 1)), .ref qE, .ref qT, .int (nI tl), .ref qQ, .int (nI qd), .ref qF, .int (nI fm), .ref qC, .int (nI ap), .int (nI pl), .ref qH, .ref qB])), (qA, .inl (cI, 50, .inl (cbF av (blk sv (sm - 1)) 0 0))), (qS, .inl (cI, 200, .inl sv)), (qE, .inl (cI, 4, .inl er))] := by rw [cbF_0]; exact hD
    have lp_26_2 : ∀ (fu_26 : Nat) (k : Nat) (hk : k ≤ 50) (hfu_26 : 50 - k < fu_26) (H : Heap) (locs : List Loc) (hP : va_P D vwCl [(mo, .inr (6, [.ref qA, .ref qS, .int (nI (sm - 1)), .ref qE, .ref qT, .int (nI tl), .ref qQ, .int (nI qd), .ref qF, .int (nI fm), .ref qC, .int (nI ap), .int (nI pl), .ref qH, .ref qB])), (qA, .inl (cI, 50, .inl (cbF av (blk sv (sm - 1)) 0 k))), (qS, .inl (cI, 200, .inl sv)), (qE, .inl (cI, 4, .inl er))] H) (hD : va_D A [(mo, .inr (6, [.ref qA, .ref qS, .int (nI (sm - 1)), .ref qE, .ref qT, .int (nI tl), .ref qQ, .int (nI qd), .ref qF, .int (nI fm), .ref qC, .int (nI ap), .int (nI pl), .ref qH, .ref qB])), (qA, .inl (cI, 50, .inl (cbF av (blk sv (sm - 1)) 0 k))), (qS, .inl (cI, 200, .inl sv)), (qE, .inl (cI, 4, .inl er))]) (hS : va_S A s.heap H locs) (ls : Array Slot) (hl : lv_has ls 2 [(0, .ref mo), (1, .int (nI k))]), W p l e ({ frames := 1, cells := 0, slots := 0, locals := 21 }) s m args below meth c H locs 0 0 Q (F0 m 26 ls []) := by
      intro fu_26
      induction fu_26 with
      | zero => intro k hk hfu; exact absurd hfu (Nat.not_lt_zero _)
      | succ fu_26 ih_26 =>
        intro k hk hfu_26 H locs hP hD hS ls hl
        refine lv_iload_n hx hb dX6_undo_26 rfl (lv_at hl 1 rfl) ?_
        refine lv_bipush (v := nI 50) hx hb dX6_undo_27 (by decide) ?_
        refine lv_icmp_ge (tgt := 58) hx hb dX6_undo_29 (by decide) (fun c_3 => ?_) (fun c_3 => ?_)
        · skip
          have c_3 : 50 ≤ k := (nI_leI (by omega) (by omega)).mp (show nI 50 ≤ nI k from c_3)
          refine lv_aload_n hx hb dX6_undo_58 rfl (lv_at hl 0 rfl) ?_
          refine va_get (D := D) (ci := 6) (v := .int (nI (sm - 1))) (C := RX6) (T := TX6) (N := 15) hx hb hts ilX6_undo_6 hown hG.1 hP 0 rfl rfl 2 (by decide) (hts (.fieldLink RX6 37 "HornEngineModel" "savedMany" "I") (List.mem_of_getElem? (i := 1) rfl)) (fun _ h9 => h9) rfl dX6_undo_59 ?_
          exact hret _ (nI (sm - 1), cbF av (blk sv (sm - 1)) 0 50, fun j => sv (50 * (sm - 1) + (2 + j)), fun j => sv (50 * (sm - 1) + (26 + j)), (sv (50 * (sm - 1))).toNatClampNeg, sv (50 * (sm - 1) + 1), sm - 1, er) _ _ _ _ (⟨rfl, by rw [undS_1 (msv_last sv hk0), msv_len, msv_drop sv hk0]; rfl, und_mA av sv (hsv (sm - 1) (by omega)), n24_c (hsv (sm - 1) (by omega)), (show sm - 1 ≤ 4 by omega), fun i hi => hsv i (Nat.lt_of_lt_of_le hi (Nat.sub_le sm 1))⟩) (by rw [show 50 = k from by omega]; rw [show 50 = k from by omega] at hP; exact hP) (by rw [show 50 = k from by omega]; rw [show 50 = k from by omega] at hD; exact hD) hS dX6_undo_62
        · skip
          have c_3 : ¬ (50 ≤ k) := fun h9 => (show ¬ (nI 50 ≤ nI k) from c_3) ((nI_leI (by omega) (by omega)).mpr h9)
          refine lv_aload_n hx hb dX6_undo_32 rfl (lv_at hl 0 rfl) ?_
          refine va_get (D := D) (ci := 6) (v := .ref qA) (C := RX6) (T := TX6) (N := 15) hx hb hts ilX6_undo_6 hown hG.1 hP 0 rfl rfl 0 (by decide) (hts (.fieldLink RX6 7 "HornEngineModel" "all" "[I") (List.mem_of_getElem? (i := 2) rfl)) (fun _ h9 => h9) rfl dX6_undo_33 ?_
          refine lv_iload_n hx hb dX6_undo_36 rfl (lv_at hl 1 rfl) ?_
          refine lv_aload_n hx hb dX6_undo_37 rfl (lv_at hl 0 rfl) ?_
          refine va_get (D := D) (ci := 6) (v := .ref qS) (C := RX6) (T := TX6) (N := 15) hx hb hts ilX6_undo_6 hown hG.1 hP 0 rfl rfl 1 (by decide) (hts (.fieldLink RX6 13 "HornEngineModel" "saved" "[I") (List.mem_of_getElem? (i := 3) rfl)) (fun _ h9 => h9) rfl dX6_undo_38 ?_
          refine lv_bipush (v := nI 50) hx hb dX6_undo_41 (by decide) ?_
          refine lv_aload_n hx hb dX6_undo_43 rfl (lv_at hl 0 rfl) ?_
          refine va_get (D := D) (ci := 6) (v := .int (nI (sm - 1))) (C := RX6) (T := TX6) (N := 15) hx hb hts ilX6_undo_6 hown hG.1 hP 0 rfl rfl 2 (by decide) (hts (.fieldLink RX6 37 "HornEngineModel" "savedMany" "I") (List.mem_of_getElem? (i := 1) rfl)) (fun _ h9 => h9) rfl dX6_undo_44 ?_
          refine lv_imul hx hb dX6_undo_47 ?_
          refine lv_eqi (y := nI (50 * (sm - 1))) (nI_mul 50 (sm - 1)) ?_
          refine lv_iload_n hx hb dX6_undo_48 rfl (lv_at hl 1 rfl) ?_
          refine lv_iadd hx hb dX6_undo_49 ?_
          refine lv_eqi (y := nI (50 * (sm - 1) + k)) (nI_add (50 * (sm - 1)) k) ?_
          refine ia_ld hx hb hG hP 2 rfl (50 * (sm - 1) + k) rfl (by omega) (by decide) dX6_undo_50 ?_
          refine ia_st hx hb hG hP hD hS 1 rfl k rfl (by omega) (by decide) dX6_undo_51 (fun H locs hP hD hS => ?_)
          rw [show upd (cbF av (blk sv (sm - 1)) 0 k) k (sv (50 * (sm - 1) + k)) = cbF av (blk sv (sm - 1)) 0 (k + 1) from (by have h9 := cbF_st av (blk sv (sm - 1)) 0 k; rw [Nat.zero_add] at h9; exact h9)] at hP hD
          have hP : va_P D vwCl [(mo, .inr (6, [.ref qA, .ref qS, .int (nI (sm - 1)), .ref qE, .ref qT, .int (nI tl), .ref qQ, .int (nI qd), .ref qF, .int (nI fm), .ref qC, .int (nI ap), .int (nI pl), .ref qH, .ref qB])), (qA, .inl (cI, 50, .inl (cbF av (blk sv (sm - 1)) 0 (k + 1)))), (qS, .inl (cI, 200, .inl sv)), (qE, .inl (cI, 4, .inl er))] H := hP
          have hD : va_D A [(mo, .inr (6, [.ref qA, .ref qS, .int (nI (sm - 1)), .ref qE, .ref qT, .int (nI tl), .ref qQ, .int (nI qd), .ref qF, .int (nI fm), .ref qC, .int (nI ap), .int (nI pl), .ref qH, .ref qB])), (qA, .inl (cI, 50, .inl (cbF av (blk sv (sm - 1)) 0 (k + 1)))), (qS, .inl (cI, 200, .inl sv)), (qE, .inl (cI, 4, .inl er))] := hD
          refine lv_iinc (v := nI (k + 1)) (lv' := [(1, .int (nI (k + 1))), (0, .ref mo)]) hx hb dX6_undo_52 hl (k := 1) rfl (nI_s1 k) (by decide) rfl (fun ls hl => ?_)
          refine lv_goto (tgt := 26) hx hb dX6_undo_55 (by decide) ?_
          exact ih_26 (k + 1) (by omega) (by omega) _ _ hP hD hS ls (lv_sub hl [1, 0] rfl)
    exact lp_26_2 (50 - 0 + 1) 0 (by omega) (Nat.lt_succ_self _) _ _ hP hD hS ls (lv_sub hl [1, 0] rfl)
  · skip
    have c_1 : sm = 0 := (nI_eq (by omega) (by omega)).mp (show nI sm = nI 0 from c_1)
    have hk0 : sm = 0 := by omega
    refine lv_aload_n hx hb dX6_undo_7 rfl (lv_at hl 0 rfl) ?_
    refine lv_bipush (v := (-5)) hx hb dX6_undo_8 (by decide) ?_
    refine ef_V (As := [.int (-5)]) (rest := []) (wr := [(qA, .inl (cI, 50, .inl av)), (qS, .inl (cI, 200, .inl sv))]) ⟨hx, hb, hml, hown, hts⟩ hG hP hD hS hA (k_X6_error l D cI cB mo qA qS sm qE qT tl qQ qd qF fm qC ap pl qH qB er (-5) 3 (by decide) (by decide) _) (cwV 1 hts gX6_undo_X6_error rfl rfl rfl (by decide +kernel) ⟨(Nat.le_of_ble_eq_true rfl), (Nat.le_of_ble_eq_true rfl)⟩) [0, 3] [1, 2] rfl rfl rfl rfl (by decide) 0 rfl rfl rfl rfl hl.1 rfl (Nat.le_of_ble_eq_true rfl) dX6_undo_10 ⟨(Nat.le_of_ble_eq_true rfl), (Nat.le_of_ble_eq_true rfl)⟩ (fun v_4 u_4 H locs w_4 hP hD hS => ?_)
    have w_4 : v_4 = some (.int (-5)) := w_4
    subst w_4
    have hP : va_P D vwCl [(mo, .inr (6, [.ref qA, .ref qS, .int (nI sm), .ref qE, .ref qT, .int (nI tl), .ref qQ, .int (nI qd), .ref qF, .int (nI fm), .ref qC, .int (nI ap), .int (nI pl), .ref qH, .ref qB])), (qA, .inl (cI, 50, .inl av)), (qS, .inl (cI, 200, .inl sv)), (qE, .inl (cI, 4, .inl (bad er 3)))] H := hP.sub [2, 0, 1, 3] rfl
    have hD : va_D A [(mo, .inr (6, [.ref qA, .ref qS, .int (nI sm), .ref qE, .ref qT, .int (nI tl), .ref qQ, .int (nI qd), .ref qF, .int (nI fm), .ref qC, .int (nI ap), .int (nI pl), .ref qH, .ref qB])), (qA, .inl (cI, 50, .inl av)), (qS, .inl (cI, 200, .inl sv)), (qE, .inl (cI, 4, .inl (bad er 3)))] := hD.sub [2, 0, 1, 3] rfl rfl
    refine W.eq (g2 := F0 m 13 ls [.int (-5)]) rfl ?_
    exact hret _ (-5, av, hs, bs, n, as_, sm, bad er 3) _ _ _ _ (⟨rfl, by rw [hk0]; rfl, hM, hn, hsm, hsv⟩) (hP) (hD) hS dX6_undo_13
