theorem ilX6_error_6 : ∀ w ∈ u_ws RX6 TX6 15, w ∈ wsX6_error := by decide +kernel
theorem ilX6_supports_6 : ∀ w ∈ u_ws RX6 TX6 15, w ∈ wsX6_supports := by decide +kernel
theorem ilX6_errorCount_6 : ∀ w ∈ u_ws RX6 TX6 15, w ∈ wsX6_errorCount := by decide +kernel
theorem ilX6_append_6 : ∀ w ∈ u_ws RX6 TX6 15, w ∈ wsX6_append := by decide +kernel
theorem ilX6_clearText_6 : ∀ w ∈ u_ws RX6 TX6 15, w ∈ wsX6_clearText := by decide +kernel
theorem ilX6_save_6 : ∀ w ∈ u_ws RX6 TX6 15, w ∈ wsX6_save := by decide +kernel
set_option maxHeartbeats 4000000 in
set_option maxRecDepth 100000 in
theorem k_X6_error (l : Launch) (D : va_G) (cI cB : ClassId) (mo : Nat) (qA : Nat) (qS : Nat) (sm : Nat) (qE : Nat) (qT : Nat) (tl : Nat) (qQ : Nat) (qd : Nat) (qF : Nat) (fm : Nat) (qC : Nat) (ap : Nat) (pl : Nat) (qH : Nat) (qB : Nat) (er : Nat → Int32) (cd : Int32) (j : Nat) (hj : j < 4) (hcd : cd = (-2) - nI j) (sz : Nat) : Wr l yX6_error wsX6_error ({ frames := 0, cells := 0, slots := 0, locals := 0 }) D cI cB [.ref mo, .int cd] [(mo, .inr (6, [.ref qA, .ref qS, .int (nI sm), .ref qE, .ref qT, .int (nI tl), .ref qQ, .int (nI qd), .ref qF, .int (nI fm), .ref qC, .int (nI ap), .int (nI pl), .ref qH, .ref qB])), (qE, .inl (cI, 4, .inl er))] sz (S := Unit) (fun v u => v = some (.int cd)) (fun u => [(mo, .inr (6, [.ref qA, .ref qS, .int (nI sm), .ref qE, .ref qT, .int (nI tl), .ref qQ, .int (nI qd), .ref qF, .int (nI fm), .ref qC, .int (nI ap), .int (nI pl), .ref qH, .ref qB])), (qE, .inl (cI, 4, .inl (bad er j)))]) 0 0 := by
  refine ef_startI (cc := cX6_error) (maxL := 2) (by decide) rfl (Nat.le_of_ble_eq_true rfl) ?_
  intro p e s m args below meth c Q A hx hb hml hown hts hP hG hD hA hret ls hl
  have hown : s.vm.findClass RX6 = some m.cls := hown
  have hl : lv_has ls 2 [(0, .ref mo), (1, .int cd)] := hl
  have hS : va_S A s.heap s.heap [] := va_S.rf
  refine lv_aload_n hx hb dX6_error_0 rfl (lv_at hl 0 rfl) ?_
  refine va_get (D := D) (ci := 6) (v := .ref qE) (C := RX6) (T := TX6) (N := 15) hx hb hts ilX6_error_6 hown hG.1 hP 0 rfl rfl 3 (by decide) (hts (.fieldLink RX6 16 "HornEngineModel" "errors" "[I") (List.mem_of_getElem? (i := 1) rfl)) (fun _ h9 => h9) rfl dX6_error_1 ?_
  refine lv_bipush (v := (-2)) hx hb dX6_error_4 (by decide) ?_
  refine lv_iload_n hx hb dX6_error_6 rfl (lv_at hl 1 rfl) ?_
  refine lv_isub hx hb dX6_error_7 ?_
  refine lv_eqi (y := nI j) (by rw [hcd]; exact cd_ix j) ?_
  refine lv_dup2_11 hx hb dX6_error_8 rfl rfl ?_
  refine ia_ld hx hb hG hP 1 rfl j rfl (by omega) (by decide) dX6_error_9 ?_
  refine lv_iconst (v := nI 1) hx hb dX6_error_10 (by decide) ?_
  refine lv_iadd hx hb dX6_error_11 ?_
  refine ia_st hx hb hG hP hD hS 1 rfl j rfl (by omega) (by decide) dX6_error_12 (fun H locs hP hD hS => ?_)
  rw [show upd er j ((er j) + (nI 1)) = bad er j from rfl] at hP hD
  have hP : va_P D vwCl [(mo, .inr (6, [.ref qA, .ref qS, .int (nI sm), .ref qE, .ref qT, .int (nI tl), .ref qQ, .int (nI qd), .ref qF, .int (nI fm), .ref qC, .int (nI ap), .int (nI pl), .ref qH, .ref qB])), (qE, .inl (cI, 4, .inl (bad er j)))] H := hP
  have hD : va_D A [(mo, .inr (6, [.ref qA, .ref qS, .int (nI sm), .ref qE, .ref qT, .int (nI tl), .ref qQ, .int (nI qd), .ref qF, .int (nI fm), .ref qC, .int (nI ap), .int (nI pl), .ref qH, .ref qB])), (qE, .inl (cI, 4, .inl (bad er j)))] := hD
  refine lv_iload_n hx hb dX6_error_13 rfl (lv_at hl 1 rfl) ?_
  exact hret _ () _ _ _ _ (rfl) (hP) (hD) hS dX6_error_14
set_option maxHeartbeats 4000000 in
set_option maxRecDepth 100000 in
theorem k_X6_head (l : Launch) (D : va_G) (cI cB : ClassId) (mo : Nat) (qA : Nat) (qS : Nat) (sm : Nat) (qE : Nat) (qT : Nat) (tl : Nat) (qQ : Nat) (qd : Nat) (qF : Nat) (fm : Nat) (qC : Nat) (ap : Nat) (pl : Nat) (qH : Nat) (qB : Nat) (av : Nat → Int32) (hs : Nat → Int32) (bs : Nat → Int32) (n : Nat) (as_ : Int32) (er : Nat → Int32) (r_ : Int32) (hM : mA av hs bs n as_) (hn : n ≤ 24) (hH : hOK hs n) (sz : Nat) : Wr l yX6_head wsX6_head ({ frames := 2, cells := 0, slots := 0, locals := 46 }) D cI cB [.ref mo, .int r_] [(mo, .inr (6, [.ref qA, .ref qS, .int (nI sm), .ref qE, .ref qT, .int (nI tl), .ref qQ, .int (nI qd), .ref qF, .int (nI fm), .ref qC, .int (nI ap), .int (nI pl), .ref qH, .ref qB])), (qA, .inl (cI, 50, .inl av)), (qE, .inl (cI, 4, .inl er))] sz (S := Unit) (fun v u => v = some (.int (cond (hasR r_ n) (hs r_.toNatClampNeg) (-2)))) (fun u => [(mo, .inr (6, [.ref qA, .ref qS, .int (nI sm), .ref qE, .ref qT, .int (nI tl), .ref qQ, .int (nI qd), .ref qF, .int (nI fm), .ref qC, .int (nI ap), .int (nI pl), .ref qH, .ref qB])), (qA, .inl (cI, 50, .inl av)), (qE, .inl (cI, 4, .inl (cond (hasR r_ n) er (bad er 0))))]) 0 0 := by
  refine ef_startI (cc := cX6_head) (maxL := 2) (by decide) rfl (Nat.le_of_ble_eq_true rfl) ?_
  intro p e s m args below meth c Q A hx hb hml hown hts hP hG hD hA hret ls hl
  have hown : s.vm.findClass RX6 = some m.cls := hown
  have hl : lv_has ls 2 [(0, .ref mo), (1, .int r_)] := hl
  have hS : va_S A s.heap s.heap [] := va_S.rf
  refine lv_aload_n hx hb dX6_head_0 rfl (lv_at hl 0 rfl) ?_
  refine lv_iload_n hx hb dX6_head_1 rfl (lv_at hl 1 rfl) ?_
  refine pu_V (As := [.int r_]) (rest := []) ⟨hx, hb, hml, hown, hts⟩ hG hP (k_X6_isRule l D cI cB mo qA qS sm qE qT tl qQ qd qF fm qC ap pl qH qB av hs bs n as_ r_ hM hn) (cwV 1 hts gX6_head_X6_isRule rfl rfl rfl (by decide +kernel) ⟨(Nat.le_of_ble_eq_true rfl), (Nat.le_of_ble_eq_true rfl)⟩) [0, 1] rfl 0 rfl rfl rfl rfl hl.1 rfl (Nat.le_of_ble_eq_true rfl) dX6_head_2 ⟨Nat.zero_le _, Nat.zero_le _⟩ ?_
  refine lv_if_eq (tgt := 16) hx hb dX6_head_5 (by decide) (fun c_1 => ?_) (fun c_1 => ?_)
  · skip
    have c_1 : (hasR r_ n) = false := bI_f.mp c_1
    have hc : hasR r_ n = false := c_1
    refine lv_aload_n hx hb dX6_head_16 rfl (lv_at hl 0 rfl) ?_
    refine lv_bipush (v := (-2)) hx hb dX6_head_17 (by decide) ?_
    refine ef_V (As := [.int (-2)]) (rest := []) (wr := [(qA, .inl (cI, 50, .inl av))]) ⟨hx, hb, hml, hown, hts⟩ hG hP hD hS hA (k_X6_error l D cI cB mo qA qS sm qE qT tl qQ qd qF fm qC ap pl qH qB er (-2) 0 (by decide) (by decide) _) (cwV 1 hts gX6_head_X6_error rfl rfl rfl (by decide +kernel) ⟨(Nat.le_of_ble_eq_true rfl), (Nat.le_of_ble_eq_true rfl)⟩) [0, 2] [1] rfl rfl rfl rfl (by decide) 0 rfl rfl rfl rfl hl.1 rfl (Nat.le_of_ble_eq_true rfl) dX6_head_19 ⟨(Nat.le_of_ble_eq_true rfl), (Nat.le_of_ble_eq_true rfl)⟩ (fun v_2 u_2 H locs w_2 hP hD hS => ?_)
    have w_2 : v_2 = some (.int (-2)) := w_2
    subst w_2
    have hP : va_P D vwCl [(mo, .inr (6, [.ref qA, .ref qS, .int (nI sm), .ref qE, .ref qT, .int (nI tl), .ref qQ, .int (nI qd), .ref qF, .int (nI fm), .ref qC, .int (nI ap), .int (nI pl), .ref qH, .ref qB])), (qA, .inl (cI, 50, .inl av)), (qE, .inl (cI, 4, .inl (bad er 0)))] H := hP.sub [1, 0, 2] rfl
    have hD : va_D A [(mo, .inr (6, [.ref qA, .ref qS, .int (nI sm), .ref qE, .ref qT, .int (nI tl), .ref qQ, .int (nI qd), .ref qF, .int (nI fm), .ref qC, .int (nI ap), .int (nI pl), .ref qH, .ref qB])), (qA, .inl (cI, 50, .inl av)), (qE, .inl (cI, 4, .inl (bad er 0)))] := hD.sub [1, 0, 2] rfl rfl
    refine W.eq (g2 := F0 m 22 ls [.int (-2)]) rfl ?_
    exact hret _ () _ _ _ _ (by rw [hc]; rfl) (by rw [hc]; exact hP) (by rw [hc]; exact hD) hS dX6_head_22
  · skip
    have c_1 : (hasR r_ n) = true := bI_t.mp c_1
    obtain ⟨j_, hj_, rfl⟩ := hasR_nat (by omega) c_1
    refine lv_aload_n hx hb dX6_head_8 rfl (lv_at hl 0 rfl) ?_
    refine lv_iload_n hx hb dX6_head_9 rfl (lv_at hl 1 rfl) ?_
    refine pu_V (As := [.int (nI j_)]) (rest := []) ⟨hx, hb, hml, hown, hts⟩ hG hP (k_X6_headOf l D cI cB mo qA qS sm qE qT tl qQ qd qF fm qC ap pl qH qB av hs bs n as_ j_ hM hn hj_) (cwV 1 hts gX6_head_X6_headOf rfl rfl rfl (by decide +kernel) ⟨(Nat.le_of_ble_eq_true rfl), (Nat.le_of_ble_eq_true rfl)⟩) [0, 1] rfl 0 rfl rfl rfl rfl hl.1 rfl (Nat.le_of_ble_eq_true rfl) dX6_head_10 ⟨Nat.zero_le _, Nat.zero_le _⟩ ?_
    refine lv_goto (tgt := 22) hx hb dX6_head_13 (by decide) ?_
    exact hret _ () _ _ _ _ (by rw [hasR_of hj_ (by omega), nI_clamp (by omega)]; rfl) (by rw [hasR_of hj_ (by omega)]; exact hP) (by rw [hasR_of hj_ (by omega)]; exact hD) hS dX6_head_22
set_option maxHeartbeats 4000000 in
set_option maxRecDepth 100000 in
theorem k_X6_body (l : Launch) (D : va_G) (cI cB : ClassId) (mo : Nat) (qA : Nat) (qS : Nat) (sm : Nat) (qE : Nat) (qT : Nat) (tl : Nat) (qQ : Nat) (qd : Nat) (qF : Nat) (fm : Nat) (qC : Nat) (ap : Nat) (pl : Nat) (qH : Nat) (qB : Nat) (av : Nat → Int32) (hs : Nat → Int32) (bs : Nat → Int32) (n : Nat) (as_ : Int32) (er : Nat → Int32) (r_ : Int32) (hM : mA av hs bs n as_) (hn : n ≤ 24) (hH : hOK hs n) (sz : Nat) : Wr l yX6_body wsX6_body ({ frames := 2, cells := 0, slots := 0, locals := 46 }) D cI cB [.ref mo, .int r_] [(mo, .inr (6, [.ref qA, .ref qS, .int (nI sm), .ref qE, .ref qT, .int (nI tl), .ref qQ, .int (nI qd), .ref qF, .int (nI fm), .ref qC, .int (nI ap), .int (nI pl), .ref qH, .ref qB])), (qA, .inl (cI, 50, .inl av)), (qE, .inl (cI, 4, .inl er))] sz (S := Unit) (fun v u => v = some (.int (cond (hasR r_ n) (bs r_.toNatClampNeg) (-2)))) (fun u => [(mo, .inr (6, [.ref qA, .ref qS, .int (nI sm), .ref qE, .ref qT, .int (nI tl), .ref qQ, .int (nI qd), .ref qF, .int (nI fm), .ref qC, .int (nI ap), .int (nI pl), .ref qH, .ref qB])), (qA, .inl (cI, 50, .inl av)), (qE, .inl (cI, 4, .inl (cond (hasR r_ n) er (bad er 0))))]) 0 0 := by
  refine ef_startI (cc := cX6_body) (maxL := 2) (by decide) rfl (Nat.le_of_ble_eq_true rfl) ?_
  intro p e s m args below meth c Q A hx hb hml hown hts hP hG hD hA hret ls hl
  have hown : s.vm.findClass RX6 = some m.cls := hown
  have hl : lv_has ls 2 [(0, .ref mo), (1, .int r_)] := hl
  have hS : va_S A s.heap s.heap [] := va_S.rf
  refine lv_aload_n hx hb dX6_body_0 rfl (lv_at hl 0 rfl) ?_
  refine lv_iload_n hx hb dX6_body_1 rfl (lv_at hl 1 rfl) ?_
  refine pu_V (As := [.int r_]) (rest := []) ⟨hx, hb, hml, hown, hts⟩ hG hP (k_X6_isRule l D cI cB mo qA qS sm qE qT tl qQ qd qF fm qC ap pl qH qB av hs bs n as_ r_ hM hn) (cwV 1 hts gX6_body_X6_isRule rfl rfl rfl (by decide +kernel) ⟨(Nat.le_of_ble_eq_true rfl), (Nat.le_of_ble_eq_true rfl)⟩) [0, 1] rfl 0 rfl rfl rfl rfl hl.1 rfl (Nat.le_of_ble_eq_true rfl) dX6_body_2 ⟨Nat.zero_le _, Nat.zero_le _⟩ ?_
  refine lv_if_eq (tgt := 16) hx hb dX6_body_5 (by decide) (fun c_1 => ?_) (fun c_1 => ?_)
  · skip
    have c_1 : (hasR r_ n) = false := bI_f.mp c_1
    have hc : hasR r_ n = false := c_1
    refine lv_aload_n hx hb dX6_body_16 rfl (lv_at hl 0 rfl) ?_
    refine lv_bipush (v := (-2)) hx hb dX6_body_17 (by decide) ?_
    refine ef_V (As := [.int (-2)]) (rest := []) (wr := [(qA, .inl (cI, 50, .inl av))]) ⟨hx, hb, hml, hown, hts⟩ hG hP hD hS hA (k_X6_error l D cI cB mo qA qS sm qE qT tl qQ qd qF fm qC ap pl qH qB er (-2) 0 (by decide) (by decide) _) (cwV 1 hts gX6_body_X6_error rfl rfl rfl (by decide +kernel) ⟨(Nat.le_of_ble_eq_true rfl), (Nat.le_of_ble_eq_true rfl)⟩) [0, 2] [1] rfl rfl rfl rfl (by decide) 0 rfl rfl rfl rfl hl.1 rfl (Nat.le_of_ble_eq_true rfl) dX6_body_19 ⟨(Nat.le_of_ble_eq_true rfl), (Nat.le_of_ble_eq_true rfl)⟩ (fun v_2 u_2 H locs w_2 hP hD hS => ?_)
    have w_2 : v_2 = some (.int (-2)) := w_2
    subst w_2
    have hP : va_P D vwCl [(mo, .inr (6, [.ref qA, .ref qS, .int (nI sm), .ref qE, .ref qT, .int (nI tl), .ref qQ, .int (nI qd), .ref qF, .int (nI fm), .ref qC, .int (nI ap), .int (nI pl), .ref qH, .ref qB])), (qA, .inl (cI, 50, .inl av)), (qE, .inl (cI, 4, .inl (bad er 0)))] H := hP.sub [1, 0, 2] rfl
    have hD : va_D A [(mo, .inr (6, [.ref qA, .ref qS, .int (nI sm), .ref qE, .ref qT, .int (nI tl), .ref qQ, .int (nI qd), .ref qF, .int (nI fm), .ref qC, .int (nI ap), .int (nI pl), .ref qH, .ref qB])), (qA, .inl (cI, 50, .inl av)), (qE, .inl (cI, 4, .inl (bad er 0)))] := hD.sub [1, 0, 2] rfl rfl
    refine W.eq (g2 := F0 m 22 ls [.int (-2)]) rfl ?_
    exact hret _ () _ _ _ _ (by rw [hc]; rfl) (by rw [hc]; exact hP) (by rw [hc]; exact hD) hS dX6_body_22
  · skip
    have c_1 : (hasR r_ n) = true := bI_t.mp c_1
    obtain ⟨j_, hj_, rfl⟩ := hasR_nat (by omega) c_1
    refine lv_aload_n hx hb dX6_body_8 rfl (lv_at hl 0 rfl) ?_
    refine lv_iload_n hx hb dX6_body_9 rfl (lv_at hl 1 rfl) ?_
    refine pu_V (As := [.int (nI j_)]) (rest := []) ⟨hx, hb, hml, hown, hts⟩ hG hP (k_X6_bodyOf l D cI cB mo qA qS sm qE qT tl qQ qd qF fm qC ap pl qH qB av hs bs n as_ j_ hM hn hj_) (cwV 1 hts gX6_body_X6_bodyOf rfl rfl rfl (by decide +kernel) ⟨(Nat.le_of_ble_eq_true rfl), (Nat.le_of_ble_eq_true rfl)⟩) [0, 1] rfl 0 rfl rfl rfl rfl hl.1 rfl (Nat.le_of_ble_eq_true rfl) dX6_body_10 ⟨Nat.zero_le _, Nat.zero_le _⟩ ?_
    refine lv_goto (tgt := 22) hx hb dX6_body_13 (by decide) ?_
    exact hret _ () _ _ _ _ (by rw [hasR_of hj_ (by omega), nI_clamp (by omega)]; rfl) (by rw [hasR_of hj_ (by omega)]; exact hP) (by rw [hasR_of hj_ (by omega)]; exact hD) hS dX6_body_22
set_option maxHeartbeats 4000000 in
set_option maxRecDepth 100000 in
theorem k_X6_overDeleted (l : Launch) (D : va_G) (cI cB : ClassId) (mo : Nat) (qA : Nat) (qS : Nat) (sm : Nat) (qE : Nat) (qT : Nat) (tl : Nat) (qQ : Nat) (qd : Nat) (qF : Nat) (fm : Nat) (qC : Nat) (ap : Nat) (pl : Nat) (qH : Nat) (qB : Nat) (av : Nat → Int32) (hs : Nat → Int32) (bs : Nat → Int32) (n : Nat) (as_ : Int32) (er : Nat → Int32) (r_ : Int32) (hM : mA av hs bs n as_) (hn : n ≤ 24) (hH : hOK hs n) (sz : Nat) : Wr l yX6_overDeleted wsX6_overDeleted ({ frames := 4, cells := 0, slots := 0, locals := 91 }) D cI cB [.ref mo, .int r_] [(mo, .inr (6, [.ref qA, .ref qS, .int (nI sm), .ref qE, .ref qT, .int (nI tl), .ref qQ, .int (nI qd), .ref qF, .int (nI fm), .ref qC, .int (nI ap), .int (nI pl), .ref qH, .ref qB])), (qA, .inl (cI, 50, .inl av)), (qE, .inl (cI, 4, .inl er))] sz (S := Unit) (fun v u => v = some (.int (cond (hasR r_ n) (ovd hs bs n r_.toNatClampNeg) (-2)))) (fun u => [(mo, .inr (6, [.ref qA, .ref qS, .int (nI sm), .ref qE, .ref qT, .int (nI tl), .ref qQ, .int (nI qd), .ref qF, .int (nI fm), .ref qC, .int (nI ap), .int (nI pl), .ref qH, .ref qB])), (qA, .inl (cI, 50, .inl av)), (qE, .inl (cI, 4, .inl (cond (hasR r_ n) er (bad er 0))))]) 0 0 := by
  refine ef_startI (cc := cX6_overDeleted) (maxL := 2) (by decide) rfl (Nat.le_of_ble_eq_true rfl) ?_
  intro p e s m args below meth c Q A hx hb hml hown hts hP hG hD hA hret ls hl
  have hown : s.vm.findClass RX6 = some m.cls := hown
  have hl : lv_has ls 2 [(0, .ref mo), (1, .int r_)] := hl
  have hS : va_S A s.heap s.heap [] := va_S.rf
  refine lv_aload_n hx hb dX6_overDeleted_0 rfl (lv_at hl 0 rfl) ?_
  refine lv_iload_n hx hb dX6_overDeleted_1 rfl (lv_at hl 1 rfl) ?_
  refine pu_V (As := [.int r_]) (rest := []) ⟨hx, hb, hml, hown, hts⟩ hG hP (k_X6_isRule l D cI cB mo qA qS sm qE qT tl qQ qd qF fm qC ap pl qH qB av hs bs n as_ r_ hM hn) (cwV 1 hts gX6_overDeleted_X6_isRule rfl rfl rfl (by decide +kernel) ⟨(Nat.le_of_ble_eq_true rfl), (Nat.le_of_ble_eq_true rfl)⟩) [0, 1] rfl 0 rfl rfl rfl rfl hl.1 rfl (Nat.le_of_ble_eq_true rfl) dX6_overDeleted_2 ⟨Nat.zero_le _, Nat.zero_le _⟩ ?_
  refine lv_if_eq (tgt := 16) hx hb dX6_overDeleted_5 (by decide) (fun c_1 => ?_) (fun c_1 => ?_)
  · skip
    have c_1 : (hasR r_ n) = false := bI_f.mp c_1
    have hc : hasR r_ n = false := c_1
    refine lv_aload_n hx hb dX6_overDeleted_16 rfl (lv_at hl 0 rfl) ?_
    refine lv_bipush (v := (-2)) hx hb dX6_overDeleted_17 (by decide) ?_
    refine ef_V (As := [.int (-2)]) (rest := []) (wr := [(qA, .inl (cI, 50, .inl av))]) ⟨hx, hb, hml, hown, hts⟩ hG hP hD hS hA (k_X6_error l D cI cB mo qA qS sm qE qT tl qQ qd qF fm qC ap pl qH qB er (-2) 0 (by decide) (by decide) _) (cwV 1 hts gX6_overDeleted_X6_error rfl rfl rfl (by decide +kernel) ⟨(Nat.le_of_ble_eq_true rfl), (Nat.le_of_ble_eq_true rfl)⟩) [0, 2] [1] rfl rfl rfl rfl (by decide) 0 rfl rfl rfl rfl hl.1 rfl (Nat.le_of_ble_eq_true rfl) dX6_overDeleted_19 ⟨(Nat.le_of_ble_eq_true rfl), (Nat.le_of_ble_eq_true rfl)⟩ (fun v_2 u_2 H locs w_2 hP hD hS => ?_)
    have w_2 : v_2 = some (.int (-2)) := w_2
    subst w_2
    have hP : va_P D vwCl [(mo, .inr (6, [.ref qA, .ref qS, .int (nI sm), .ref qE, .ref qT, .int (nI tl), .ref qQ, .int (nI qd), .ref qF, .int (nI fm), .ref qC, .int (nI ap), .int (nI pl), .ref qH, .ref qB])), (qA, .inl (cI, 50, .inl av)), (qE, .inl (cI, 4, .inl (bad er 0)))] H := hP.sub [1, 0, 2] rfl
    have hD : va_D A [(mo, .inr (6, [.ref qA, .ref qS, .int (nI sm), .ref qE, .ref qT, .int (nI tl), .ref qQ, .int (nI qd), .ref qF, .int (nI fm), .ref qC, .int (nI ap), .int (nI pl), .ref qH, .ref qB])), (qA, .inl (cI, 50, .inl av)), (qE, .inl (cI, 4, .inl (bad er 0)))] := hD.sub [1, 0, 2] rfl rfl
    refine W.eq (g2 := F0 m 22 ls [.int (-2)]) rfl ?_
    exact hret _ () _ _ _ _ (by rw [hc]; rfl) (by rw [hc]; exact hP) (by rw [hc]; exact hD) hS dX6_overDeleted_22
  · skip
    have c_1 : (hasR r_ n) = true := bI_t.mp c_1
    obtain ⟨j_, hj_, rfl⟩ := hasR_nat (by omega) c_1
    refine lv_aload_n hx hb dX6_overDeleted_8 rfl (lv_at hl 0 rfl) ?_
    refine lv_iload_n hx hb dX6_overDeleted_9 rfl (lv_at hl 1 rfl) ?_
    refine pu_V (As := [.int (nI j_)]) (rest := []) ⟨hx, hb, hml, hown, hts⟩ hG hP (k_X6_overDeletedOf l D cI cB mo qA qS sm qE qT tl qQ qd qF fm qC ap pl qH qB av hs bs n as_ j_ hM hn hH hj_) (cwV 1 hts gX6_overDeleted_X6_overDeletedOf rfl rfl rfl (by decide +kernel) ⟨(Nat.le_of_ble_eq_true rfl), (Nat.le_of_ble_eq_true rfl)⟩) [0, 1] rfl 0 rfl rfl rfl rfl hl.1 rfl (Nat.le_of_ble_eq_true rfl) dX6_overDeleted_10 ⟨Nat.zero_le _, Nat.zero_le _⟩ ?_
    refine lv_goto (tgt := 22) hx hb dX6_overDeleted_13 (by decide) ?_
    exact hret _ () _ _ _ _ (by rw [hasR_of hj_ (by omega), nI_clamp (by omega)]; rfl) (by rw [hasR_of hj_ (by omega)]; exact hP) (by rw [hasR_of hj_ (by omega)]; exact hD) hS dX6_overDeleted_22
set_option maxHeartbeats 4000000 in
set_option maxRecDepth 100000 in
theorem k_X6_lost (l : Launch) (D : va_G) (cI cB : ClassId) (mo : Nat) (qA : Nat) (qS : Nat) (sm : Nat) (qE : Nat) (qT : Nat) (tl : Nat) (qQ : Nat) (qd : Nat) (qF : Nat) (fm : Nat) (qC : Nat) (ap : Nat) (pl : Nat) (qH : Nat) (qB : Nat) (av : Nat → Int32) (hs : Nat → Int32) (bs : Nat → Int32) (n : Nat) (as_ : Int32) (er : Nat → Int32) (r_ : Int32) (hM : mA av hs bs n as_) (hn : n ≤ 24) (hH : hOK hs n) (sz : Nat) : Wr l yX6_lost wsX6_lost ({ frames := 4, cells := 0, slots := 0, locals := 87 }) D cI cB [.ref mo, .int r_] [(mo, .inr (6, [.ref qA, .ref qS, .int (nI sm), .ref qE, .ref qT, .int (nI tl), .ref qQ, .int (nI qd), .ref qF, .int (nI fm), .ref qC, .int (nI ap), .int (nI pl), .ref qH, .ref qB])), (qA, .inl (cI, 50, .inl av)), (qE, .inl (cI, 4, .inl er))] sz (S := Unit) (fun v u => v = some (.int (cond (hasR r_ n) (lst hs bs n r_.toNatClampNeg) (-2)))) (fun u => [(mo, .inr (6, [.ref qA, .ref qS, .int (nI sm), .ref qE, .ref qT, .int (nI tl), .ref qQ, .int (nI qd), .ref qF, .int (nI fm), .ref qC, .int (nI ap), .int (nI pl), .ref qH, .ref qB])), (qA, .inl (cI, 50, .inl av)), (qE, .inl (cI, 4, .inl (cond (hasR r_ n) er (bad er 0))))]) 0 0 := by
  refine ef_startI (cc := cX6_lost) (maxL := 2) (by decide) rfl (Nat.le_of_ble_eq_true rfl) ?_
  intro p e s m args below meth c Q A hx hb hml hown hts hP hG hD hA hret ls hl
  have hown : s.vm.findClass RX6 = some m.cls := hown
  have hl : lv_has ls 2 [(0, .ref mo), (1, .int r_)] := hl
  have hS : va_S A s.heap s.heap [] := va_S.rf
  refine lv_aload_n hx hb dX6_lost_0 rfl (lv_at hl 0 rfl) ?_
  refine lv_iload_n hx hb dX6_lost_1 rfl (lv_at hl 1 rfl) ?_
  refine pu_V (As := [.int r_]) (rest := []) ⟨hx, hb, hml, hown, hts⟩ hG hP (k_X6_isRule l D cI cB mo qA qS sm qE qT tl qQ qd qF fm qC ap pl qH qB av hs bs n as_ r_ hM hn) (cwV 1 hts gX6_lost_X6_isRule rfl rfl rfl (by decide +kernel) ⟨(Nat.le_of_ble_eq_true rfl), (Nat.le_of_ble_eq_true rfl)⟩) [0, 1] rfl 0 rfl rfl rfl rfl hl.1 rfl (Nat.le_of_ble_eq_true rfl) dX6_lost_2 ⟨Nat.zero_le _, Nat.zero_le _⟩ ?_
  refine lv_if_eq (tgt := 16) hx hb dX6_lost_5 (by decide) (fun c_1 => ?_) (fun c_1 => ?_)
  · skip
    have c_1 : (hasR r_ n) = false := bI_f.mp c_1
    have hc : hasR r_ n = false := c_1
    refine lv_aload_n hx hb dX6_lost_16 rfl (lv_at hl 0 rfl) ?_
    refine lv_bipush (v := (-2)) hx hb dX6_lost_17 (by decide) ?_
    refine ef_V (As := [.int (-2)]) (rest := []) (wr := [(qA, .inl (cI, 50, .inl av))]) ⟨hx, hb, hml, hown, hts⟩ hG hP hD hS hA (k_X6_error l D cI cB mo qA qS sm qE qT tl qQ qd qF fm qC ap pl qH qB er (-2) 0 (by decide) (by decide) _) (cwV 1 hts gX6_lost_X6_error rfl rfl rfl (by decide +kernel) ⟨(Nat.le_of_ble_eq_true rfl), (Nat.le_of_ble_eq_true rfl)⟩) [0, 2] [1] rfl rfl rfl rfl (by decide) 0 rfl rfl rfl rfl hl.1 rfl (Nat.le_of_ble_eq_true rfl) dX6_lost_19 ⟨(Nat.le_of_ble_eq_true rfl), (Nat.le_of_ble_eq_true rfl)⟩ (fun v_2 u_2 H locs w_2 hP hD hS => ?_)
    have w_2 : v_2 = some (.int (-2)) := w_2
    subst w_2
    have hP : va_P D vwCl [(mo, .inr (6, [.ref qA, .ref qS, .int (nI sm), .ref qE, .ref qT, .int (nI tl), .ref qQ, .int (nI qd), .ref qF, .int (nI fm), .ref qC, .int (nI ap), .int (nI pl), .ref qH, .ref qB])), (qA, .inl (cI, 50, .inl av)), (qE, .inl (cI, 4, .inl (bad er 0)))] H := hP.sub [1, 0, 2] rfl
    have hD : va_D A [(mo, .inr (6, [.ref qA, .ref qS, .int (nI sm), .ref qE, .ref qT, .int (nI tl), .ref qQ, .int (nI qd), .ref qF, .int (nI fm), .ref qC, .int (nI ap), .int (nI pl), .ref qH, .ref qB])), (qA, .inl (cI, 50, .inl av)), (qE, .inl (cI, 4, .inl (bad er 0)))] := hD.sub [1, 0, 2] rfl rfl
    refine W.eq (g2 := F0 m 22 ls [.int (-2)]) rfl ?_
    exact hret _ () _ _ _ _ (by rw [hc]; rfl) (by rw [hc]; exact hP) (by rw [hc]; exact hD) hS dX6_lost_22
  · skip
    have c_1 : (hasR r_ n) = true := bI_t.mp c_1
    obtain ⟨j_, hj_, rfl⟩ := hasR_nat (by omega) c_1
    refine lv_aload_n hx hb dX6_lost_8 rfl (lv_at hl 0 rfl) ?_
    refine lv_iload_n hx hb dX6_lost_9 rfl (lv_at hl 1 rfl) ?_
    refine pu_V (As := [.int (nI j_)]) (rest := []) ⟨hx, hb, hml, hown, hts⟩ hG hP (k_X6_lostOf l D cI cB mo qA qS sm qE qT tl qQ qd qF fm qC ap pl qH qB av hs bs n as_ j_ hM hn hH hj_) (cwV 1 hts gX6_lost_X6_lostOf rfl rfl rfl (by decide +kernel) ⟨(Nat.le_of_ble_eq_true rfl), (Nat.le_of_ble_eq_true rfl)⟩) [0, 1] rfl 0 rfl rfl rfl rfl hl.1 rfl (Nat.le_of_ble_eq_true rfl) dX6_lost_10 ⟨Nat.zero_le _, Nat.zero_le _⟩ ?_
    refine lv_goto (tgt := 22) hx hb dX6_lost_13 (by decide) ?_
    exact hret _ () _ _ _ _ (by rw [hasR_of hj_ (by omega), nI_clamp (by omega)]; rfl) (by rw [hasR_of hj_ (by omega)]; exact hP) (by rw [hasR_of hj_ (by omega)]; exact hD) hS dX6_lost_22
set_option maxHeartbeats 4000000 in
set_option maxRecDepth 100000 in
theorem k_X6_dependencies (l : Launch) (D : va_G) (cI cB : ClassId) (mo : Nat) (qA : Nat) (qS : Nat) (sm : Nat) (qE : Nat) (qT : Nat) (tl : Nat) (qQ : Nat) (qd : Nat) (qF : Nat) (fm : Nat) (qC : Nat) (ap : Nat) (pl : Nat) (qH : Nat) (qB : Nat) (av : Nat → Int32) (hs : Nat → Int32) (bs : Nat → Int32) (n : Nat) (as_ : Int32) (er : Nat → Int32) (at_ : Int32) (hM : mA av hs bs n as_) (hn : n ≤ 24) (hH : hOK hs n) (hB : bOK bs n) (sz : Nat) : Wr l yX6_dependencies wsX6_dependencies ({ frames := 2, cells := 0, slots := 0, locals := 45 }) D cI cB [.ref mo, .int at_] [(mo, .inr (6, [.ref qA, .ref qS, .int (nI sm), .ref qE, .ref qT, .int (nI tl), .ref qQ, .int (nI qd), .ref qF, .int (nI fm), .ref qC, .int (nI ap), .int (nI pl), .ref qH, .ref qB])), (qA, .inl (cI, 50, .inl av)), (qE, .inl (cI, 4, .inl er))] sz (S := Unit) (fun v u => v = some (.int (cond (isA at_) (depS hs bs n at_.toNatClampNeg) (-2)))) (fun u => [(mo, .inr (6, [.ref qA, .ref qS, .int (nI sm), .ref qE, .ref qT, .int (nI tl), .ref qQ, .int (nI qd), .ref qF, .int (nI fm), .ref qC, .int (nI ap), .int (nI pl), .ref qH, .ref qB])), (qA, .inl (cI, 50, .inl av)), (qE, .inl (cI, 4, .inl (cond (isA at_) er (bad er 0))))]) 0 0 := by
  refine ef_startI (cc := cX6_dependencies) (maxL := 2) (by decide) rfl (Nat.le_of_ble_eq_true rfl) ?_
  intro p e s m args below meth c Q A hx hb hml hown hts hP hG hD hA hret ls hl
  have hown : s.vm.findClass RX6 = some m.cls := hown
  have hl : lv_has ls 2 [(0, .ref mo), (1, .int at_)] := hl
  have hS : va_S A s.heap s.heap [] := va_S.rf
  refine lv_iload_n hx hb dX6_dependencies_0 rfl (lv_at hl 1 rfl) ?_
  refine pu_S (As := [.int at_]) (rest := []) ⟨hx, hb, hml, hown, hts⟩ hG hP (k_X6_isAtom l D cI cB at_ ) (cwS 1 hts gX6_dependencies_X6_isAtom rfl rfl rfl (by decide +kernel) ⟨(Nat.le_of_ble_eq_true rfl), (Nat.le_of_ble_eq_true rfl)⟩) [] rfl rfl hl.1 rfl (Nat.le_of_ble_eq_true rfl) dX6_dependencies_1 ⟨Nat.zero_le _, Nat.zero_le _⟩ ?_
  refine lv_if_eq (tgt := 15) hx hb dX6_dependencies_4 (by decide) (fun c_1 => ?_) (fun c_1 => ?_)
  · skip
    have c_1 : (isA at_) = false := bI_f.mp c_1
    have hc : isA at_ = false := c_1
    refine lv_aload_n hx hb dX6_dependencies_15 rfl (lv_at hl 0 rfl) ?_
    refine lv_bipush (v := (-2)) hx hb dX6_dependencies_16 (by decide) ?_
    refine ef_V (As := [.int (-2)]) (rest := []) (wr := [(qA, .inl (cI, 50, .inl av))]) ⟨hx, hb, hml, hown, hts⟩ hG hP hD hS hA (k_X6_error l D cI cB mo qA qS sm qE qT tl qQ qd qF fm qC ap pl qH qB er (-2) 0 (by decide) (by decide) _) (cwV 1 hts gX6_dependencies_X6_error rfl rfl rfl (by decide +kernel) ⟨(Nat.le_of_ble_eq_true rfl), (Nat.le_of_ble_eq_true rfl)⟩) [0, 2] [1] rfl rfl rfl rfl (by decide) 0 rfl rfl rfl rfl hl.1 rfl (Nat.le_of_ble_eq_true rfl) dX6_dependencies_18 ⟨(Nat.le_of_ble_eq_true rfl), (Nat.le_of_ble_eq_true rfl)⟩ (fun v_2 u_2 H locs w_2 hP hD hS => ?_)
    have w_2 : v_2 = some (.int (-2)) := w_2
    subst w_2
    have hP : va_P D vwCl [(mo, .inr (6, [.ref qA, .ref qS, .int (nI sm), .ref qE, .ref qT, .int (nI tl), .ref qQ, .int (nI qd), .ref qF, .int (nI fm), .ref qC, .int (nI ap), .int (nI pl), .ref qH, .ref qB])), (qA, .inl (cI, 50, .inl av)), (qE, .inl (cI, 4, .inl (bad er 0)))] H := hP.sub [1, 0, 2] rfl
    have hD : va_D A [(mo, .inr (6, [.ref qA, .ref qS, .int (nI sm), .ref qE, .ref qT, .int (nI tl), .ref qQ, .int (nI qd), .ref qF, .int (nI fm), .ref qC, .int (nI ap), .int (nI pl), .ref qH, .ref qB])), (qA, .inl (cI, 50, .inl av)), (qE, .inl (cI, 4, .inl (bad er 0)))] := hD.sub [1, 0, 2] rfl rfl
    refine W.eq (g2 := F0 m 21 ls [.int (-2)]) rfl ?_
    exact hret _ () _ _ _ _ (by rw [hc]; rfl) (by rw [hc]; exact hP) (by rw [hc]; exact hD) hS dX6_dependencies_21
  · skip
    have c_1 : (isA at_) = true := bI_t.mp c_1
    obtain ⟨a, ha, rfl⟩ := isA_nat c_1
    refine lv_aload_n hx hb dX6_dependencies_7 rfl (lv_at hl 0 rfl) ?_
    refine lv_iload_n hx hb dX6_dependencies_8 rfl (lv_at hl 1 rfl) ?_
    refine pu_V (As := [.int (nI a)]) (rest := []) ⟨hx, hb, hml, hown, hts⟩ hG hP (k_X6_dependenciesOf l D cI cB mo qA qS sm qE qT tl qQ qd qF fm qC ap pl qH qB av hs bs n as_ a hM hn hH hB ha) (cwV 1 hts gX6_dependencies_X6_dependenciesOf rfl rfl rfl (by decide +kernel) ⟨(Nat.le_of_ble_eq_true rfl), (Nat.le_of_ble_eq_true rfl)⟩) [0, 1] rfl 0 rfl rfl rfl rfl hl.1 rfl (Nat.le_of_ble_eq_true rfl) dX6_dependencies_9 ⟨Nat.zero_le _, Nat.zero_le _⟩ ?_
    refine lv_goto (tgt := 21) hx hb dX6_dependencies_12 (by decide) ?_
    exact hret _ () _ _ _ _ (by rw [isA_of ha, nI_clamp (by omega)]; rfl) (by rw [isA_of ha]; exact hP) (by rw [isA_of ha]; exact hD) hS dX6_dependencies_21
set_option maxHeartbeats 4000000 in
set_option maxRecDepth 100000 in
theorem k_X6_supports (l : Launch) (D : va_G) (cI cB : ClassId) (mo : Nat) (qA : Nat) (qS : Nat) (sm : Nat) (qE : Nat) (qT : Nat) (tl : Nat) (qQ : Nat) (qd : Nat) (qF : Nat) (fm : Nat) (qC : Nat) (ap : Nat) (pl : Nat) (qH : Nat) (qB : Nat) (av : Nat → Int32) (hs : Nat → Int32) (bs : Nat → Int32) (n : Nat) (as_ : Int32) (er : Nat → Int32) (at_ : Int32) (hM : mA av hs bs n as_) (hn : n ≤ 24) (hH : hOK hs n) (sz : Nat) : Wr l yX6_supports wsX6_supports ({ frames := 3, cells := 0, slots := 0, locals := 66 }) D cI cB [.ref mo, .int at_] [(mo, .inr (6, [.ref qA, .ref qS, .int (nI sm), .ref qE, .ref qT, .int (nI tl), .ref qQ, .int (nI qd), .ref qF, .int (nI fm), .ref qC, .int (nI ap), .int (nI pl), .ref qH, .ref qB])), (qA, .inl (cI, 50, .inl av)), (qE, .inl (cI, 4, .inl er))] sz (S := Unit) (fun v u => v = some (.int (cond (isA at_) (supF hs bs (mdl hs bs n) at_.toNatClampNeg n) (-2)))) (fun u => [(mo, .inr (6, [.ref qA, .ref qS, .int (nI sm), .ref qE, .ref qT, .int (nI tl), .ref qQ, .int (nI qd), .ref qF, .int (nI fm), .ref qC, .int (nI ap), .int (nI pl), .ref qH, .ref qB])), (qA, .inl (cI, 50, .inl av)), (qE, .inl (cI, 4, .inl (cond (isA at_) er (bad er 0))))]) 0 0 := by
  refine ef_startI (cc := cX6_supports) (maxL := 5) (by decide) rfl (Nat.le_of_ble_eq_true rfl) ?_
  intro p e s m args below meth c Q A hx hb hml hown hts hP hG hD hA hret ls hl
  have hown : s.vm.findClass RX6 = some m.cls := hown
  have hl : lv_has ls 5 [(0, .ref mo), (1, .int at_)] := hl
  have hS : va_S A s.heap s.heap [] := va_S.rf
  refine lv_iload_n hx hb dX6_supports_0 rfl (lv_at hl 1 rfl) ?_
  refine pu_S (As := [.int at_]) (rest := []) ⟨hx, hb, hml, hown, hts⟩ hG hP (k_X6_isAtom l D cI cB at_ ) (cwS 1 hts gX6_supports_X6_isAtom rfl rfl rfl (by decide +kernel) ⟨(Nat.le_of_ble_eq_true rfl), (Nat.le_of_ble_eq_true rfl)⟩) [] rfl rfl hl.1 rfl (Nat.le_of_ble_eq_true rfl) dX6_supports_1 ⟨Nat.zero_le _, Nat.zero_le _⟩ ?_
  refine lv_if_ne (tgt := 14) hx hb dX6_supports_4 (by decide) (fun c_1 => ?_) (fun c_1 => ?_)
  · skip
    have c_1 : (isA at_) = true := bI_t.mp c_1
    obtain ⟨a, ha, rfl⟩ := isA_nat c_1
    refine lv_aload_n hx hb dX6_supports_14 rfl (lv_at hl 0 rfl) ?_
    refine pu_V (As := []) (rest := []) ⟨hx, hb, hml, hown, hts⟩ hG hP (k_X6_whole l D cI cB mo qA qS sm qE qT tl qQ qd qF fm qC ap pl qH qB av hs bs n as_ hM hn hH) (cwV 0 hts gX6_supports_X6_whole rfl rfl rfl (by decide +kernel) ⟨(Nat.le_of_ble_eq_true rfl), (Nat.le_of_ble_eq_true rfl)⟩) [0, 1] rfl 0 rfl rfl rfl rfl hl.1 rfl (Nat.le_of_ble_eq_true rfl) dX6_supports_15 ⟨Nat.zero_le _, Nat.zero_le _⟩ ?_
    refine lv_istore_n (lv' := [(2, .int (mdl hs bs n)), (0, .ref mo), (1, .int (nI a))]) hx hb dX6_supports_18 rfl hl (by decide) rfl (fun ls hl => ?_)
    refine lv_iconst (v := nI 0) hx hb dX6_supports_19 (by decide) ?_
    refine lv_istore_n (lv' := [(3, .int (nI 0)), (2, .int (mdl hs bs n)), (0, .ref mo), (1, .int (nI a))]) hx hb dX6_supports_20 rfl hl (by decide) rfl (fun ls hl => ?_)
    refine lv_iconst (v := nI 0) hx hb dX6_supports_21 (by decide) ?_
    refine lv_istore (lv' := [(4, .int (nI 0)), (3, .int (nI 0)), (2, .int (mdl hs bs n)), (0, .ref mo), (1, .int (nI a))]) hx hb dX6_supports_22 hl (by decide) rfl (fun ls hl => ?_)
    have lp_24_2 : ∀ (fu_24 : Nat) (r : Nat) (x3 : Int32) (hr : r ≤ n) (e3 : x3 = supF hs bs (mdl hs bs n) a r) (hfu_24 : n - r < fu_24) (H : Heap) (locs : List Loc) (hP : va_P D vwCl [(mo, .inr (6, [.ref qA, .ref qS, .int (nI sm), .ref qE, .ref qT, .int (nI tl), .ref qQ, .int (nI qd), .ref qF, .int (nI fm), .ref qC, .int (nI ap), .int (nI pl), .ref qH, .ref qB])), (qA, .inl (cI, 50, .inl av)), (qE, .inl (cI, 4, .inl er))] H) (hD : va_D A [(mo, .inr (6, [.ref qA, .ref qS, .int (nI sm), .ref qE, .ref qT, .int (nI tl), .ref qQ, .int (nI qd), .ref qF, .int (nI fm), .ref qC, .int (nI ap), .int (nI pl), .ref qH, .ref qB])), (qA, .inl (cI, 50, .inl av)), (qE, .inl (cI, 4, .inl er))]) (hS : va_S A s.heap H locs) (ls : Array Slot) (hl : lv_has ls 5 [(0, .ref mo), (1, .int (nI a)), (2, .int (mdl hs bs n)), (3, .int x3), (4, .int (nI r))]), W p l e ({ frames := 3, cells := 0, slots := 0, locals := 66 }) s m args below meth c H locs 0 0 Q (F0 m 24 ls []) := by
      intro fu_24
      induction fu_24 with
      | zero => intro r x3 hr e3 hfu; exact absurd hfu (Nat.not_lt_zero _)
      | succ fu_24 ih_24 =>
        intro r x3 hr e3 hfu_24 H locs hP hD hS ls hl
        refine lv_iload hx hb dX6_supports_24 (lv_at hl 4 rfl) ?_
        refine lv_aload_n hx hb dX6_supports_26 rfl (lv_at hl 0 rfl) ?_
        refine va_get (D := D) (ci := 6) (v := .ref qA) (C := RX6) (T := TX6) (N := 15) hx hb hts ilX6_supports_6 hown hG.1 hP 0 rfl rfl 0 (by decide) (hts (.fieldLink RX6 7 "HornEngineModel" "all" "[I") (List.mem_of_getElem? (i := 1) rfl)) (fun _ h9 => h9) rfl dX6_supports_27 ?_
        refine lv_iconst (v := nI 0) hx hb dX6_supports_30 (by decide) ?_
        refine ia_ld hx hb hG hP 1 rfl 0 rfl (by omega) (by decide) dX6_supports_31 ?_
        refine lv_eqi (y := nI n) hM.1 ?_
        refine lv_icmp_ge (tgt := 75) hx hb dX6_supports_32 (by decide) (fun c_3 => ?_) (fun c_3 => ?_)
        · skip
          have c_3 : n ≤ r := (nI_leI (by omega) (by omega)).mp (show nI n ≤ nI r from c_3)
          refine lv_iload_n hx hb dX6_supports_75 rfl (lv_at hl 3 rfl) ?_
          exact hret _ () _ _ _ _ (by rw [isA_of ha, nI_clamp (by omega), e3, show r = n from by omega]; rfl) (by rw [isA_of ha]; exact hP) (by rw [isA_of ha]; exact hD) hS dX6_supports_76
        · skip
          have c_3 : ¬ (n ≤ r) := fun h9 => (show ¬ (nI n ≤ nI r) from c_3) ((nI_leI (by omega) (by omega)).mpr h9)
          refine lv_iload_n hx hb dX6_supports_35 rfl (lv_at hl 3 rfl) ?_
          refine lv_aload_n hx hb dX6_supports_36 rfl (lv_at hl 0 rfl) ?_
          refine lv_iload hx hb dX6_supports_37 (lv_at hl 4 rfl) ?_
          refine pu_V (As := [.int (nI r)]) (rest := [.int x3]) ⟨hx, hb, hml, hown, hts⟩ hG hP (k_X6_headOf l D cI cB mo qA qS sm qE qT tl qQ qd qF fm qC ap pl qH qB av hs bs n as_ r hM hn (by omega)) (cwV 1 hts gX6_supports_X6_headOf rfl rfl rfl (by decide +kernel) ⟨(Nat.le_of_ble_eq_true rfl), (Nat.le_of_ble_eq_true rfl)⟩) [0, 1] rfl 0 rfl rfl rfl rfl hl.1 rfl (Nat.le_of_ble_eq_true rfl) dX6_supports_39 ⟨Nat.zero_le _, Nat.zero_le _⟩ ?_
          refine lv_iload_n hx hb dX6_supports_42 rfl (lv_at hl 1 rfl) ?_
          refine lv_icmp_ne (tgt := 66) hx hb dX6_supports_43 (by decide) (fun c_4 => ?_) (fun c_4 => ?_)
          · skip
            have h1 := c_4
            refine lv_iconst (v := nI 0) hx hb dX6_supports_66 (by decide) ?_
            refine lv_ior hx hb dX6_supports_67 ?_
            refine lv_eqi (y := x3) (or_0 x3) ?_
            refine lv_istore_n (lv' := [(3, .int x3), (0, .ref mo), (1, .int (nI a)), (2, .int (mdl hs bs n)), (4, .int (nI r))]) hx hb dX6_supports_68 rfl hl (by decide) rfl (fun ls hl => ?_)
            refine lv_iinc (v := nI (r + 1)) (lv' := [(4, .int (nI (r + 1))), (3, .int x3), (0, .ref mo), (1, .int (nI a)), (2, .int (mdl hs bs n))]) hx hb dX6_supports_69 hl (k := 4) rfl (nI_s1 r) (by decide) rfl (fun ls hl => ?_)
            refine lv_goto (tgt := 24) hx hb dX6_supports_72 (by decide) ?_
            exact ih_24 (r + 1) x3 (by omega) (by subst e3; simp only [supF, decide_true, decide_false, reduceIte, Bool.false_eq_true, not_true_eq_false, not_false_eq_true, and_self, and_true, true_and, and_false, false_and, h1]) (by omega) _ _ hP hD hS ls (lv_sub hl [2, 3, 4, 1, 0] rfl)
          · skip
            have h1 := c_4
            refine lv_aload_n hx hb dX6_supports_46 rfl (lv_at hl 0 rfl) ?_
            refine lv_iload hx hb dX6_supports_47 (lv_at hl 4 rfl) ?_
            refine pu_V (As := [.int (nI r)]) (rest := [.int x3]) ⟨hx, hb, hml, hown, hts⟩ hG hP (k_X6_bodyOf l D cI cB mo qA qS sm qE qT tl qQ qd qF fm qC ap pl qH qB av hs bs n as_ r hM hn (by omega)) (cwV 1 hts gX6_supports_X6_bodyOf rfl rfl rfl (by decide +kernel) ⟨(Nat.le_of_ble_eq_true rfl), (Nat.le_of_ble_eq_true rfl)⟩) [0, 1] rfl 0 rfl rfl rfl rfl hl.1 rfl (Nat.le_of_ble_eq_true rfl) dX6_supports_49 ⟨Nat.zero_le _, Nat.zero_le _⟩ ?_
            refine lv_iload_n hx hb dX6_supports_52 rfl (lv_at hl 2 rfl) ?_
            refine lv_iconst (v := (-1)) hx hb dX6_supports_53 (by decide) ?_
            refine lv_ixor hx hb dX6_supports_54 ?_
            refine lv_iand hx hb dX6_supports_55 ?_
            refine lv_if_ne (tgt := 66) hx hb dX6_supports_56 (by decide) (fun c_5 => ?_) (fun c_5 => ?_)
            · skip
              have h2 : sbs (bs r) (mdl hs bs n) = false := decide_eq_false c_5
              refine lv_iconst (v := nI 0) hx hb dX6_supports_66 (by decide) ?_
              refine lv_ior hx hb dX6_supports_67 ?_
              refine lv_eqi (y := x3) (or_0 x3) ?_
              refine lv_istore_n (lv' := [(3, .int x3), (0, .ref mo), (1, .int (nI a)), (2, .int (mdl hs bs n)), (4, .int (nI r))]) hx hb dX6_supports_68 rfl hl (by decide) rfl (fun ls hl => ?_)
              refine lv_iinc (v := nI (r + 1)) (lv' := [(4, .int (nI (r + 1))), (3, .int x3), (0, .ref mo), (1, .int (nI a)), (2, .int (mdl hs bs n))]) hx hb dX6_supports_69 hl (k := 4) rfl (nI_s1 r) (by decide) rfl (fun ls hl => ?_)
              refine lv_goto (tgt := 24) hx hb dX6_supports_72 (by decide) ?_
              exact ih_24 (r + 1) x3 (by omega) (by subst e3; simp only [supF, decide_true, decide_false, reduceIte, Bool.false_eq_true, not_true_eq_false, not_false_eq_true, and_self, and_true, true_and, and_false, false_and, h1, h2]) (by omega) _ _ hP hD hS ls (lv_sub hl [2, 3, 4, 1, 0] rfl)
            · skip
              have h2 : sbs (bs r) (mdl hs bs n) = true := decide_eq_true c_5
              refine lv_iconst (v := nI 1) hx hb dX6_supports_59 (by decide) ?_
              refine lv_iload hx hb dX6_supports_60 (lv_at hl 4 rfl) ?_
              refine lv_ishl hx hb dX6_supports_62 ?_
              refine lv_goto (tgt := 67) hx hb dX6_supports_63 (by decide) ?_
              refine lv_ior hx hb dX6_supports_67 ?_
              refine lv_istore_n (lv' := [(3, .int (x3 ||| ((nI 1) <<< ((nI r) &&& 31)))), (0, .ref mo), (1, .int (nI a)), (2, .int (mdl hs bs n)), (4, .int (nI r))]) hx hb dX6_supports_68 rfl hl (by decide) rfl (fun ls hl => ?_)
              refine lv_iinc (v := nI (r + 1)) (lv' := [(4, .int (nI (r + 1))), (3, .int (x3 ||| ((nI 1) <<< ((nI r) &&& 31)))), (0, .ref mo), (1, .int (nI a)), (2, .int (mdl hs bs n))]) hx hb dX6_supports_69 hl (k := 4) rfl (nI_s1 r) (by decide) rfl (fun ls hl => ?_)
              refine lv_goto (tgt := 24) hx hb dX6_supports_72 (by decide) ?_
              exact ih_24 (r + 1) (x3 ||| ((nI 1) <<< ((nI r) &&& 31))) (by omega) (by subst e3; simp only [supF, decide_true, decide_false, reduceIte, Bool.false_eq_true, not_true_eq_false, not_false_eq_true, and_self, and_true, true_and, and_false, false_and, h1, h2]) (by omega) _ _ hP hD hS ls (lv_sub hl [2, 3, 4, 1, 0] rfl)
    exact lp_24_2 (n - 0 + 1) 0 (nI 0) (by omega) rfl (Nat.lt_succ_self _) _ _ hP hD hS ls (lv_sub hl [3, 4, 2, 1, 0] rfl)
  · skip
    have c_1 : (isA at_) = false := bI_f.mp c_1
    have hc : isA at_ = false := c_1
    refine lv_aload_n hx hb dX6_supports_7 rfl (lv_at hl 0 rfl) ?_
    refine lv_bipush (v := (-2)) hx hb dX6_supports_8 (by decide) ?_
    refine ef_V (As := [.int (-2)]) (rest := []) (wr := [(qA, .inl (cI, 50, .inl av))]) ⟨hx, hb, hml, hown, hts⟩ hG hP hD hS hA (k_X6_error l D cI cB mo qA qS sm qE qT tl qQ qd qF fm qC ap pl qH qB er (-2) 0 (by decide) (by decide) _) (cwV 1 hts gX6_supports_X6_error rfl rfl rfl (by decide +kernel) ⟨(Nat.le_of_ble_eq_true rfl), (Nat.le_of_ble_eq_true rfl)⟩) [0, 2] [1] rfl rfl rfl rfl (by decide) 0 rfl rfl rfl rfl hl.1 rfl (Nat.le_of_ble_eq_true rfl) dX6_supports_10 ⟨(Nat.le_of_ble_eq_true rfl), (Nat.le_of_ble_eq_true rfl)⟩ (fun v_6 u_6 H locs w_6 hP hD hS => ?_)
    have w_6 : v_6 = some (.int (-2)) := w_6
    subst w_6
    have hP : va_P D vwCl [(mo, .inr (6, [.ref qA, .ref qS, .int (nI sm), .ref qE, .ref qT, .int (nI tl), .ref qQ, .int (nI qd), .ref qF, .int (nI fm), .ref qC, .int (nI ap), .int (nI pl), .ref qH, .ref qB])), (qA, .inl (cI, 50, .inl av)), (qE, .inl (cI, 4, .inl (bad er 0)))] H := hP.sub [1, 0, 2] rfl
    have hD : va_D A [(mo, .inr (6, [.ref qA, .ref qS, .int (nI sm), .ref qE, .ref qT, .int (nI tl), .ref qQ, .int (nI qd), .ref qF, .int (nI fm), .ref qC, .int (nI ap), .int (nI pl), .ref qH, .ref qB])), (qA, .inl (cI, 50, .inl av)), (qE, .inl (cI, 4, .inl (bad er 0)))] := hD.sub [1, 0, 2] rfl rfl
    refine W.eq (g2 := F0 m 13 ls [.int (-2)]) rfl ?_
    exact hret _ () _ _ _ _ (by rw [hc]; rfl) (by rw [hc]; exact hP) (by rw [hc]; exact hD) hS dX6_supports_13
set_option maxHeartbeats 4000000 in
set_option maxRecDepth 100000 in
theorem k_X6_asks (l : Launch) (D : va_G) (cI cB : ClassId) (mo : Nat) (qA : Nat) (qS : Nat) (sm : Nat) (qE : Nat) (qT : Nat) (tl : Nat) (qQ : Nat) (qd : Nat) (qF : Nat) (fm : Nat) (qC : Nat) (ap : Nat) (pl : Nat) (qH : Nat) (qB : Nat) (av : Nat → Int32) (hs : Nat → Int32) (bs : Nat → Int32) (n : Nat) (as_ : Int32) (er : Nat → Int32) (at_ : Int32) (hM : mA av hs bs n as_) (hn : n ≤ 24) (hH : hOK hs n) (sz : Nat) : Wr l yX6_asks wsX6_asks ({ frames := 4, cells := 0, slots := 0, locals := 87 }) D cI cB [.ref mo, .int at_] [(mo, .inr (6, [.ref qA, .ref qS, .int (nI sm), .ref qE, .ref qT, .int (nI tl), .ref qQ, .int (nI qd), .ref qF, .int (nI fm), .ref qC, .int (nI ap), .int (nI pl), .ref qH, .ref qB])), (qA, .inl (cI, 50, .inl av)), (qE, .inl (cI, 4, .inl er))] sz (S := Unit) (fun v u => v = some (.int (cond (isA at_) (cond (has (mdl hs bs n) at_) (nI 0) (-3)) (-2)))) (fun u => [(mo, .inr (6, [.ref qA, .ref qS, .int (nI sm), .ref qE, .ref qT, .int (nI tl), .ref qQ, .int (nI qd), .ref qF, .int (nI fm), .ref qC, .int (nI ap), .int (nI pl), .ref qH, .ref qB])), (qA, .inl (cI, 50, .inl av)), (qE, .inl (cI, 4, .inl (cond (isA at_) (cond (has (mdl hs bs n) at_) er (bad er 1)) (bad er 0))))]) 0 0 := by
  refine ef_startI (cc := cX6_asks) (maxL := 2) (by decide) rfl (Nat.le_of_ble_eq_true rfl) ?_
  intro p e s m args below meth c Q A hx hb hml hown hts hP hG hD hA hret ls hl
  have hown : s.vm.findClass RX6 = some m.cls := hown
  have hl : lv_has ls 2 [(0, .ref mo), (1, .int at_)] := hl
  have hS : va_S A s.heap s.heap [] := va_S.rf
  refine lv_iload_n hx hb dX6_asks_0 rfl (lv_at hl 1 rfl) ?_
  refine pu_S (As := [.int at_]) (rest := []) ⟨hx, hb, hml, hown, hts⟩ hG hP (k_X6_isAtom l D cI cB at_ ) (cwS 1 hts gX6_asks_X6_isAtom rfl rfl rfl (by decide +kernel) ⟨(Nat.le_of_ble_eq_true rfl), (Nat.le_of_ble_eq_true rfl)⟩) [] rfl rfl hl.1 rfl (Nat.le_of_ble_eq_true rfl) dX6_asks_1 ⟨Nat.zero_le _, Nat.zero_le _⟩ ?_
  refine lv_if_ne (tgt := 16) hx hb dX6_asks_4 (by decide) (fun c_1 => ?_) (fun c_1 => ?_)
  · skip
    have c_1 : (isA at_) = true := bI_t.mp c_1
    obtain ⟨a, ha, rfl⟩ := isA_nat c_1
    refine lv_aload_n hx hb dX6_asks_16 rfl (lv_at hl 0 rfl) ?_
    refine lv_iload_n hx hb dX6_asks_17 rfl (lv_at hl 1 rfl) ?_
    refine pu_V (As := [.int (nI a)]) (rest := []) ⟨hx, hb, hml, hown, hts⟩ hG hP (k_X6_isIn l D cI cB mo qA qS sm qE qT tl qQ qd qF fm qC ap pl qH qB av hs bs n as_ a hM hn hH ha) (cwV 1 hts gX6_asks_X6_isIn rfl rfl rfl (by decide +kernel) ⟨(Nat.le_of_ble_eq_true rfl), (Nat.le_of_ble_eq_true rfl)⟩) [0, 1] rfl 0 rfl rfl rfl rfl hl.1 rfl (Nat.le_of_ble_eq_true rfl) dX6_asks_18 ⟨Nat.zero_le _, Nat.zero_le _⟩ ?_
    refine lv_if_eq (tgt := 28) hx hb dX6_asks_21 (by decide) (fun c_2 => ?_) (fun c_2 => ?_)
    · skip
      have c_2 : (has (mdl hs bs n) (nI a)) = false := bI_f.mp c_2
      have hm : has (mdl hs bs n) (nI a) = false := c_2
      refine lv_aload_n hx hb dX6_asks_28 rfl (lv_at hl 0 rfl) ?_
      refine lv_bipush (v := (-3)) hx hb dX6_asks_29 (by decide) ?_
      refine ef_V (As := [.int (-3)]) (rest := []) (wr := [(qA, .inl (cI, 50, .inl av))]) ⟨hx, hb, hml, hown, hts⟩ hG hP hD hS hA (k_X6_error l D cI cB mo qA qS sm qE qT tl qQ qd qF fm qC ap pl qH qB er (-3) 1 (by decide) (by decide) _) (cwV 1 hts gX6_asks_X6_error rfl rfl rfl (by decide +kernel) ⟨(Nat.le_of_ble_eq_true rfl), (Nat.le_of_ble_eq_true rfl)⟩) [0, 2] [1] rfl rfl rfl rfl (by decide) 0 rfl rfl rfl rfl hl.1 rfl (Nat.le_of_ble_eq_true rfl) dX6_asks_31 ⟨(Nat.le_of_ble_eq_true rfl), (Nat.le_of_ble_eq_true rfl)⟩ (fun v_3 u_3 H locs w_3 hP hD hS => ?_)
      have w_3 : v_3 = some (.int (-3)) := w_3
      subst w_3
      have hP : va_P D vwCl [(mo, .inr (6, [.ref qA, .ref qS, .int (nI sm), .ref qE, .ref qT, .int (nI tl), .ref qQ, .int (nI qd), .ref qF, .int (nI fm), .ref qC, .int (nI ap), .int (nI pl), .ref qH, .ref qB])), (qA, .inl (cI, 50, .inl av)), (qE, .inl (cI, 4, .inl (bad er 1)))] H := hP.sub [1, 0, 2] rfl
      have hD : va_D A [(mo, .inr (6, [.ref qA, .ref qS, .int (nI sm), .ref qE, .ref qT, .int (nI tl), .ref qQ, .int (nI qd), .ref qF, .int (nI fm), .ref qC, .int (nI ap), .int (nI pl), .ref qH, .ref qB])), (qA, .inl (cI, 50, .inl av)), (qE, .inl (cI, 4, .inl (bad er 1)))] := hD.sub [1, 0, 2] rfl rfl
      refine W.eq (g2 := F0 m 34 ls [.int (-3)]) rfl ?_
      exact hret _ () _ _ _ _ (by rw [isA_of ha, hm]; rfl) (by rw [isA_of ha, hm]; exact hP) (by rw [isA_of ha, hm]; exact hD) hS dX6_asks_34
    · skip
      have c_2 : (has (mdl hs bs n) (nI a)) = true := bI_t.mp c_2
      have hm : has (mdl hs bs n) (nI a) = true := c_2
      refine lv_iconst (v := nI 0) hx hb dX6_asks_24 (by decide) ?_
      refine lv_goto (tgt := 34) hx hb dX6_asks_25 (by decide) ?_
      exact hret _ () _ _ _ _ (by rw [isA_of ha, hm]; rfl) (by rw [isA_of ha, hm]; exact hP) (by rw [isA_of ha, hm]; exact hD) hS dX6_asks_34
  · skip
    have c_1 : (isA at_) = false := bI_f.mp c_1
    have hc : isA at_ = false := c_1
    refine lv_aload_n hx hb dX6_asks_7 rfl (lv_at hl 0 rfl) ?_
    refine lv_bipush (v := (-2)) hx hb dX6_asks_8 (by decide) ?_
    refine ef_V (As := [.int (-2)]) (rest := []) (wr := [(qA, .inl (cI, 50, .inl av))]) ⟨hx, hb, hml, hown, hts⟩ hG hP hD hS hA (k_X6_error l D cI cB mo qA qS sm qE qT tl qQ qd qF fm qC ap pl qH qB er (-2) 0 (by decide) (by decide) _) (cwV 1 hts gX6_asks_X6_error rfl rfl rfl (by decide +kernel) ⟨(Nat.le_of_ble_eq_true rfl), (Nat.le_of_ble_eq_true rfl)⟩) [0, 2] [1] rfl rfl rfl rfl (by decide) 0 rfl rfl rfl rfl hl.1 rfl (Nat.le_of_ble_eq_true rfl) dX6_asks_10 ⟨(Nat.le_of_ble_eq_true rfl), (Nat.le_of_ble_eq_true rfl)⟩ (fun v_4 u_4 H locs w_4 hP hD hS => ?_)
    have w_4 : v_4 = some (.int (-2)) := w_4
    subst w_4
    have hP : va_P D vwCl [(mo, .inr (6, [.ref qA, .ref qS, .int (nI sm), .ref qE, .ref qT, .int (nI tl), .ref qQ, .int (nI qd), .ref qF, .int (nI fm), .ref qC, .int (nI ap), .int (nI pl), .ref qH, .ref qB])), (qA, .inl (cI, 50, .inl av)), (qE, .inl (cI, 4, .inl (bad er 0)))] H := hP.sub [1, 0, 2] rfl
    have hD : va_D A [(mo, .inr (6, [.ref qA, .ref qS, .int (nI sm), .ref qE, .ref qT, .int (nI tl), .ref qQ, .int (nI qd), .ref qF, .int (nI fm), .ref qC, .int (nI ap), .int (nI pl), .ref qH, .ref qB])), (qA, .inl (cI, 50, .inl av)), (qE, .inl (cI, 4, .inl (bad er 0)))] := hD.sub [1, 0, 2] rfl rfl
    refine W.eq (g2 := F0 m 13 ls [.int (-2)]) rfl ?_
    refine lv_goto (tgt := 34) hx hb dX6_asks_13 (by decide) ?_
    exact hret _ () _ _ _ _ (by rw [hc]; rfl) (by rw [hc]; exact hP) (by rw [hc]; exact hD) hS dX6_asks_34
set_option maxHeartbeats 4000000 in
set_option maxRecDepth 100000 in
theorem k_X6_level (l : Launch) (D : va_G) (cI cB : ClassId) (mo : Nat) (qA : Nat) (qS : Nat) (sm : Nat) (qE : Nat) (qT : Nat) (tl : Nat) (qQ : Nat) (qd : Nat) (qF : Nat) (fm : Nat) (qC : Nat) (ap : Nat) (pl : Nat) (qH : Nat) (qB : Nat) (av : Nat → Int32) (hs : Nat → Int32) (bs : Nat → Int32) (n : Nat) (as_ : Int32) (er : Nat → Int32) (at_ : Int32) (hM : mA av hs bs n as_) (hn : n ≤ 24) (hH : hOK hs n) (sz : Nat) : Wr l yX6_level wsX6_level ({ frames := 5, cells := 0, slots := 0, locals := 108 }) D cI cB [.ref mo, .int at_] [(mo, .inr (6, [.ref qA, .ref qS, .int (nI sm), .ref qE, .ref qT, .int (nI tl), .ref qQ, .int (nI qd), .ref qF, .int (nI fm), .ref qC, .int (nI ap), .int (nI pl), .ref qH, .ref qB])), (qA, .inl (cI, 50, .inl av)), (qE, .inl (cI, 4, .inl er))] sz (S := Unit) (fun v u => v = some (.int (cond (isA at_) (cond (has (mdl hs bs n) at_) (nI (lev hs bs n at_.toNatClampNeg)) (-3)) (-2)))) (fun u => [(mo, .inr (6, [.ref qA, .ref qS, .int (nI sm), .ref qE, .ref qT, .int (nI tl), .ref qQ, .int (nI qd), .ref qF, .int (nI fm), .ref qC, .int (nI ap), .int (nI pl), .ref qH, .ref qB])), (qA, .inl (cI, 50, .inl av)), (qE, .inl (cI, 4, .inl (cond (isA at_) (cond (has (mdl hs bs n) at_) er (bad er 1)) (bad er 0))))]) 0 0 := by
  refine ef_startI (cc := cX6_level) (maxL := 3) (by decide) rfl (Nat.le_of_ble_eq_true rfl) ?_
  intro p e s m args below meth c Q A hx hb hml hown hts hP hG hD hA hret ls hl
  have hown : s.vm.findClass RX6 = some m.cls := hown
  have hl : lv_has ls 3 [(0, .ref mo), (1, .int at_)] := hl
  have hS : va_S A s.heap s.heap [] := va_S.rf
  refine lv_aload_n hx hb dX6_level_0 rfl (lv_at hl 0 rfl) ?_
  refine lv_iload_n hx hb dX6_level_1 rfl (lv_at hl 1 rfl) ?_
  refine ef_V (As := [.int at_]) (rest := []) (wr := []) ⟨hx, hb, hml, hown, hts⟩ hG hP hD hS hA (k_X6_asks l D cI cB mo qA qS sm qE qT tl qQ qd qF fm qC ap pl qH qB av hs bs n as_ er at_ hM hn hH _) (cwV 1 hts gX6_level_X6_asks rfl rfl rfl (by decide +kernel) ⟨(Nat.le_of_ble_eq_true rfl), (Nat.le_of_ble_eq_true rfl)⟩) [0, 1, 2] [] rfl rfl rfl rfl (by decide) 0 rfl rfl rfl rfl hl.1 rfl (Nat.le_of_ble_eq_true rfl) dX6_level_2 ⟨(Nat.le_of_ble_eq_true rfl), (Nat.le_of_ble_eq_true rfl)⟩ (fun v_1 u_1 H locs w_1 hP hD hS => ?_)
  have w_1 : v_1 = some (.int (cond (isA at_) (cond (has (mdl hs bs n) at_) (nI 0) (-3)) (-2))) := w_1
  subst w_1
  have hP : va_P D vwCl [(mo, .inr (6, [.ref qA, .ref qS, .int (nI sm), .ref qE, .ref qT, .int (nI tl), .ref qQ, .int (nI qd), .ref qF, .int (nI fm), .ref qC, .int (nI ap), .int (nI pl), .ref qH, .ref qB])), (qA, .inl (cI, 50, .inl av)), (qE, .inl (cI, 4, .inl (cond (isA at_) (cond (has (mdl hs bs n) at_) er (bad er 1)) (bad er 0))))] H := hP.sub [0, 1, 2] rfl
  have hD : va_D A [(mo, .inr (6, [.ref qA, .ref qS, .int (nI sm), .ref qE, .ref qT, .int (nI tl), .ref qQ, .int (nI qd), .ref qF, .int (nI fm), .ref qC, .int (nI ap), .int (nI pl), .ref qH, .ref qB])), (qA, .inl (cI, 50, .inl av)), (qE, .inl (cI, 4, .inl (cond (isA at_) (cond (has (mdl hs bs n) at_) er (bad er 1)) (bad er 0))))] := hD.sub [0, 1, 2] rfl rfl
  refine W.eq (g2 := F0 m 5 ls [.int (cond (isA at_) (cond (has (mdl hs bs n) at_) (nI 0) (-3)) (-2))]) rfl ?_
  refine lv_istore_n (lv' := [(2, .int (cond (isA at_) (cond (has (mdl hs bs n) at_) (nI 0) (-3)) (-2))), (0, .ref mo), (1, .int at_)]) hx hb dX6_level_5 rfl hl (by decide) rfl (fun ls hl => ?_)
  refine lv_iload_n hx hb dX6_level_6 rfl (lv_at hl 0 rfl) ?_
  refine lv_if_ne (tgt := 18) hx hb dX6_level_7 (by decide) (fun c_2 => ?_) (fun c_2 => ?_)
  · skip
    have hN := ask_N (nI (lev hs bs n at_.toNatClampNeg)) c_2
    refine lv_iload_n hx hb dX6_level_18 rfl (lv_at hl 0 rfl) ?_
    exact hret _ () _ _ _ _ (by rw [hN]) (hP) (hD) hS dX6_level_19
  · skip
    obtain ⟨hA1, hm⟩ := ask_0 c_2
    obtain ⟨a, ha, rfl⟩ := isA_nat hA1
    have hlv := lev_spec ha hm
    refine lv_aload_n hx hb dX6_level_10 rfl (lv_at hl 1 rfl) ?_
    refine lv_iload_n hx hb dX6_level_11 rfl (lv_at hl 2 rfl) ?_
    refine pu_V (As := [.int (nI a)]) (rest := []) ⟨hx, hb, hml, hown, hts⟩ hG hP (k_X6_levelOf l D cI cB mo qA qS sm qE qT tl qQ qd qF fm qC ap pl qH qB av hs bs n as_ a (lev hs bs n a) hM hn ha hlv.1 hlv.2.1 hlv.2.2) (cwV 1 hts gX6_level_X6_levelOf rfl rfl rfl (by decide +kernel) ⟨(Nat.le_of_ble_eq_true rfl), (Nat.le_of_ble_eq_true rfl)⟩) [0, 1] rfl 0 rfl rfl rfl rfl hl.1 rfl (Nat.le_of_ble_eq_true rfl) dX6_level_12 ⟨Nat.zero_le _, Nat.zero_le _⟩ ?_
    refine lv_goto (tgt := 19) hx hb dX6_level_15 (by decide) ?_
    exact hret _ () _ _ _ _ (by rw [hA1, hm, nI_clamp (by omega)]; rfl) (hP) (hD) hS dX6_level_19
set_option maxHeartbeats 4000000 in
set_option maxRecDepth 100000 in
theorem k_X6_reason (l : Launch) (D : va_G) (cI cB : ClassId) (mo : Nat) (qA : Nat) (qS : Nat) (sm : Nat) (qE : Nat) (qT : Nat) (tl : Nat) (qQ : Nat) (qd : Nat) (qF : Nat) (fm : Nat) (qC : Nat) (ap : Nat) (pl : Nat) (qH : Nat) (qB : Nat) (av : Nat → Int32) (hs : Nat → Int32) (bs : Nat → Int32) (n : Nat) (as_ : Int32) (er : Nat → Int32) (at_ : Int32) (hM : mA av hs bs n as_) (hn : n ≤ 24) (hH : hOK hs n) (sz : Nat) : Wr l yX6_reason wsX6_reason ({ frames := 5, cells := 0, slots := 0, locals := 108 }) D cI cB [.ref mo, .int at_] [(mo, .inr (6, [.ref qA, .ref qS, .int (nI sm), .ref qE, .ref qT, .int (nI tl), .ref qQ, .int (nI qd), .ref qF, .int (nI fm), .ref qC, .int (nI ap), .int (nI pl), .ref qH, .ref qB])), (qA, .inl (cI, 50, .inl av)), (qE, .inl (cI, 4, .inl er))] sz (S := Unit) (fun v u => v = some (.int (cond (isA at_) (cond (has (mdl hs bs n) at_) (reaF hs bs n at_.toNatClampNeg n) (-3)) (-2)))) (fun u => [(mo, .inr (6, [.ref qA, .ref qS, .int (nI sm), .ref qE, .ref qT, .int (nI tl), .ref qQ, .int (nI qd), .ref qF, .int (nI fm), .ref qC, .int (nI ap), .int (nI pl), .ref qH, .ref qB])), (qA, .inl (cI, 50, .inl av)), (qE, .inl (cI, 4, .inl (cond (isA at_) (cond (has (mdl hs bs n) at_) er (bad er 1)) (bad er 0))))]) 0 0 := by
  refine ef_startI (cc := cX6_reason) (maxL := 3) (by decide) rfl (Nat.le_of_ble_eq_true rfl) ?_
  intro p e s m args below meth c Q A hx hb hml hown hts hP hG hD hA hret ls hl
  have hown : s.vm.findClass RX6 = some m.cls := hown
  have hl : lv_has ls 3 [(0, .ref mo), (1, .int at_)] := hl
  have hS : va_S A s.heap s.heap [] := va_S.rf
  refine lv_aload_n hx hb dX6_reason_0 rfl (lv_at hl 0 rfl) ?_
  refine lv_iload_n hx hb dX6_reason_1 rfl (lv_at hl 1 rfl) ?_
  refine ef_V (As := [.int at_]) (rest := []) (wr := []) ⟨hx, hb, hml, hown, hts⟩ hG hP hD hS hA (k_X6_asks l D cI cB mo qA qS sm qE qT tl qQ qd qF fm qC ap pl qH qB av hs bs n as_ er at_ hM hn hH _) (cwV 1 hts gX6_reason_X6_asks rfl rfl rfl (by decide +kernel) ⟨(Nat.le_of_ble_eq_true rfl), (Nat.le_of_ble_eq_true rfl)⟩) [0, 1, 2] [] rfl rfl rfl rfl (by decide) 0 rfl rfl rfl rfl hl.1 rfl (Nat.le_of_ble_eq_true rfl) dX6_reason_2 ⟨(Nat.le_of_ble_eq_true rfl), (Nat.le_of_ble_eq_true rfl)⟩ (fun v_1 u_1 H locs w_1 hP hD hS => ?_)
  have w_1 : v_1 = some (.int (cond (isA at_) (cond (has (mdl hs bs n) at_) (nI 0) (-3)) (-2))) := w_1
  subst w_1
  have hP : va_P D vwCl [(mo, .inr (6, [.ref qA, .ref qS, .int (nI sm), .ref qE, .ref qT, .int (nI tl), .ref qQ, .int (nI qd), .ref qF, .int (nI fm), .ref qC, .int (nI ap), .int (nI pl), .ref qH, .ref qB])), (qA, .inl (cI, 50, .inl av)), (qE, .inl (cI, 4, .inl (cond (isA at_) (cond (has (mdl hs bs n) at_) er (bad er 1)) (bad er 0))))] H := hP.sub [0, 1, 2] rfl
  have hD : va_D A [(mo, .inr (6, [.ref qA, .ref qS, .int (nI sm), .ref qE, .ref qT, .int (nI tl), .ref qQ, .int (nI qd), .ref qF, .int (nI fm), .ref qC, .int (nI ap), .int (nI pl), .ref qH, .ref qB])), (qA, .inl (cI, 50, .inl av)), (qE, .inl (cI, 4, .inl (cond (isA at_) (cond (has (mdl hs bs n) at_) er (bad er 1)) (bad er 0))))] := hD.sub [0, 1, 2] rfl rfl
  refine W.eq (g2 := F0 m 5 ls [.int (cond (isA at_) (cond (has (mdl hs bs n) at_) (nI 0) (-3)) (-2))]) rfl ?_
  refine lv_istore_n (lv' := [(2, .int (cond (isA at_) (cond (has (mdl hs bs n) at_) (nI 0) (-3)) (-2))), (0, .ref mo), (1, .int at_)]) hx hb dX6_reason_5 rfl hl (by decide) rfl (fun ls hl => ?_)
  refine lv_iload_n hx hb dX6_reason_6 rfl (lv_at hl 0 rfl) ?_
  refine lv_if_ne (tgt := 18) hx hb dX6_reason_7 (by decide) (fun c_2 => ?_) (fun c_2 => ?_)
  · skip
    have hN := ask_N (reaF hs bs n at_.toNatClampNeg n) c_2
    refine lv_iload_n hx hb dX6_reason_18 rfl (lv_at hl 0 rfl) ?_
    exact hret _ () _ _ _ _ (by rw [hN]) (hP) (hD) hS dX6_reason_19
  · skip
    obtain ⟨hA1, hm⟩ := ask_0 c_2
    obtain ⟨a, ha, rfl⟩ := isA_nat hA1
    have hlv := lev_spec ha hm
    refine lv_aload_n hx hb dX6_reason_10 rfl (lv_at hl 1 rfl) ?_
    refine lv_iload_n hx hb dX6_reason_11 rfl (lv_at hl 2 rfl) ?_
    refine pu_V (As := [.int (nI a)]) (rest := []) ⟨hx, hb, hml, hown, hts⟩ hG hP (k_X6_reasonOf l D cI cB mo qA qS sm qE qT tl qQ qd qF fm qC ap pl qH qB av hs bs n as_ a hM hn hH ha) (cwV 1 hts gX6_reason_X6_reasonOf rfl rfl rfl (by decide +kernel) ⟨(Nat.le_of_ble_eq_true rfl), (Nat.le_of_ble_eq_true rfl)⟩) [0, 1] rfl 0 rfl rfl rfl rfl hl.1 rfl (Nat.le_of_ble_eq_true rfl) dX6_reason_12 ⟨Nat.zero_le _, Nat.zero_le _⟩ ?_
    refine lv_goto (tgt := 19) hx hb dX6_reason_15 (by decide) ?_
    exact hret _ () _ _ _ _ (by rw [hA1, hm, nI_clamp (by omega)]; rfl) (hP) (hD) hS dX6_reason_19
set_option maxHeartbeats 4000000 in
set_option maxRecDepth 100000 in
theorem k_X6_necessary (l : Launch) (D : va_G) (cI cB : ClassId) (mo : Nat) (qA : Nat) (qS : Nat) (sm : Nat) (qE : Nat) (qT : Nat) (tl : Nat) (qQ : Nat) (qd : Nat) (qF : Nat) (fm : Nat) (qC : Nat) (ap : Nat) (pl : Nat) (qH : Nat) (qB : Nat) (av : Nat → Int32) (hs : Nat → Int32) (bs : Nat → Int32) (n : Nat) (as_ : Int32) (er : Nat → Int32) (at_ : Int32) (hM : mA av hs bs n as_) (hn : n ≤ 24) (hH : hOK hs n) (sz : Nat) : Wr l yX6_necessary wsX6_necessary ({ frames := 5, cells := 0, slots := 0, locals := 108 }) D cI cB [.ref mo, .int at_] [(mo, .inr (6, [.ref qA, .ref qS, .int (nI sm), .ref qE, .ref qT, .int (nI tl), .ref qQ, .int (nI qd), .ref qF, .int (nI fm), .ref qC, .int (nI ap), .int (nI pl), .ref qH, .ref qB])), (qA, .inl (cI, 50, .inl av)), (qE, .inl (cI, 4, .inl er))] sz (S := Unit) (fun v u => v = some (.int (cond (isA at_) (cond (has (mdl hs bs n) at_) (necF hs bs n at_.toNatClampNeg n) (-3)) (-2)))) (fun u => [(mo, .inr (6, [.ref qA, .ref qS, .int (nI sm), .ref qE, .ref qT, .int (nI tl), .ref qQ, .int (nI qd), .ref qF, .int (nI fm), .ref qC, .int (nI ap), .int (nI pl), .ref qH, .ref qB])), (qA, .inl (cI, 50, .inl av)), (qE, .inl (cI, 4, .inl (cond (isA at_) (cond (has (mdl hs bs n) at_) er (bad er 1)) (bad er 0))))]) 0 0 := by
  refine ef_startI (cc := cX6_necessary) (maxL := 3) (by decide) rfl (Nat.le_of_ble_eq_true rfl) ?_
  intro p e s m args below meth c Q A hx hb hml hown hts hP hG hD hA hret ls hl
  have hown : s.vm.findClass RX6 = some m.cls := hown
  have hl : lv_has ls 3 [(0, .ref mo), (1, .int at_)] := hl
  have hS : va_S A s.heap s.heap [] := va_S.rf
  refine lv_aload_n hx hb dX6_necessary_0 rfl (lv_at hl 0 rfl) ?_
  refine lv_iload_n hx hb dX6_necessary_1 rfl (lv_at hl 1 rfl) ?_
  refine ef_V (As := [.int at_]) (rest := []) (wr := []) ⟨hx, hb, hml, hown, hts⟩ hG hP hD hS hA (k_X6_asks l D cI cB mo qA qS sm qE qT tl qQ qd qF fm qC ap pl qH qB av hs bs n as_ er at_ hM hn hH _) (cwV 1 hts gX6_necessary_X6_asks rfl rfl rfl (by decide +kernel) ⟨(Nat.le_of_ble_eq_true rfl), (Nat.le_of_ble_eq_true rfl)⟩) [0, 1, 2] [] rfl rfl rfl rfl (by decide) 0 rfl rfl rfl rfl hl.1 rfl (Nat.le_of_ble_eq_true rfl) dX6_necessary_2 ⟨(Nat.le_of_ble_eq_true rfl), (Nat.le_of_ble_eq_true rfl)⟩ (fun v_1 u_1 H locs w_1 hP hD hS => ?_)
  have w_1 : v_1 = some (.int (cond (isA at_) (cond (has (mdl hs bs n) at_) (nI 0) (-3)) (-2))) := w_1
  subst w_1
  have hP : va_P D vwCl [(mo, .inr (6, [.ref qA, .ref qS, .int (nI sm), .ref qE, .ref qT, .int (nI tl), .ref qQ, .int (nI qd), .ref qF, .int (nI fm), .ref qC, .int (nI ap), .int (nI pl), .ref qH, .ref qB])), (qA, .inl (cI, 50, .inl av)), (qE, .inl (cI, 4, .inl (cond (isA at_) (cond (has (mdl hs bs n) at_) er (bad er 1)) (bad er 0))))] H := hP.sub [0, 1, 2] rfl
  have hD : va_D A [(mo, .inr (6, [.ref qA, .ref qS, .int (nI sm), .ref qE, .ref qT, .int (nI tl), .ref qQ, .int (nI qd), .ref qF, .int (nI fm), .ref qC, .int (nI ap), .int (nI pl), .ref qH, .ref qB])), (qA, .inl (cI, 50, .inl av)), (qE, .inl (cI, 4, .inl (cond (isA at_) (cond (has (mdl hs bs n) at_) er (bad er 1)) (bad er 0))))] := hD.sub [0, 1, 2] rfl rfl
  refine W.eq (g2 := F0 m 5 ls [.int (cond (isA at_) (cond (has (mdl hs bs n) at_) (nI 0) (-3)) (-2))]) rfl ?_
  refine lv_istore_n (lv' := [(2, .int (cond (isA at_) (cond (has (mdl hs bs n) at_) (nI 0) (-3)) (-2))), (0, .ref mo), (1, .int at_)]) hx hb dX6_necessary_5 rfl hl (by decide) rfl (fun ls hl => ?_)
  refine lv_iload_n hx hb dX6_necessary_6 rfl (lv_at hl 0 rfl) ?_
  refine lv_if_ne (tgt := 18) hx hb dX6_necessary_7 (by decide) (fun c_2 => ?_) (fun c_2 => ?_)
  · skip
    have hN := ask_N (necF hs bs n at_.toNatClampNeg n) c_2
    refine lv_iload_n hx hb dX6_necessary_18 rfl (lv_at hl 0 rfl) ?_
    exact hret _ () _ _ _ _ (by rw [hN]) (hP) (hD) hS dX6_necessary_19
  · skip
    obtain ⟨hA1, hm⟩ := ask_0 c_2
    obtain ⟨a, ha, rfl⟩ := isA_nat hA1
    have hlv := lev_spec ha hm
    refine lv_aload_n hx hb dX6_necessary_10 rfl (lv_at hl 1 rfl) ?_
    refine lv_iload_n hx hb dX6_necessary_11 rfl (lv_at hl 2 rfl) ?_
    refine pu_V (As := [.int (nI a)]) (rest := []) ⟨hx, hb, hml, hown, hts⟩ hG hP (k_X6_necessaryOf l D cI cB mo qA qS sm qE qT tl qQ qd qF fm qC ap pl qH qB av hs bs n as_ a hM hn hH ha) (cwV 1 hts gX6_necessary_X6_necessaryOf rfl rfl rfl (by decide +kernel) ⟨(Nat.le_of_ble_eq_true rfl), (Nat.le_of_ble_eq_true rfl)⟩) [0, 1] rfl 0 rfl rfl rfl rfl hl.1 rfl (Nat.le_of_ble_eq_true rfl) dX6_necessary_12 ⟨Nat.zero_le _, Nat.zero_le _⟩ ?_
    refine lv_goto (tgt := 19) hx hb dX6_necessary_15 (by decide) ?_
    exact hret _ () _ _ _ _ (by rw [hA1, hm, nI_clamp (by omega)]; rfl) (hP) (hD) hS dX6_necessary_19
set_option maxHeartbeats 4000000 in
set_option maxRecDepth 100000 in
theorem k_X6_gained (l : Launch) (D : va_G) (cI cB : ClassId) (mo : Nat) (qA : Nat) (qS : Nat) (sm : Nat) (qE : Nat) (qT : Nat) (tl : Nat) (qQ : Nat) (qd : Nat) (qF : Nat) (fm : Nat) (qC : Nat) (ap : Nat) (pl : Nat) (qH : Nat) (qB : Nat) (av : Nat → Int32) (hs : Nat → Int32) (bs : Nat → Int32) (n : Nat) (as_ : Int32) (er : Nat → Int32) (hd_ : Int32) (bd_ : Int32) (hM : mA av hs bs n as_) (hn : n ≤ 24) (hH : hOK hs n) (sz : Nat) : Wr l yX6_gained wsX6_gained ({ frames := 3, cells := 0, slots := 0, locals := 66 }) D cI cB [.ref mo, .int hd_, .int bd_] [(mo, .inr (6, [.ref qA, .ref qS, .int (nI sm), .ref qE, .ref qT, .int (nI tl), .ref qQ, .int (nI qd), .ref qF, .int (nI fm), .ref qC, .int (nI ap), .int (nI pl), .ref qH, .ref qB])), (qA, .inl (cI, 50, .inl av)), (qE, .inl (cI, 4, .inl er))] sz (S := Unit) (fun v u => v = some (.int (cond (isA hd_ && isS bd_ (nI 4)) (gnd hs bs n hd_ bd_) (-2)))) (fun u => [(mo, .inr (6, [.ref qA, .ref qS, .int (nI sm), .ref qE, .ref qT, .int (nI tl), .ref qQ, .int (nI qd), .ref qF, .int (nI fm), .ref qC, .int (nI ap), .int (nI pl), .ref qH, .ref qB])), (qA, .inl (cI, 50, .inl av)), (qE, .inl (cI, 4, .inl (cond (isA hd_ && isS bd_ (nI 4)) er (bad er 0))))]) 0 0 := by
  refine ef_startI (cc := cX6_gained) (maxL := 4) (by decide) rfl (Nat.le_of_ble_eq_true rfl) ?_
  intro p e s m args below meth c Q A hx hb hml hown hts hP hG hD hA hret ls hl
  have hown : s.vm.findClass RX6 = some m.cls := hown
  have hl : lv_has ls 4 [(0, .ref mo), (1, .int hd_), (2, .int bd_)] := hl
  have hS : va_S A s.heap s.heap [] := va_S.rf
  refine lv_iload_n hx hb dX6_gained_0 rfl (lv_at hl 1 rfl) ?_
  refine pu_S (As := [.int hd_]) (rest := []) ⟨hx, hb, hml, hown, hts⟩ hG hP (k_X6_isAtom l D cI cB hd_ ) (cwS 1 hts gX6_gained_X6_isAtom rfl rfl rfl (by decide +kernel) ⟨(Nat.le_of_ble_eq_true rfl), (Nat.le_of_ble_eq_true rfl)⟩) [] rfl rfl hl.1 rfl (Nat.le_of_ble_eq_true rfl) dX6_gained_1 ⟨Nat.zero_le _, Nat.zero_le _⟩ ?_
  refine lv_if_eq (tgt := 14) hx hb dX6_gained_4 (by decide) (fun c_1 => ?_) (fun c_1 => ?_)
  · skip
    have c_1 : (isA hd_) = false := bI_f.mp c_1
    have hk0 : (isA hd_ && isS bd_ (nI 4)) = false := by rw [c_1]; rfl
    refine lv_aload_n hx hb dX6_gained_14 rfl (lv_at hl 0 rfl) ?_
    refine lv_bipush (v := (-2)) hx hb dX6_gained_15 (by decide) ?_
    refine ef_V (As := [.int (-2)]) (rest := []) (wr := [(qA, .inl (cI, 50, .inl av))]) ⟨hx, hb, hml, hown, hts⟩ hG hP hD hS hA (k_X6_error l D cI cB mo qA qS sm qE qT tl qQ qd qF fm qC ap pl qH qB er (-2) 0 (by decide) (by decide) _) (cwV 1 hts gX6_gained_X6_error rfl rfl rfl (by decide +kernel) ⟨(Nat.le_of_ble_eq_true rfl), (Nat.le_of_ble_eq_true rfl)⟩) [0, 2] [1] rfl rfl rfl rfl (by decide) 0 rfl rfl rfl rfl hl.1 rfl (Nat.le_of_ble_eq_true rfl) dX6_gained_17 ⟨(Nat.le_of_ble_eq_true rfl), (Nat.le_of_ble_eq_true rfl)⟩ (fun v_2 u_2 H locs w_2 hP hD hS => ?_)
    have w_2 : v_2 = some (.int (-2)) := w_2
    subst w_2
    have hP : va_P D vwCl [(mo, .inr (6, [.ref qA, .ref qS, .int (nI sm), .ref qE, .ref qT, .int (nI tl), .ref qQ, .int (nI qd), .ref qF, .int (nI fm), .ref qC, .int (nI ap), .int (nI pl), .ref qH, .ref qB])), (qA, .inl (cI, 50, .inl av)), (qE, .inl (cI, 4, .inl (bad er 0)))] H := hP.sub [1, 0, 2] rfl
    have hD : va_D A [(mo, .inr (6, [.ref qA, .ref qS, .int (nI sm), .ref qE, .ref qT, .int (nI tl), .ref qQ, .int (nI qd), .ref qF, .int (nI fm), .ref qC, .int (nI ap), .int (nI pl), .ref qH, .ref qB])), (qA, .inl (cI, 50, .inl av)), (qE, .inl (cI, 4, .inl (bad er 0)))] := hD.sub [1, 0, 2] rfl rfl
    refine W.eq (g2 := F0 m 20 ls [.int (-2)]) rfl ?_
    exact hret _ () _ _ _ _ (by rw [hk0]; rfl) (by rw [hk0]; exact hP) (by rw [hk0]; exact hD) hS dX6_gained_20
  · skip
    have c_1 : (isA hd_) = true := bI_t.mp c_1
    have hA1 := c_1
    refine lv_iload_n hx hb dX6_gained_7 rfl (lv_at hl 2 rfl) ?_
    refine pu_S (As := [.int bd_]) (rest := []) ⟨hx, hb, hml, hown, hts⟩ hG hP (k_X6_isBody l D cI cB bd_ ) (cwS 1 hts gX6_gained_X6_isBody rfl rfl rfl (by decide +kernel) ⟨(Nat.le_of_ble_eq_true rfl), (Nat.le_of_ble_eq_true rfl)⟩) [] rfl rfl hl.1 rfl (Nat.le_of_ble_eq_true rfl) dX6_gained_8 ⟨Nat.zero_le _, Nat.zero_le _⟩ ?_
    refine lv_if_ne (tgt := 21) hx hb dX6_gained_11 (by decide) (fun c_3 => ?_) (fun c_3 => ?_)
    · skip
      have c_3 : (isS bd_ (nI 4)) = true := bI_t.mp c_3
      have hk1 : (isA hd_ && isS bd_ (nI 4)) = true := by rw [hA1, c_3]; rfl
      refine lv_aload_n hx hb dX6_gained_21 rfl (lv_at hl 0 rfl) ?_
      refine pu_V (As := []) (rest := []) ⟨hx, hb, hml, hown, hts⟩ hG hP (k_X6_whole l D cI cB mo qA qS sm qE qT tl qQ qd qF fm qC ap pl qH qB av hs bs n as_ hM hn hH) (cwV 0 hts gX6_gained_X6_whole rfl rfl rfl (by decide +kernel) ⟨(Nat.le_of_ble_eq_true rfl), (Nat.le_of_ble_eq_true rfl)⟩) [0, 1] rfl 0 rfl rfl rfl rfl hl.1 rfl (Nat.le_of_ble_eq_true rfl) dX6_gained_22 ⟨Nat.zero_le _, Nat.zero_le _⟩ ?_
      refine lv_istore_n (lv' := [(3, .int (mdl hs bs n)), (0, .ref mo), (1, .int hd_), (2, .int bd_)]) hx hb dX6_gained_25 rfl hl (by decide) rfl (fun ls hl => ?_)
      refine lv_iload_n hx hb dX6_gained_26 rfl (lv_at hl 3 rfl) ?_
      refine lv_iload_n hx hb dX6_gained_27 rfl (lv_at hl 0 rfl) ?_
      refine lv_iconst (v := (-1)) hx hb dX6_gained_28 (by decide) ?_
      refine lv_ixor hx hb dX6_gained_29 ?_
      refine lv_iand hx hb dX6_gained_30 ?_
      refine lv_if_ne (tgt := 54) hx hb dX6_gained_31 (by decide) (fun c_4 => ?_) (fun c_4 => ?_)
      · skip
        have hs0 : gnd hs bs n hd_ bd_ = nI 0 := by rw [gnd, if_neg (by rw [show sbs bd_ (mdl hs bs n) = false from decide_eq_false c_4]; decide)]
        refine lv_iconst (v := nI 0) hx hb dX6_gained_54 (by decide) ?_
        exact hret _ () _ _ _ _ (by rw [hk1, hs0]; rfl) (by rw [hk1]; exact hP) (by rw [hk1]; exact hD) hS dX6_gained_55
      · skip
        have hs0 : gnd hs bs n hd_ bd_ = clo hs bs n (evr n) (mdl hs bs n ||| (nI 1 <<< (hd_ &&& 31))) &&& (mdl hs bs n ^^^ (-1)) := by obtain ⟨a, ha, e9⟩ := isA_nat hA1; rw [gnd, if_pos (show sbs bd_ (mdl hs bs n) = true from decide_eq_true c_4), e9, gnd_eq hH ha]
        refine lv_aload_n hx hb dX6_gained_34 rfl (lv_at hl 1 rfl) ?_
        refine lv_aload_n hx hb dX6_gained_35 rfl (lv_at hl 1 rfl) ?_
        refine pu_V (As := []) (rest := [.ref mo]) ⟨hx, hb, hml, hown, hts⟩ hG hP (k_X6_everyRule l D cI cB mo qA qS sm qE qT tl qQ qd qF fm qC ap pl qH qB av hs bs n as_ hM hn) (cwV 0 hts gX6_gained_X6_everyRule rfl rfl rfl (by decide +kernel) ⟨(Nat.le_of_ble_eq_true rfl), (Nat.le_of_ble_eq_true rfl)⟩) [0, 1] rfl 0 rfl rfl rfl rfl hl.1 rfl (Nat.le_of_ble_eq_true rfl) dX6_gained_36 ⟨Nat.zero_le _, Nat.zero_le _⟩ ?_
        refine lv_iload_n hx hb dX6_gained_39 rfl (lv_at hl 0 rfl) ?_
        refine lv_iconst (v := nI 1) hx hb dX6_gained_40 (by decide) ?_
        refine lv_iload_n hx hb dX6_gained_41 rfl (lv_at hl 2 rfl) ?_
        refine lv_ishl hx hb dX6_gained_42 ?_
        refine lv_ior hx hb dX6_gained_43 ?_
        refine pu_V (As := [.int (evr n), .int ((mdl hs bs n) ||| ((nI 1) <<< (hd_ &&& 31)))]) (rest := []) ⟨hx, hb, hml, hown, hts⟩ hG hP (k_X6_modelOf l D cI cB mo qA qS sm qE qT tl qQ qd qF fm qC ap pl qH qB av hs bs n as_ (evr n) ((mdl hs bs n) ||| ((nI 1) <<< (hd_ &&& 31))) hM hn hH (low16_or (mdl_low hH) (low16_sh hA1))) (cwV 2 hts gX6_gained_X6_modelOf rfl rfl rfl (by decide +kernel) ⟨(Nat.le_of_ble_eq_true rfl), (Nat.le_of_ble_eq_true rfl)⟩) [0, 1] rfl 0 rfl rfl rfl rfl hl.1 rfl (Nat.le_of_ble_eq_true rfl) dX6_gained_44 ⟨Nat.zero_le _, Nat.zero_le _⟩ ?_
        refine lv_iload_n hx hb dX6_gained_47 rfl (lv_at hl 0 rfl) ?_
        refine lv_iconst (v := (-1)) hx hb dX6_gained_48 (by decide) ?_
        refine lv_ixor hx hb dX6_gained_49 ?_
        refine lv_iand hx hb dX6_gained_50 ?_
        refine lv_goto (tgt := 55) hx hb dX6_gained_51 (by decide) ?_
        exact hret _ () _ _ _ _ (by rw [hk1, hs0]; rfl) (by rw [hk1]; exact hP) (by rw [hk1]; exact hD) hS dX6_gained_55
    · skip
      have c_3 : (isS bd_ (nI 4)) = false := bI_f.mp c_3
      have hk0 : (isA hd_ && isS bd_ (nI 4)) = false := by rw [c_3]; exact Bool.and_false _
      refine lv_aload_n hx hb dX6_gained_14 rfl (lv_at hl 0 rfl) ?_
      refine lv_bipush (v := (-2)) hx hb dX6_gained_15 (by decide) ?_
      refine ef_V (As := [.int (-2)]) (rest := []) (wr := [(qA, .inl (cI, 50, .inl av))]) ⟨hx, hb, hml, hown, hts⟩ hG hP hD hS hA (k_X6_error l D cI cB mo qA qS sm qE qT tl qQ qd qF fm qC ap pl qH qB er (-2) 0 (by decide) (by decide) _) (cwV 1 hts gX6_gained_X6_error rfl rfl rfl (by decide +kernel) ⟨(Nat.le_of_ble_eq_true rfl), (Nat.le_of_ble_eq_true rfl)⟩) [0, 2] [1] rfl rfl rfl rfl (by decide) 0 rfl rfl rfl rfl hl.1 rfl (Nat.le_of_ble_eq_true rfl) dX6_gained_17 ⟨(Nat.le_of_ble_eq_true rfl), (Nat.le_of_ble_eq_true rfl)⟩ (fun v_5 u_5 H locs w_5 hP hD hS => ?_)
      have w_5 : v_5 = some (.int (-2)) := w_5
      subst w_5
      have hP : va_P D vwCl [(mo, .inr (6, [.ref qA, .ref qS, .int (nI sm), .ref qE, .ref qT, .int (nI tl), .ref qQ, .int (nI qd), .ref qF, .int (nI fm), .ref qC, .int (nI ap), .int (nI pl), .ref qH, .ref qB])), (qA, .inl (cI, 50, .inl av)), (qE, .inl (cI, 4, .inl (bad er 0)))] H := hP.sub [1, 0, 2] rfl
      have hD : va_D A [(mo, .inr (6, [.ref qA, .ref qS, .int (nI sm), .ref qE, .ref qT, .int (nI tl), .ref qQ, .int (nI qd), .ref qF, .int (nI fm), .ref qC, .int (nI ap), .int (nI pl), .ref qH, .ref qB])), (qA, .inl (cI, 50, .inl av)), (qE, .inl (cI, 4, .inl (bad er 0)))] := hD.sub [1, 0, 2] rfl rfl
      refine W.eq (g2 := F0 m 20 ls [.int (-2)]) rfl ?_
      exact hret _ () _ _ _ _ (by rw [hk0]; rfl) (by rw [hk0]; exact hP) (by rw [hk0]; exact hD) hS dX6_gained_20
set_option maxHeartbeats 4000000 in
set_option maxRecDepth 100000 in
theorem k_X6_errorCount (l : Launch) (D : va_G) (cI cB : ClassId) (mo : Nat) (qA : Nat) (qS : Nat) (sm : Nat) (qE : Nat) (qT : Nat) (tl : Nat) (qQ : Nat) (qd : Nat) (qF : Nat) (fm : Nat) (qC : Nat) (ap : Nat) (pl : Nat) (qH : Nat) (qB : Nat) (er : Nat → Int32) (c_ : Int32) (sz : Nat) : Wr l yX6_errorCount wsX6_errorCount ({ frames := 1, cells := 0, slots := 0, locals := 25 }) D cI cB [.ref mo, .int c_] [(mo, .inr (6, [.ref qA, .ref qS, .int (nI sm), .ref qE, .ref qT, .int (nI tl), .ref qQ, .int (nI qd), .ref qF, .int (nI fm), .ref qC, .int (nI ap), .int (nI pl), .ref qH, .ref qB])), (qE, .inl (cI, 4, .inl er))] sz (S := Unit) (fun v u => v = some (.int (cond (isE c_) (er ((-2) - c_).toNatClampNeg) (-2)))) (fun u => [(mo, .inr (6, [.ref qA, .ref qS, .int (nI sm), .ref qE, .ref qT, .int (nI tl), .ref qQ, .int (nI qd), .ref qF, .int (nI fm), .ref qC, .int (nI ap), .int (nI pl), .ref qH, .ref qB])), (qE, .inl (cI, 4, .inl (cond (isE c_) er (bad er 0))))]) 0 0 := by
  refine ef_startI (cc := cX6_errorCount) (maxL := 2) (by decide) rfl (Nat.le_of_ble_eq_true rfl) ?_
  intro p e s m args below meth c Q A hx hb hml hown hts hP hG hD hA hret ls hl
  have hown : s.vm.findClass RX6 = some m.cls := hown
  have hl : lv_has ls 2 [(0, .ref mo), (1, .int c_)] := hl
  have hS : va_S A s.heap s.heap [] := va_S.rf
  refine lv_iload_n hx hb dX6_errorCount_0 rfl (lv_at hl 1 rfl) ?_
  refine lv_i2l (v := c_.toInt64) hx hb dX6_errorCount_1 rfl ?_
  refine lv_ldc2 (v := (-5)) hx hb hown (hts (.constantLong RX6 160 (-5)) (List.mem_of_getElem? (i := 1) rfl)) dX6_errorCount_2 ?_
  refine lv_ldc2 (v := (-2)) hx hb hown (hts (.constantLong RX6 162 (-2)) (List.mem_of_getElem? (i := 2) rfl)) dX6_errorCount_5 ?_
  refine pu_S (As := [.long c_.toInt64, .long (-5), .long (-2)]) (rest := []) ⟨hx, hb, hml, hown, hts⟩ hG hP (k_X6_in l D cI cB c_.toInt64 (-5) (-2) ) (cwS 3 hts gX6_errorCount_X6_in rfl rfl rfl (by decide +kernel) ⟨(Nat.le_of_ble_eq_true rfl), (Nat.le_of_ble_eq_true rfl)⟩) [] rfl rfl hl.1 rfl (Nat.le_of_ble_eq_true rfl) dX6_errorCount_8 ⟨Nat.zero_le _, Nat.zero_le _⟩ ?_
  refine lv_if_eq (tgt := 26) hx hb dX6_errorCount_11 (by decide) (fun c_1 => ?_) (fun c_1 => ?_)
  · skip
    have c_1 : (inJ c_.toInt64 (-5) (-2)) = false := bI_f.mp c_1
    have hc : isE c_ = false := by rw [← inJ_E]; exact c_1
    refine lv_aload_n hx hb dX6_errorCount_26 rfl (lv_at hl 0 rfl) ?_
    refine lv_bipush (v := (-2)) hx hb dX6_errorCount_27 (by decide) ?_
    refine ef_V (As := [.int (-2)]) (rest := []) (wr := []) ⟨hx, hb, hml, hown, hts⟩ hG hP hD hS hA (k_X6_error l D cI cB mo qA qS sm qE qT tl qQ qd qF fm qC ap pl qH qB er (-2) 0 (by decide) (by decide) _) (cwV 1 hts gX6_errorCount_X6_error rfl rfl rfl (by decide +kernel) ⟨(Nat.le_of_ble_eq_true rfl), (Nat.le_of_ble_eq_true rfl)⟩) [0, 1] [] rfl rfl rfl rfl (by decide) 0 rfl rfl rfl rfl hl.1 rfl (Nat.le_of_ble_eq_true rfl) dX6_errorCount_29 ⟨(Nat.le_of_ble_eq_true rfl), (Nat.le_of_ble_eq_true rfl)⟩ (fun v_2 u_2 H locs w_2 hP hD hS => ?_)
    have w_2 : v_2 = some (.int (-2)) := w_2
    subst w_2
    have hP : va_P D vwCl [(mo, .inr (6, [.ref qA, .ref qS, .int (nI sm), .ref qE, .ref qT, .int (nI tl), .ref qQ, .int (nI qd), .ref qF, .int (nI fm), .ref qC, .int (nI ap), .int (nI pl), .ref qH, .ref qB])), (qE, .inl (cI, 4, .inl (bad er 0)))] H := hP.sub [0, 1] rfl
    have hD : va_D A [(mo, .inr (6, [.ref qA, .ref qS, .int (nI sm), .ref qE, .ref qT, .int (nI tl), .ref qQ, .int (nI qd), .ref qF, .int (nI fm), .ref qC, .int (nI ap), .int (nI pl), .ref qH, .ref qB])), (qE, .inl (cI, 4, .inl (bad er 0)))] := hD.sub [0, 1] rfl rfl
    refine W.eq (g2 := F0 m 32 ls [.int (-2)]) rfl ?_
    exact hret _ () _ _ _ _ (by rw [hc]; rfl) (by rw [hc]; exact hP) (by rw [hc]; exact hD) hS dX6_errorCount_32
  · skip
    have c_1 : (inJ c_.toInt64 (-5) (-2)) = true := bI_t.mp c_1
    obtain ⟨j, hj, rfl⟩ := isE_ix (show isE c_ = true by rw [← inJ_E]; exact c_1)
    refine lv_aload_n hx hb dX6_errorCount_14 rfl (lv_at hl 0 rfl) ?_
    refine va_get (D := D) (ci := 6) (v := .ref qE) (C := RX6) (T := TX6) (N := 15) hx hb hts ilX6_errorCount_6 hown hG.1 hP 0 rfl rfl 3 (by decide) (hts (.fieldLink RX6 16 "HornEngineModel" "errors" "[I") (List.mem_of_getElem? (i := 3) rfl)) (fun _ h9 => h9) rfl dX6_errorCount_15 ?_
    refine lv_bipush (v := (-2)) hx hb dX6_errorCount_18 (by decide) ?_
    refine lv_iload_n hx hb dX6_errorCount_20 rfl (lv_at hl 1 rfl) ?_
    refine lv_isub hx hb dX6_errorCount_21 ?_
    refine lv_eqi (y := nI j) (cd_ix j) ?_
    refine ia_ld hx hb hG hP 1 rfl j rfl (by omega) (by decide) dX6_errorCount_22 ?_
    refine lv_goto (tgt := 32) hx hb dX6_errorCount_23 (by decide) ?_
    exact hret _ () _ _ _ _ (by rw [isE_cd j hj, cd_ix j, nI_clamp (by omega)]; rfl) (by rw [isE_cd j hj]; exact hP) (by rw [isE_cd j hj]; exact hD) hS dX6_errorCount_32
set_option maxHeartbeats 4000000 in
set_option maxRecDepth 100000 in
theorem k_X6_append (l : Launch) (D : va_G) (cI cB : ClassId) (mo : Nat) (qA : Nat) (qS : Nat) (sm : Nat) (qE : Nat) (qT : Nat) (tl : Nat) (qQ : Nat) (qd : Nat) (qF : Nat) (fm : Nat) (qC : Nat) (ap : Nat) (pl : Nat) (qH : Nat) (qB : Nat) (it : Nat → Int32) (er : Nat → Int32) (v_ : Int32) (htl : tl ≤ 120) (sz : Nat) : Wr l yX6_append wsX6_append ({ frames := 1, cells := 0, slots := 0, locals := 25 }) D cI cB [.ref mo, .int v_] [(mo, .inr (6, [.ref qA, .ref qS, .int (nI sm), .ref qE, .ref qT, .int (nI tl), .ref qQ, .int (nI qd), .ref qF, .int (nI fm), .ref qC, .int (nI ap), .int (nI pl), .ref qH, .ref qB])), (qT, .inl (cI, 120, .inl it)), (qE, .inl (cI, 4, .inl er))] sz (S := Unit) (fun v u => v = some (.int (cond (isB v_) (cond (decide (tl < 120)) (nI (tl + 1)) (-4)) (-2)))) (fun u => [(mo, .inr (6, [.ref qA, .ref qS, .int (nI sm), .ref qE, .ref qT, .int (nI (cond (isB v_) (cond (decide (tl < 120)) (tl + 1) tl) tl)), .ref qQ, .int (nI qd), .ref qF, .int (nI fm), .ref qC, .int (nI ap), .int (nI pl), .ref qH, .ref qB])), (qT, .inl (cI, 120, .inl (cond (isB v_) (cond (decide (tl < 120)) (upd it tl v_) it) it))), (qE, .inl (cI, 4, .inl (cond (isB v_) (cond (decide (tl < 120)) er (bad er 2)) (bad er 0))))]) 0 0 := by
  refine ef_startI (cc := cX6_append) (maxL := 2) (by decide) rfl (Nat.le_of_ble_eq_true rfl) ?_
  intro p e s m args below meth c Q A hx hb hml hown hts hP hG hD hA hret ls hl
  have hown : s.vm.findClass RX6 = some m.cls := hown
  have hl : lv_has ls 2 [(0, .ref mo), (1, .int v_)] := hl
  have hS : va_S A s.heap s.heap [] := va_S.rf
  refine lv_iload_n hx hb dX6_append_0 rfl (lv_at hl 1 rfl) ?_
  refine lv_i2l (v := v_.toInt64) hx hb dX6_append_1 rfl ?_
  refine lv_lconst (v := 0) hx hb dX6_append_2 (by decide) ?_
  refine lv_ldc2 (v := 127) hx hb hown (hts (.constantLong RX6 133 (127)) (List.mem_of_getElem? (i := 1) rfl)) dX6_append_3 ?_
  refine pu_S (As := [.long v_.toInt64, .long 0, .long 127]) (rest := []) ⟨hx, hb, hml, hown, hts⟩ hG hP (k_X6_in l D cI cB v_.toInt64 0 127 ) (cwS 3 hts gX6_append_X6_in rfl rfl rfl (by decide +kernel) ⟨(Nat.le_of_ble_eq_true rfl), (Nat.le_of_ble_eq_true rfl)⟩) [] rfl rfl hl.1 rfl (Nat.le_of_ble_eq_true rfl) dX6_append_6 ⟨Nat.zero_le _, Nat.zero_le _⟩ ?_
  refine lv_if_ne (tgt := 19) hx hb dX6_append_9 (by decide) (fun c_1 => ?_) (fun c_1 => ?_)
  · skip
    have c_1 : (inJ v_.toInt64 0 127) = true := bI_t.mp c_1
    have hk : isB v_ = true := by rw [← inJ_B]; exact c_1
    refine lv_aload_n hx hb dX6_append_19 rfl (lv_at hl 0 rfl) ?_
    refine va_get (D := D) (ci := 6) (v := .int (nI tl)) (C := RX6) (T := TX6) (N := 15) hx hb hts ilX6_append_6 hown hG.1 hP 0 rfl rfl 5 (by decide) (hts (.fieldLink RX6 135 "HornEngineModel" "textLong" "I") (List.mem_of_getElem? (i := 2) rfl)) (fun _ h9 => h9) rfl dX6_append_20 ?_
    refine lv_bipush (v := nI 120) hx hb dX6_append_23 (by decide) ?_
    refine lv_icmp_ne (tgt := 35) hx hb dX6_append_25 (by decide) (fun c_2 => ?_) (fun c_2 => ?_)
    · skip
      have c_2 : ¬ (tl = 120) := fun h9 => (show ¬ (nI tl = nI 120) from c_2) ((nI_eq (by omega) (by omega)).mpr h9)
      have hf : decide (tl < 120) = true := decide_eq_true (by omega)
      have htl2 : tl < 120 := by omega
      refine lv_aload_n hx hb dX6_append_35 rfl (lv_at hl 0 rfl) ?_
      refine va_get (D := D) (ci := 6) (v := .ref qT) (C := RX6) (T := TX6) (N := 15) hx hb hts ilX6_append_6 hown hG.1 hP 0 rfl rfl 4 (by decide) (hts (.fieldLink RX6 19 "HornEngineModel" "text" "[I") (List.mem_of_getElem? (i := 3) rfl)) (fun _ h9 => h9) rfl dX6_append_36 ?_
      refine lv_aload_n hx hb dX6_append_39 rfl (lv_at hl 0 rfl) ?_
      refine va_get (D := D) (ci := 6) (v := .int (nI tl)) (C := RX6) (T := TX6) (N := 15) hx hb hts ilX6_append_6 hown hG.1 hP 0 rfl rfl 5 (by decide) (hts (.fieldLink RX6 135 "HornEngineModel" "textLong" "I") (List.mem_of_getElem? (i := 2) rfl)) (fun _ h9 => h9) rfl dX6_append_40 ?_
      refine lv_iload_n hx hb dX6_append_43 rfl (lv_at hl 1 rfl) ?_
      refine ia_st hx hb hG hP hD hS 1 rfl tl rfl (by omega) (by decide) dX6_append_44 (fun H locs hP hD hS => ?_)
      have hP : va_P D vwCl [(mo, .inr (6, [.ref qA, .ref qS, .int (nI sm), .ref qE, .ref qT, .int (nI tl), .ref qQ, .int (nI qd), .ref qF, .int (nI fm), .ref qC, .int (nI ap), .int (nI pl), .ref qH, .ref qB])), (qT, .inl (cI, 120, .inl (upd it tl v_))), (qE, .inl (cI, 4, .inl er))] H := hP
      have hD : va_D A [(mo, .inr (6, [.ref qA, .ref qS, .int (nI sm), .ref qE, .ref qT, .int (nI tl), .ref qQ, .int (nI qd), .ref qF, .int (nI fm), .ref qC, .int (nI ap), .int (nI pl), .ref qH, .ref qB])), (qT, .inl (cI, 120, .inl (upd it tl v_))), (qE, .inl (cI, 4, .inl er))] := hD
      refine lv_aload_n hx hb dX6_append_45 rfl (lv_at hl 0 rfl) ?_
      refine lv_dup hx hb dX6_append_46 rfl ?_
      refine va_get (D := D) (ci := 6) (v := .int (nI tl)) (C := RX6) (T := TX6) (N := 15) hx hb hts ilX6_append_6 hown hG.1 hP 0 rfl rfl 5 (by decide) (hts (.fieldLink RX6 135 "HornEngineModel" "textLong" "I") (List.mem_of_getElem? (i := 2) rfl)) (fun _ h9 => h9) rfl dX6_append_47 ?_
      refine lv_iconst (v := nI 1) hx hb dX6_append_50 (by decide) ?_
      refine lv_iadd hx hb dX6_append_51 ?_
      refine lv_eqi (y := nI (tl + 1)) (nI_add tl 1) ?_
      refine va_put (D := D) (ci := 6) (v := .int (nI (tl + 1))) (ty := .int) (C := RX6) (T := TX6) (N := 15) hx hb hts ilX6_append_6 tyX6 tyX6_ok nmX6 hown hG.1 hP hD hS 0 rfl rfl 5 (by decide) (hts (.fieldLink RX6 135 "HornEngineModel" "textLong" "I") (List.mem_of_getElem? (i := 2) rfl)) (fun _ h9 => h9) rfl (by decide +kernel) rfl rfl (Nat.le_of_ble_eq_true rfl) dX6_append_52 (fun H locs hP hD hS => ?_)
      have hP : va_P D vwCl [(mo, .inr (6, [.ref qA, .ref qS, .int (nI sm), .ref qE, .ref qT, .int (nI (tl + 1)), .ref qQ, .int (nI qd), .ref qF, .int (nI fm), .ref qC, .int (nI ap), .int (nI pl), .ref qH, .ref qB])), (qT, .inl (cI, 120, .inl (upd it tl v_))), (qE, .inl (cI, 4, .inl er))] H := hP
      have hD : va_D A [(mo, .inr (6, [.ref qA, .ref qS, .int (nI sm), .ref qE, .ref qT, .int (nI (tl + 1)), .ref qQ, .int (nI qd), .ref qF, .int (nI fm), .ref qC, .int (nI ap), .int (nI pl), .ref qH, .ref qB])), (qT, .inl (cI, 120, .inl (upd it tl v_))), (qE, .inl (cI, 4, .inl er))] := hD
      refine lv_aload_n hx hb dX6_append_55 rfl (lv_at hl 0 rfl) ?_
      refine va_get (D := D) (ci := 6) (v := .int (nI (tl + 1))) (C := RX6) (T := TX6) (N := 15) hx hb hts ilX6_append_6 hown hG.1 hP 0 rfl rfl 5 (by decide) (hts (.fieldLink RX6 135 "HornEngineModel" "textLong" "I") (List.mem_of_getElem? (i := 2) rfl)) (fun _ h9 => h9) rfl dX6_append_56 ?_
      exact hret _ () _ _ _ _ (by rw [hk, hf]; rfl) (by rw [hk, hf]; exact hP) (by rw [hk, hf]; exact hD) hS dX6_append_59
    · skip
      have c_2 : tl = 120 := (nI_eq (by omega) (by omega)).mp (show nI tl = nI 120 from c_2)
      have hf : decide (tl < 120) = false := decide_eq_false (by omega)
      refine lv_aload_n hx hb dX6_append_28 rfl (lv_at hl 0 rfl) ?_
      refine lv_bipush (v := (-4)) hx hb dX6_append_29 (by decide) ?_
      refine ef_V (As := [.int (-4)]) (rest := []) (wr := [(qT, .inl (cI, 120, .inl it))]) ⟨hx, hb, hml, hown, hts⟩ hG hP hD hS hA (k_X6_error l D cI cB mo qA qS sm qE qT tl qQ qd qF fm qC ap pl qH qB er (-4) 2 (by decide) (by decide) _) (cwV 1 hts gX6_append_X6_error rfl rfl rfl (by decide +kernel) ⟨(Nat.le_of_ble_eq_true rfl), (Nat.le_of_ble_eq_true rfl)⟩) [0, 2] [1] rfl rfl rfl rfl (by decide) 0 rfl rfl rfl rfl hl.1 rfl (Nat.le_of_ble_eq_true rfl) dX6_append_31 ⟨(Nat.le_of_ble_eq_true rfl), (Nat.le_of_ble_eq_true rfl)⟩ (fun v_3 u_3 H locs w_3 hP hD hS => ?_)
      have w_3 : v_3 = some (.int (-4)) := w_3
      subst w_3
      have hP : va_P D vwCl [(mo, .inr (6, [.ref qA, .ref qS, .int (nI sm), .ref qE, .ref qT, .int (nI tl), .ref qQ, .int (nI qd), .ref qF, .int (nI fm), .ref qC, .int (nI ap), .int (nI pl), .ref qH, .ref qB])), (qT, .inl (cI, 120, .inl it)), (qE, .inl (cI, 4, .inl (bad er 2)))] H := hP.sub [1, 0, 2] rfl
      have hD : va_D A [(mo, .inr (6, [.ref qA, .ref qS, .int (nI sm), .ref qE, .ref qT, .int (nI tl), .ref qQ, .int (nI qd), .ref qF, .int (nI fm), .ref qC, .int (nI ap), .int (nI pl), .ref qH, .ref qB])), (qT, .inl (cI, 120, .inl it)), (qE, .inl (cI, 4, .inl (bad er 2)))] := hD.sub [1, 0, 2] rfl rfl
      refine W.eq (g2 := F0 m 34 ls [.int (-4)]) rfl ?_
      exact hret _ () _ _ _ _ (by rw [hk, hf]; rfl) (by rw [hk, hf]; exact hP) (by rw [hk, hf]; exact hD) hS dX6_append_34
  · skip
    have c_1 : (inJ v_.toInt64 0 127) = false := bI_f.mp c_1
    have hk : isB v_ = false := by rw [← inJ_B]; exact c_1
    refine lv_aload_n hx hb dX6_append_12 rfl (lv_at hl 0 rfl) ?_
    refine lv_bipush (v := (-2)) hx hb dX6_append_13 (by decide) ?_
    refine ef_V (As := [.int (-2)]) (rest := []) (wr := [(qT, .inl (cI, 120, .inl it))]) ⟨hx, hb, hml, hown, hts⟩ hG hP hD hS hA (k_X6_error l D cI cB mo qA qS sm qE qT tl qQ qd qF fm qC ap pl qH qB er (-2) 0 (by decide) (by decide) _) (cwV 1 hts gX6_append_X6_error rfl rfl rfl (by decide +kernel) ⟨(Nat.le_of_ble_eq_true rfl), (Nat.le_of_ble_eq_true rfl)⟩) [0, 2] [1] rfl rfl rfl rfl (by decide) 0 rfl rfl rfl rfl hl.1 rfl (Nat.le_of_ble_eq_true rfl) dX6_append_15 ⟨(Nat.le_of_ble_eq_true rfl), (Nat.le_of_ble_eq_true rfl)⟩ (fun v_4 u_4 H locs w_4 hP hD hS => ?_)
    have w_4 : v_4 = some (.int (-2)) := w_4
    subst w_4
    have hP : va_P D vwCl [(mo, .inr (6, [.ref qA, .ref qS, .int (nI sm), .ref qE, .ref qT, .int (nI tl), .ref qQ, .int (nI qd), .ref qF, .int (nI fm), .ref qC, .int (nI ap), .int (nI pl), .ref qH, .ref qB])), (qT, .inl (cI, 120, .inl it)), (qE, .inl (cI, 4, .inl (bad er 0)))] H := hP.sub [1, 0, 2] rfl
    have hD : va_D A [(mo, .inr (6, [.ref qA, .ref qS, .int (nI sm), .ref qE, .ref qT, .int (nI tl), .ref qQ, .int (nI qd), .ref qF, .int (nI fm), .ref qC, .int (nI ap), .int (nI pl), .ref qH, .ref qB])), (qT, .inl (cI, 120, .inl it)), (qE, .inl (cI, 4, .inl (bad er 0)))] := hD.sub [1, 0, 2] rfl rfl
    refine W.eq (g2 := F0 m 18 ls [.int (-2)]) rfl ?_
    exact hret _ () _ _ _ _ (by rw [hk]; rfl) (by rw [hk]; exact hP) (by rw [hk]; exact hD) hS dX6_append_18
set_option maxHeartbeats 4000000 in
set_option maxRecDepth 100000 in
theorem k_X6_clearText (l : Launch) (D : va_G) (cI cB : ClassId) (mo : Nat) (qA : Nat) (qS : Nat) (sm : Nat) (qE : Nat) (qT : Nat) (tl : Nat) (qQ : Nat) (qd : Nat) (qF : Nat) (fm : Nat) (qC : Nat) (ap : Nat) (pl : Nat) (qH : Nat) (qB : Nat) (sz : Nat) : Wr l yX6_clearText wsX6_clearText ({ frames := 0, cells := 0, slots := 0, locals := 0 }) D cI cB [.ref mo] [(mo, .inr (6, [.ref qA, .ref qS, .int (nI sm), .ref qE, .ref qT, .int (nI tl), .ref qQ, .int (nI qd), .ref qF, .int (nI fm), .ref qC, .int (nI ap), .int (nI pl), .ref qH, .ref qB]))] sz (S := Unit) (fun v u => v = some (.int (nI tl))) (fun u => [(mo, .inr (6, [.ref qA, .ref qS, .int (nI sm), .ref qE, .ref qT, .int (nI 0), .ref qQ, .int (nI qd), .ref qF, .int (nI fm), .ref qC, .int (nI ap), .int (nI pl), .ref qH, .ref qB]))]) 0 0 := by
  refine ef_startI (cc := cX6_clearText) (maxL := 2) (by decide) rfl (Nat.le_of_ble_eq_true rfl) ?_
  intro p e s m args below meth c Q A hx hb hml hown hts hP hG hD hA hret ls hl
  have hown : s.vm.findClass RX6 = some m.cls := hown
  have hl : lv_has ls 2 [(0, .ref mo)] := hl
  have hS : va_S A s.heap s.heap [] := va_S.rf
  refine lv_aload_n hx hb dX6_clearText_0 rfl (lv_at hl 0 rfl) ?_
  refine va_get (D := D) (ci := 6) (v := .int (nI tl)) (C := RX6) (T := TX6) (N := 15) hx hb hts ilX6_clearText_6 hown hG.1 hP 0 rfl rfl 5 (by decide) (hts (.fieldLink RX6 135 "HornEngineModel" "textLong" "I") (List.mem_of_getElem? (i := 1) rfl)) (fun _ h9 => h9) rfl dX6_clearText_1 ?_
  refine lv_istore_n (lv' := [(1, .int (nI tl)), (0, .ref mo)]) hx hb dX6_clearText_4 rfl hl (by decide) rfl (fun ls hl => ?_)
  refine lv_aload_n hx hb dX6_clearText_5 rfl (lv_at hl 1 rfl) ?_
  refine lv_iconst (v := nI 0) hx hb dX6_clearText_6 (by decide) ?_
  refine va_put (D := D) (ci := 6) (v := .int (nI 0)) (ty := .int) (C := RX6) (T := TX6) (N := 15) hx hb hts ilX6_clearText_6 tyX6 tyX6_ok nmX6 hown hG.1 hP hD hS 0 rfl rfl 5 (by decide) (hts (.fieldLink RX6 135 "HornEngineModel" "textLong" "I") (List.mem_of_getElem? (i := 1) rfl)) (fun _ h9 => h9) rfl (by decide +kernel) rfl rfl (Nat.le_of_ble_eq_true rfl) dX6_clearText_7 (fun H locs hP hD hS => ?_)
  have hP : va_P D vwCl [(mo, .inr (6, [.ref qA, .ref qS, .int (nI sm), .ref qE, .ref qT, .int (nI 0), .ref qQ, .int (nI qd), .ref qF, .int (nI fm), .ref qC, .int (nI ap), .int (nI pl), .ref qH, .ref qB]))] H := hP
  have hD : va_D A [(mo, .inr (6, [.ref qA, .ref qS, .int (nI sm), .ref qE, .ref qT, .int (nI 0), .ref qQ, .int (nI qd), .ref qF, .int (nI fm), .ref qC, .int (nI ap), .int (nI pl), .ref qH, .ref qB]))] := hD
  refine lv_iload_n hx hb dX6_clearText_10 rfl (lv_at hl 0 rfl) ?_
  exact hret _ () _ _ _ _ (rfl) (hP) (hD) hS dX6_clearText_11
set_option maxHeartbeats 4000000 in
set_option maxRecDepth 100000 in
theorem k_X6_save (l : Launch) (D : va_G) (cI cB : ClassId) (mo : Nat) (qA : Nat) (qS : Nat) (sm : Nat) (qE : Nat) (qT : Nat) (tl : Nat) (qQ : Nat) (qd : Nat) (qF : Nat) (fm : Nat) (qC : Nat) (ap : Nat) (pl : Nat) (qH : Nat) (qB : Nat) (av : Nat → Int32) (hs : Nat → Int32) (bs : Nat → Int32) (n : Nat) (as_ : Int32) (sv : Nat → Int32) (hM : mA av hs bs n as_) (hn : n ≤ 24) (hsm : sm ≤ 4) (hsv : svOK sv sm) (sz : Nat) : Wr l yX6_save wsX6_save ({ frames := 0, cells := 0, slots := 0, locals := 0 }) D cI cB [.ref mo] [(mo, .inr (6, [.ref qA, .ref qS, .int (nI sm), .ref qE, .ref qT, .int (nI tl), .ref qQ, .int (nI qd), .ref qF, .int (nI fm), .ref qC, .int (nI ap), .int (nI pl), .ref qH, .ref qB])), (qA, .inl (cI, 50, .inl av)), (qS, .inl (cI, 200, .inl sv))] sz (S := (Nat → Int32) × Nat) (fun v u => v = none ∧ (msv u.1 u.2 = svP (msv sv sm) (tab2 hs bs n, as_) ∧ u.2 ≤ 4 ∧ svOK u.1 u.2)) (fun u => [(mo, .inr (6, [.ref qA, .ref qS, .int (nI u.2), .ref qE, .ref qT, .int (nI tl), .ref qQ, .int (nI qd), .ref qF, .int (nI fm), .ref qC, .int (nI ap), .int (nI pl), .ref qH, .ref qB])), (qA, .inl (cI, 50, .inl av)), (qS, .inl (cI, 200, .inl u.1))]) 0 0 := by
  refine ef_startV (cc := cX6_save) (maxL := 2) (by decide) rfl (Nat.le_of_ble_eq_true rfl) ?_
  intro p e s m args below meth c Q A hx hb hml hown hts hP hG hD hA hin hret ls hl
  have hown : s.vm.findClass RX6 = some m.cls := hown
  have hl : lv_has ls 2 [(0, .ref mo)] := hl
  have hS : va_S A s.heap s.heap [] := va_S.rf
  refine lv_aload_n hx hb dX6_save_0 rfl (lv_at hl 0 rfl) ?_
  refine va_get (D := D) (ci := 6) (v := .int (nI sm)) (C := RX6) (T := TX6) (N := 15) hx hb hts ilX6_save_6 hown hG.1 hP 0 rfl rfl 2 (by decide) (hts (.fieldLink RX6 37 "HornEngineModel" "savedMany" "I") (List.mem_of_getElem? (i := 1) rfl)) (fun _ h9 => h9) rfl dX6_save_1 ?_
  refine lv_iconst (v := nI 4) hx hb dX6_save_4 (by decide) ?_
  refine lv_icmp_ne (tgt := 48) hx hb dX6_save_5 (by decide) (fun c_1 => ?_) (fun c_1 => ?_)
  · skip
    have c_1 : ¬ (sm = 4) := fun h9 => (show ¬ (nI sm = nI 4) from c_1) ((nI_eq (by omega) (by omega)).mpr h9)
    have hs4 : sm < 4 := by omega
    refine lv_iconst (v := nI 0) hx hb dX6_save_48 (by decide) ?_
    refine lv_istore_n (lv' := [(1, .int (nI 0)), (0, .ref mo)]) hx hb dX6_save_49 rfl hl (by decide) rfl (fun ls hl => ?_)
    have hP : va_P D vwCl [(mo, .inr (6, [.ref qA, .ref qS, .int (nI sm), .ref qE, .ref qT, .int (nI tl), .ref qQ, .int (nI qd), .ref qF, .int (nI fm), .ref qC, .int (nI ap), .int (nI pl), .ref qH, .ref qB])), (qA, .inl (cI, 50, .inl av)), (qS, .inl (cI, 200, .inl (cbF sv av (50 * sm) 0)))] s.heap := by rw [cbF_0]; exact hP
    have hD : va_D A [(mo, .inr (6, [.ref qA, .ref qS, .int (nI sm), .ref qE, .ref qT, .int (nI tl), .ref qQ, .int (nI qd), .ref qF, .int (nI fm), .ref qC, .int (nI ap), .int (nI pl), .ref qH, .ref qB])), (qA, .inl (cI, 50, .inl av)), (qS, .inl (cI, 200, .inl (cbF sv av (50 * sm) 0)))] := by rw [cbF_0]; exact hD
    have lp_50_2 : ∀ (fu_50 : Nat) (k2 : Nat) (hk2 : k2 ≤ 50) (hfu_50 : 50 - k2 < fu_50) (H : Heap) (locs : List Loc) (hP : va_P D vwCl [(mo, .inr (6, [.ref qA, .ref qS, .int (nI sm), .ref qE, .ref qT, .int (nI tl), .ref qQ, .int (nI qd), .ref qF, .int (nI fm), .ref qC, .int (nI ap), .int (nI pl), .ref qH, .ref qB])), (qA, .inl (cI, 50, .inl av)), (qS, .inl (cI, 200, .inl (cbF sv av (50 * sm) k2)))] H) (hD : va_D A [(mo, .inr (6, [.ref qA, .ref qS, .int (nI sm), .ref qE, .ref qT, .int (nI tl), .ref qQ, .int (nI qd), .ref qF, .int (nI fm), .ref qC, .int (nI ap), .int (nI pl), .ref qH, .ref qB])), (qA, .inl (cI, 50, .inl av)), (qS, .inl (cI, 200, .inl (cbF sv av (50 * sm) k2)))]) (hS : va_S A s.heap H locs) (ls : Array Slot) (hl : lv_has ls 2 [(0, .ref mo), (1, .int (nI k2))]), W p l e ({ frames := 0, cells := 0, slots := 0, locals := 0 }) s m args below meth c H locs 0 0 Q (F0 m 50 ls []) := by
      intro fu_50
      induction fu_50 with
      | zero => intro k2 hk2 hfu; exact absurd hfu (Nat.not_lt_zero _)
      | succ fu_50 ih_50 =>
        intro k2 hk2 hfu_50 H locs hP hD hS ls hl
        refine lv_iload_n hx hb dX6_save_50 rfl (lv_at hl 1 rfl) ?_
        refine lv_bipush (v := nI 50) hx hb dX6_save_51 (by decide) ?_
        refine lv_icmp_ge (tgt := 82) hx hb dX6_save_53 (by decide) (fun c_3 => ?_) (fun c_3 => ?_)
        · skip
          have c_3 : 50 ≤ k2 := (nI_leI (by omega) (by omega)).mp (show nI 50 ≤ nI k2 from c_3)
          refine lv_aload_n hx hb dX6_save_82 rfl (lv_at hl 0 rfl) ?_
          refine lv_dup hx hb dX6_save_83 rfl ?_
          refine va_get (D := D) (ci := 6) (v := .int (nI sm)) (C := RX6) (T := TX6) (N := 15) hx hb hts ilX6_save_6 hown hG.1 hP 0 rfl rfl 2 (by decide) (hts (.fieldLink RX6 37 "HornEngineModel" "savedMany" "I") (List.mem_of_getElem? (i := 1) rfl)) (fun _ h9 => h9) rfl dX6_save_84 ?_
          refine lv_iconst (v := nI 1) hx hb dX6_save_87 (by decide) ?_
          refine lv_iadd hx hb dX6_save_88 ?_
          refine lv_eqi (y := nI (sm + 1)) (nI_add sm 1) ?_
          refine va_put (D := D) (ci := 6) (v := .int (nI (sm + 1))) (ty := .int) (C := RX6) (T := TX6) (N := 15) hx hb hts ilX6_save_6 tyX6 tyX6_ok nmX6 hown hG.1 hP hD hS 0 rfl rfl 2 (by decide) (hts (.fieldLink RX6 37 "HornEngineModel" "savedMany" "I") (List.mem_of_getElem? (i := 1) rfl)) (fun _ h9 => h9) rfl (by decide +kernel) rfl rfl (Nat.le_of_ble_eq_true rfl) dX6_save_89 (fun H locs hP hD hS => ?_)
          have hP : va_P D vwCl [(mo, .inr (6, [.ref qA, .ref qS, .int (nI (sm + 1)), .ref qE, .ref qT, .int (nI tl), .ref qQ, .int (nI qd), .ref qF, .int (nI fm), .ref qC, .int (nI ap), .int (nI pl), .ref qH, .ref qB])), (qA, .inl (cI, 50, .inl av)), (qS, .inl (cI, 200, .inl (cbF sv av (50 * sm) k2)))] H := hP
          have hD : va_D A [(mo, .inr (6, [.ref qA, .ref qS, .int (nI (sm + 1)), .ref qE, .ref qT, .int (nI tl), .ref qQ, .int (nI qd), .ref qF, .int (nI fm), .ref qC, .int (nI ap), .int (nI pl), .ref qH, .ref qB])), (qA, .inl (cI, 50, .inl av)), (qS, .inl (cI, 200, .inl (cbF sv av (50 * sm) k2)))] := hD
          exact hret (cbF sv av (50 * sm) 50, sm + 1) _ _ _ _ (by have h9 := msv_put (sv := sv) (av := av) hs4 hsv (show n24 (av 0) from ⟨n, hn, hM.1⟩); rw [msnap_mA hM hn] at h9; exact ⟨rfl, h9.1, hs4, h9.2⟩) (by rw [show 50 = k2 from by omega]; rw [show 50 = k2 from by omega] at hP; exact hP) (by rw [show 50 = k2 from by omega]; rw [show 50 = k2 from by omega] at hD; exact hD) hS dX6_save_92
        · skip
          have c_3 : ¬ (50 ≤ k2) := fun h9 => (show ¬ (nI 50 ≤ nI k2) from c_3) ((nI_leI (by omega) (by omega)).mpr h9)
          refine lv_aload_n hx hb dX6_save_56 rfl (lv_at hl 0 rfl) ?_
          refine va_get (D := D) (ci := 6) (v := .ref qS) (C := RX6) (T := TX6) (N := 15) hx hb hts ilX6_save_6 hown hG.1 hP 0 rfl rfl 1 (by decide) (hts (.fieldLink RX6 13 "HornEngineModel" "saved" "[I") (List.mem_of_getElem? (i := 2) rfl)) (fun _ h9 => h9) rfl dX6_save_57 ?_
          refine lv_bipush (v := nI 50) hx hb dX6_save_60 (by decide) ?_
          refine lv_aload_n hx hb dX6_save_62 rfl (lv_at hl 0 rfl) ?_
          refine va_get (D := D) (ci := 6) (v := .int (nI sm)) (C := RX6) (T := TX6) (N := 15) hx hb hts ilX6_save_6 hown hG.1 hP 0 rfl rfl 2 (by decide) (hts (.fieldLink RX6 37 "HornEngineModel" "savedMany" "I") (List.mem_of_getElem? (i := 1) rfl)) (fun _ h9 => h9) rfl dX6_save_63 ?_
          refine lv_imul hx hb dX6_save_66 ?_
          refine lv_eqi (y := nI (50 * sm)) (nI_mul 50 sm) ?_
          refine lv_iload_n hx hb dX6_save_67 rfl (lv_at hl 1 rfl) ?_
          refine lv_iadd hx hb dX6_save_68 ?_
          refine lv_eqi (y := nI (50 * sm + k2)) (nI_add (50 * sm) k2) ?_
          refine lv_aload_n hx hb dX6_save_69 rfl (lv_at hl 0 rfl) ?_
          refine va_get (D := D) (ci := 6) (v := .ref qA) (C := RX6) (T := TX6) (N := 15) hx hb hts ilX6_save_6 hown hG.1 hP 0 rfl rfl 0 (by decide) (hts (.fieldLink RX6 7 "HornEngineModel" "all" "[I") (List.mem_of_getElem? (i := 3) rfl)) (fun _ h9 => h9) rfl dX6_save_70 ?_
          refine lv_iload_n hx hb dX6_save_73 rfl (lv_at hl 1 rfl) ?_
          refine ia_ld hx hb hG hP 1 rfl k2 rfl (by omega) (by decide) dX6_save_74 ?_
          refine ia_st hx hb hG hP hD hS 2 rfl (50 * sm + k2) rfl (by omega) (by decide) dX6_save_75 (fun H locs hP hD hS => ?_)
          rw [show upd (cbF sv av (50 * sm) k2) (50 * sm + k2) (av k2) = cbF sv av (50 * sm) (k2 + 1) from cbF_st sv av (50 * sm) k2] at hP hD
          have hP : va_P D vwCl [(mo, .inr (6, [.ref qA, .ref qS, .int (nI sm), .ref qE, .ref qT, .int (nI tl), .ref qQ, .int (nI qd), .ref qF, .int (nI fm), .ref qC, .int (nI ap), .int (nI pl), .ref qH, .ref qB])), (qA, .inl (cI, 50, .inl av)), (qS, .inl (cI, 200, .inl (cbF sv av (50 * sm) (k2 + 1))))] H := hP
          have hD : va_D A [(mo, .inr (6, [.ref qA, .ref qS, .int (nI sm), .ref qE, .ref qT, .int (nI tl), .ref qQ, .int (nI qd), .ref qF, .int (nI fm), .ref qC, .int (nI ap), .int (nI pl), .ref qH, .ref qB])), (qA, .inl (cI, 50, .inl av)), (qS, .inl (cI, 200, .inl (cbF sv av (50 * sm) (k2 + 1))))] := hD
          refine lv_iinc (v := nI (k2 + 1)) (lv' := [(1, .int (nI (k2 + 1))), (0, .ref mo)]) hx hb dX6_save_76 hl (k := 1) rfl (nI_s1 k2) (by decide) rfl (fun ls hl => ?_)
          refine lv_goto (tgt := 50) hx hb dX6_save_79 (by decide) ?_
          exact ih_50 (k2 + 1) (by omega) (by omega) _ _ hP hD hS ls (lv_sub hl [1, 0] rfl)
    exact lp_50_2 (50 - 0 + 1) 0 (by omega) (Nat.lt_succ_self _) _ _ hP hD hS ls (lv_sub hl [1, 0] rfl)
  · skip
    have c_1 : sm = 4 := (nI_eq (by omega) (by omega)).mp (show nI sm = nI 4 from c_1)
    have hs4 : sm = 4 := by omega
    refine lv_iconst (v := nI 0) hx hb dX6_save_8 (by decide) ?_
    refine lv_istore_n (lv' := [(1, .int (nI 0)), (0, .ref mo)]) hx hb dX6_save_9 rfl hl (by decide) rfl (fun ls hl => ?_)
    have hP : va_P D vwCl [(mo, .inr (6, [.ref qA, .ref qS, .int (nI sm), .ref qE, .ref qT, .int (nI tl), .ref qQ, .int (nI qd), .ref qF, .int (nI fm), .ref qC, .int (nI ap), .int (nI pl), .ref qH, .ref qB])), (qA, .inl (cI, 50, .inl av)), (qS, .inl (cI, 200, .inl (sfF sv 0)))] s.heap := by rw [sfF_0]; exact hP
    have hD : va_D A [(mo, .inr (6, [.ref qA, .ref qS, .int (nI sm), .ref qE, .ref qT, .int (nI tl), .ref qQ, .int (nI qd), .ref qF, .int (nI fm), .ref qC, .int (nI ap), .int (nI pl), .ref qH, .ref qB])), (qA, .inl (cI, 50, .inl av)), (qS, .inl (cI, 200, .inl (sfF sv 0)))] := by rw [sfF_0]; exact hD
    have lp_10_4 : ∀ (fu_10 : Nat) (k1 : Nat) (hk1 : k1 ≤ 150) (hfu_10 : 150 - k1 < fu_10) (H : Heap) (locs : List Loc) (hP : va_P D vwCl [(mo, .inr (6, [.ref qA, .ref qS, .int (nI sm), .ref qE, .ref qT, .int (nI tl), .ref qQ, .int (nI qd), .ref qF, .int (nI fm), .ref qC, .int (nI ap), .int (nI pl), .ref qH, .ref qB])), (qA, .inl (cI, 50, .inl av)), (qS, .inl (cI, 200, .inl (sfF sv k1)))] H) (hD : va_D A [(mo, .inr (6, [.ref qA, .ref qS, .int (nI sm), .ref qE, .ref qT, .int (nI tl), .ref qQ, .int (nI qd), .ref qF, .int (nI fm), .ref qC, .int (nI ap), .int (nI pl), .ref qH, .ref qB])), (qA, .inl (cI, 50, .inl av)), (qS, .inl (cI, 200, .inl (sfF sv k1)))]) (hS : va_S A s.heap H locs) (ls : Array Slot) (hl : lv_has ls 2 [(0, .ref mo), (1, .int (nI k1))]), W p l e ({ frames := 0, cells := 0, slots := 0, locals := 0 }) s m args below meth c H locs 0 0 Q (F0 m 10 ls []) := by
      intro fu_10
      induction fu_10 with
      | zero => intro k1 hk1 hfu; exact absurd hfu (Nat.not_lt_zero _)
      | succ fu_10 ih_10 =>
        intro k1 hk1 hfu_10 H locs hP hD hS ls hl
        refine lv_iload_n hx hb dX6_save_10 rfl (lv_at hl 1 rfl) ?_
        refine lv_sipush (v := nI 150) hx hb dX6_save_11 (by decide) ?_
        refine lv_icmp_ge (tgt := 38) hx hb dX6_save_14 (by decide) (fun c_5 => ?_) (fun c_5 => ?_)
        · skip
          have c_5 : 150 ≤ k1 := (nI_leI (by omega) (by omega)).mp (show nI 150 ≤ nI k1 from c_5)
          refine lv_aload_n hx hb dX6_save_38 rfl (lv_at hl 0 rfl) ?_
          refine lv_dup hx hb dX6_save_39 rfl ?_
          refine va_get (D := D) (ci := 6) (v := .int (nI sm)) (C := RX6) (T := TX6) (N := 15) hx hb hts ilX6_save_6 hown hG.1 hP 0 rfl rfl 2 (by decide) (hts (.fieldLink RX6 37 "HornEngineModel" "savedMany" "I") (List.mem_of_getElem? (i := 1) rfl)) (fun _ h9 => h9) rfl dX6_save_40 ?_
          refine lv_iconst (v := nI 1) hx hb dX6_save_43 (by decide) ?_
          refine lv_isub hx hb dX6_save_44 ?_
          refine lv_eqi (y := nI 3) (by rw [hs4]; decide) ?_
          refine va_put (D := D) (ci := 6) (v := .int (nI 3)) (ty := .int) (C := RX6) (T := TX6) (N := 15) hx hb hts ilX6_save_6 tyX6 tyX6_ok nmX6 hown hG.1 hP hD hS 0 rfl rfl 2 (by decide) (hts (.fieldLink RX6 37 "HornEngineModel" "savedMany" "I") (List.mem_of_getElem? (i := 1) rfl)) (fun _ h9 => h9) rfl (by decide +kernel) rfl rfl (Nat.le_of_ble_eq_true rfl) dX6_save_45 (fun H locs hP hD hS => ?_)
          have hP : va_P D vwCl [(mo, .inr (6, [.ref qA, .ref qS, .int (nI 3), .ref qE, .ref qT, .int (nI tl), .ref qQ, .int (nI qd), .ref qF, .int (nI fm), .ref qC, .int (nI ap), .int (nI pl), .ref qH, .ref qB])), (qA, .inl (cI, 50, .inl av)), (qS, .inl (cI, 200, .inl (sfF sv k1)))] H := hP
          have hD : va_D A [(mo, .inr (6, [.ref qA, .ref qS, .int (nI 3), .ref qE, .ref qT, .int (nI tl), .ref qQ, .int (nI qd), .ref qF, .int (nI fm), .ref qC, .int (nI ap), .int (nI pl), .ref qH, .ref qB])), (qA, .inl (cI, 50, .inl av)), (qS, .inl (cI, 200, .inl (sfF sv k1)))] := hD
          refine lv_iconst (v := nI 0) hx hb dX6_save_48 (by decide) ?_
          refine lv_istore_n (lv' := [(1, .int (nI 0)), (0, .ref mo)]) hx hb dX6_save_49 rfl hl (by decide) rfl (fun ls hl => ?_)
          rw [show k1 = 150 from by omega] at hP hD
          have hP : va_P D vwCl [(mo, .inr (6, [.ref qA, .ref qS, .int (nI 3), .ref qE, .ref qT, .int (nI tl), .ref qQ, .int (nI qd), .ref qF, .int (nI fm), .ref qC, .int (nI ap), .int (nI pl), .ref qH, .ref qB])), (qA, .inl (cI, 50, .inl av)), (qS, .inl (cI, 200, .inl (cbF (sfF sv 150) av (50 * 3) 0)))] H := by rw [cbF_0]; exact hP
          have hD : va_D A [(mo, .inr (6, [.ref qA, .ref qS, .int (nI 3), .ref qE, .ref qT, .int (nI tl), .ref qQ, .int (nI qd), .ref qF, .int (nI fm), .ref qC, .int (nI ap), .int (nI pl), .ref qH, .ref qB])), (qA, .inl (cI, 50, .inl av)), (qS, .inl (cI, 200, .inl (cbF (sfF sv 150) av (50 * 3) 0)))] := by rw [cbF_0]; exact hD
          have lp_50_6 : ∀ (fu_50 : Nat) (k2 : Nat) (hk2 : k2 ≤ 50) (hfu_50 : 50 - k2 < fu_50) (H : Heap) (locs : List Loc) (hP : va_P D vwCl [(mo, .inr (6, [.ref qA, .ref qS, .int (nI 3), .ref qE, .ref qT, .int (nI tl), .ref qQ, .int (nI qd), .ref qF, .int (nI fm), .ref qC, .int (nI ap), .int (nI pl), .ref qH, .ref qB])), (qA, .inl (cI, 50, .inl av)), (qS, .inl (cI, 200, .inl (cbF (sfF sv 150) av (50 * 3) k2)))] H) (hD : va_D A [(mo, .inr (6, [.ref qA, .ref qS, .int (nI 3), .ref qE, .ref qT, .int (nI tl), .ref qQ, .int (nI qd), .ref qF, .int (nI fm), .ref qC, .int (nI ap), .int (nI pl), .ref qH, .ref qB])), (qA, .inl (cI, 50, .inl av)), (qS, .inl (cI, 200, .inl (cbF (sfF sv 150) av (50 * 3) k2)))]) (hS : va_S A s.heap H locs) (ls : Array Slot) (hl : lv_has ls 2 [(0, .ref mo), (1, .int (nI k2))]), W p l e ({ frames := 0, cells := 0, slots := 0, locals := 0 }) s m args below meth c H locs 0 0 Q (F0 m 50 ls []) := by
            intro fu_50
            induction fu_50 with
            | zero => intro k2 hk2 hfu; exact absurd hfu (Nat.not_lt_zero _)
            | succ fu_50 ih_50 =>
              intro k2 hk2 hfu_50 H locs hP hD hS ls hl
              refine lv_iload_n hx hb dX6_save_50 rfl (lv_at hl 1 rfl) ?_
              refine lv_bipush (v := nI 50) hx hb dX6_save_51 (by decide) ?_
              refine lv_icmp_ge (tgt := 82) hx hb dX6_save_53 (by decide) (fun c_7 => ?_) (fun c_7 => ?_)
              · skip
                have c_7 : 50 ≤ k2 := (nI_leI (by omega) (by omega)).mp (show nI 50 ≤ nI k2 from c_7)
                refine lv_aload_n hx hb dX6_save_82 rfl (lv_at hl 0 rfl) ?_
                refine lv_dup hx hb dX6_save_83 rfl ?_
                refine va_get (D := D) (ci := 6) (v := .int (nI 3)) (C := RX6) (T := TX6) (N := 15) hx hb hts ilX6_save_6 hown hG.1 hP 0 rfl rfl 2 (by decide) (hts (.fieldLink RX6 37 "HornEngineModel" "savedMany" "I") (List.mem_of_getElem? (i := 1) rfl)) (fun _ h9 => h9) rfl dX6_save_84 ?_
                refine lv_iconst (v := nI 1) hx hb dX6_save_87 (by decide) ?_
                refine lv_iadd hx hb dX6_save_88 ?_
                refine lv_eqi (y := nI 4) (show (nI 3) + (nI 1) = nI 4 by decide) ?_
                refine va_put (D := D) (ci := 6) (v := .int (nI 4)) (ty := .int) (C := RX6) (T := TX6) (N := 15) hx hb hts ilX6_save_6 tyX6 tyX6_ok nmX6 hown hG.1 hP hD hS 0 rfl rfl 2 (by decide) (hts (.fieldLink RX6 37 "HornEngineModel" "savedMany" "I") (List.mem_of_getElem? (i := 1) rfl)) (fun _ h9 => h9) rfl (by decide +kernel) rfl rfl (Nat.le_of_ble_eq_true rfl) dX6_save_89 (fun H locs hP hD hS => ?_)
                have hP : va_P D vwCl [(mo, .inr (6, [.ref qA, .ref qS, .int (nI 4), .ref qE, .ref qT, .int (nI tl), .ref qQ, .int (nI qd), .ref qF, .int (nI fm), .ref qC, .int (nI ap), .int (nI pl), .ref qH, .ref qB])), (qA, .inl (cI, 50, .inl av)), (qS, .inl (cI, 200, .inl (cbF (sfF sv 150) av (50 * 3) k2)))] H := hP
                have hD : va_D A [(mo, .inr (6, [.ref qA, .ref qS, .int (nI 4), .ref qE, .ref qT, .int (nI tl), .ref qQ, .int (nI qd), .ref qF, .int (nI fm), .ref qC, .int (nI ap), .int (nI pl), .ref qH, .ref qB])), (qA, .inl (cI, 50, .inl av)), (qS, .inl (cI, 200, .inl (cbF (sfF sv 150) av (50 * 3) k2)))] := hD
                exact hret (cbF (sfF sv 150) av (50 * 3) 50, 3 + 1) _ _ _ _ (by have h9 := msv_rot (sv := sv) (av := av) (by rw [← hs4]; exact hsv) (show n24 (av 0) from ⟨n, hn, hM.1⟩); rw [msnap_mA hM hn] at h9; exact ⟨rfl, by rw [hs4]; exact h9.1, Nat.le_refl 4, h9.2⟩) (by rw [show 50 = k2 from by omega]; rw [show 50 = k2 from by omega] at hP; exact hP) (by rw [show 50 = k2 from by omega]; rw [show 50 = k2 from by omega] at hD; exact hD) hS dX6_save_92
              · skip
                have c_7 : ¬ (50 ≤ k2) := fun h9 => (show ¬ (nI 50 ≤ nI k2) from c_7) ((nI_leI (by omega) (by omega)).mpr h9)
                refine lv_aload_n hx hb dX6_save_56 rfl (lv_at hl 0 rfl) ?_
                refine va_get (D := D) (ci := 6) (v := .ref qS) (C := RX6) (T := TX6) (N := 15) hx hb hts ilX6_save_6 hown hG.1 hP 0 rfl rfl 1 (by decide) (hts (.fieldLink RX6 13 "HornEngineModel" "saved" "[I") (List.mem_of_getElem? (i := 2) rfl)) (fun _ h9 => h9) rfl dX6_save_57 ?_
                refine lv_bipush (v := nI 50) hx hb dX6_save_60 (by decide) ?_
                refine lv_aload_n hx hb dX6_save_62 rfl (lv_at hl 0 rfl) ?_
                refine va_get (D := D) (ci := 6) (v := .int (nI 3)) (C := RX6) (T := TX6) (N := 15) hx hb hts ilX6_save_6 hown hG.1 hP 0 rfl rfl 2 (by decide) (hts (.fieldLink RX6 37 "HornEngineModel" "savedMany" "I") (List.mem_of_getElem? (i := 1) rfl)) (fun _ h9 => h9) rfl dX6_save_63 ?_
                refine lv_imul hx hb dX6_save_66 ?_
                refine lv_eqi (y := nI (50 * 3)) (nI_mul 50 3) ?_
                refine lv_iload_n hx hb dX6_save_67 rfl (lv_at hl 1 rfl) ?_
                refine lv_iadd hx hb dX6_save_68 ?_
                refine lv_eqi (y := nI (50 * 3 + k2)) (nI_add (50 * 3) k2) ?_
                refine lv_aload_n hx hb dX6_save_69 rfl (lv_at hl 0 rfl) ?_
                refine va_get (D := D) (ci := 6) (v := .ref qA) (C := RX6) (T := TX6) (N := 15) hx hb hts ilX6_save_6 hown hG.1 hP 0 rfl rfl 0 (by decide) (hts (.fieldLink RX6 7 "HornEngineModel" "all" "[I") (List.mem_of_getElem? (i := 3) rfl)) (fun _ h9 => h9) rfl dX6_save_70 ?_
                refine lv_iload_n hx hb dX6_save_73 rfl (lv_at hl 1 rfl) ?_
                refine ia_ld hx hb hG hP 1 rfl k2 rfl (by omega) (by decide) dX6_save_74 ?_
                refine ia_st hx hb hG hP hD hS 2 rfl (50 * 3 + k2) rfl (by omega) (by decide) dX6_save_75 (fun H locs hP hD hS => ?_)
                rw [show upd (cbF (sfF sv 150) av (50 * 3) k2) (50 * 3 + k2) (av k2) = cbF (sfF sv 150) av (50 * 3) (k2 + 1) from cbF_st (sfF sv 150) av (50 * 3) k2] at hP hD
                have hP : va_P D vwCl [(mo, .inr (6, [.ref qA, .ref qS, .int (nI 3), .ref qE, .ref qT, .int (nI tl), .ref qQ, .int (nI qd), .ref qF, .int (nI fm), .ref qC, .int (nI ap), .int (nI pl), .ref qH, .ref qB])), (qA, .inl (cI, 50, .inl av)), (qS, .inl (cI, 200, .inl (cbF (sfF sv 150) av (50 * 3) (k2 + 1))))] H := hP
                have hD : va_D A [(mo, .inr (6, [.ref qA, .ref qS, .int (nI 3), .ref qE, .ref qT, .int (nI tl), .ref qQ, .int (nI qd), .ref qF, .int (nI fm), .ref qC, .int (nI ap), .int (nI pl), .ref qH, .ref qB])), (qA, .inl (cI, 50, .inl av)), (qS, .inl (cI, 200, .inl (cbF (sfF sv 150) av (50 * 3) (k2 + 1))))] := hD
                refine lv_iinc (v := nI (k2 + 1)) (lv' := [(1, .int (nI (k2 + 1))), (0, .ref mo)]) hx hb dX6_save_76 hl (k := 1) rfl (nI_s1 k2) (by decide) rfl (fun ls hl => ?_)
                refine lv_goto (tgt := 50) hx hb dX6_save_79 (by decide) ?_
                exact ih_50 (k2 + 1) (by omega) (by omega) _ _ hP hD hS ls (lv_sub hl [1, 0] rfl)
          exact lp_50_6 (50 - 0 + 1) 0 (by omega) (Nat.lt_succ_self _) _ _ hP hD hS ls (lv_sub hl [1, 0] rfl)
        · skip
          have c_5 : ¬ (150 ≤ k1) := fun h9 => (show ¬ (nI 150 ≤ nI k1) from c_5) ((nI_leI (by omega) (by omega)).mpr h9)
          refine lv_aload_n hx hb dX6_save_17 rfl (lv_at hl 0 rfl) ?_
          refine va_get (D := D) (ci := 6) (v := .ref qS) (C := RX6) (T := TX6) (N := 15) hx hb hts ilX6_save_6 hown hG.1 hP 0 rfl rfl 1 (by decide) (hts (.fieldLink RX6 13 "HornEngineModel" "saved" "[I") (List.mem_of_getElem? (i := 2) rfl)) (fun _ h9 => h9) rfl dX6_save_18 ?_
          refine lv_iload_n hx hb dX6_save_21 rfl (lv_at hl 1 rfl) ?_
          refine lv_aload_n hx hb dX6_save_22 rfl (lv_at hl 0 rfl) ?_
          refine va_get (D := D) (ci := 6) (v := .ref qS) (C := RX6) (T := TX6) (N := 15) hx hb hts ilX6_save_6 hown hG.1 hP 0 rfl rfl 1 (by decide) (hts (.fieldLink RX6 13 "HornEngineModel" "saved" "[I") (List.mem_of_getElem? (i := 2) rfl)) (fun _ h9 => h9) rfl dX6_save_23 ?_
          refine lv_iload_n hx hb dX6_save_26 rfl (lv_at hl 1 rfl) ?_
          refine lv_bipush (v := nI 50) hx hb dX6_save_27 (by decide) ?_
          refine lv_iadd hx hb dX6_save_29 ?_
          refine lv_eqi (y := nI (k1 + 50)) (nI_add k1 50) ?_
          refine ia_ld hx hb hG hP 2 rfl (k1 + 50) rfl (by omega) (by decide) dX6_save_30 ?_
          refine lv_eqi (y := sv (k1 + 50)) (sfF_at sv k1) ?_
          refine ia_st hx hb hG hP hD hS 2 rfl k1 rfl (by omega) (by decide) dX6_save_31 (fun H locs hP hD hS => ?_)
          rw [show upd (sfF sv k1) k1 (sv (k1 + 50)) = sfF sv (k1 + 1) from sfF_st sv k1] at hP hD
          have hP : va_P D vwCl [(mo, .inr (6, [.ref qA, .ref qS, .int (nI sm), .ref qE, .ref qT, .int (nI tl), .ref qQ, .int (nI qd), .ref qF, .int (nI fm), .ref qC, .int (nI ap), .int (nI pl), .ref qH, .ref qB])), (qA, .inl (cI, 50, .inl av)), (qS, .inl (cI, 200, .inl (sfF sv (k1 + 1))))] H := hP
          have hD : va_D A [(mo, .inr (6, [.ref qA, .ref qS, .int (nI sm), .ref qE, .ref qT, .int (nI tl), .ref qQ, .int (nI qd), .ref qF, .int (nI fm), .ref qC, .int (nI ap), .int (nI pl), .ref qH, .ref qB])), (qA, .inl (cI, 50, .inl av)), (qS, .inl (cI, 200, .inl (sfF sv (k1 + 1))))] := hD
          refine lv_iinc (v := nI (k1 + 1)) (lv' := [(1, .int (nI (k1 + 1))), (0, .ref mo)]) hx hb dX6_save_32 hl (k := 1) rfl (nI_s1 k1) (by decide) rfl (fun ls hl => ?_)
          refine lv_goto (tgt := 10) hx hb dX6_save_35 (by decide) ?_
          exact ih_10 (k1 + 1) (by omega) (by omega) _ _ hP hD hS ls (lv_sub hl [1, 0] rfl)
    exact lp_10_4 (150 - 0 + 1) 0 (by omega) (Nat.lt_succ_self _) _ _ hP hD hS ls (lv_sub hl [1, 0] rfl)
