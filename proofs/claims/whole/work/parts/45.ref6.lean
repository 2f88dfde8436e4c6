theorem ilX6_parse_6 : ∀ w ∈ u_ws RX6 TX6 15, w ∈ wsX6_parse := by decide +kernel
set_option maxHeartbeats 4000000 in
set_option maxRecDepth 100000 in
theorem k_X6_parse (l : Launch) (D : va_G) (cI cB : ClassId) (mo : Nat) (qA : Nat) (qS : Nat) (sm : Nat) (qE : Nat) (qT : Nat) (tl : Nat) (qQ : Nat) (qd : Nat) (qF : Nat) (fm : Nat) (qC : Nat) (ap : Nat) (pl : Nat) (qH : Nat) (qB : Nat) (av : Nat → Int32) (hs : Nat → Int32) (bs : Nat → Int32) (n : Nat) (as_ : Int32) (sv : Nat → Int32) (it : Nat → Int32) (dh : Nat → Int32) (db : Nat → Int32) (hM : mA av hs bs n as_) (hn : n ≤ 24) (hsm : sm ≤ 4) (hsv : svOK sv sm) (htl : tl ≤ 120) (hTX : tOK it tl) (sz : Nat) : Wr l yX6_parse wsX6_parse ({ frames := 4, cells := 0, slots := 0, locals := 92 }) D cI cB [.ref mo] [(mo, .inr (6, [.ref qA, .ref qS, .int (nI sm), .ref qE, .ref qT, .int (nI tl), .ref qQ, .int (nI qd), .ref qF, .int (nI fm), .ref qC, .int (nI ap), .int (nI pl), .ref qH, .ref qB])), (qA, .inl (cI, 50, .inl av)), (qS, .inl (cI, 200, .inl sv)), (qT, .inl (cI, 120, .inl it)), (qH, .inl (cI, 24, .inl dh)), (qB, .inl (cI, 24, .inl db))] sz (S := Int32 × (Nat → Int32) × (Nat → Int32) × (Nat → Int32) × Nat × (Nat → Int32) × Nat × Nat × Nat × (Nat → Int32) × (Nat → Int32)) (fun v u => v = some (.int u.1) ∧ ((u.1, tab2 u.2.2.1 u.2.2.2.1 u.2.2.2.2.1, msv u.2.2.2.2.2.1 u.2.2.2.2.2.2.1) = parS it tl (tab2 hs bs n) as_ (msv sv sm) ∧ mA u.2.1 u.2.2.1 u.2.2.2.1 u.2.2.2.2.1 as_ ∧ u.2.2.2.2.1 ≤ 24 ∧ u.2.2.2.2.2.2.1 ≤ 4 ∧ svOK u.2.2.2.2.2.1 u.2.2.2.2.2.2.1 ∧ u.2.2.2.2.2.2.2.1 ≤ tl)) (fun u => [(mo, .inr (6, [.ref qA, .ref qS, .int (nI u.2.2.2.2.2.2.1), .ref qE, .ref qT, .int (nI tl), .ref qQ, .int (nI qd), .ref qF, .int (nI fm), .ref qC, .int (nI u.2.2.2.2.2.2.2.1), .int (nI u.2.2.2.2.2.2.2.2.1), .ref qH, .ref qB])), (qA, .inl (cI, 50, .inl u.2.1)), (qS, .inl (cI, 200, .inl u.2.2.2.2.2.1)), (qT, .inl (cI, 120, .inl it)), (qH, .inl (cI, 24, .inl u.2.2.2.2.2.2.2.2.2.1)), (qB, .inl (cI, 24, .inl u.2.2.2.2.2.2.2.2.2.2))]) 0 0 := by
  refine ef_startI (cc := cX6_parse) (maxL := 4) (by decide) rfl (Nat.le_of_ble_eq_true rfl) ?_
  intro p e s m args below meth c Q A hx hb hml hown hts hP hG hD hA hret ls hl
  have hown : s.vm.findClass RX6 = some m.cls := hown
  have hl : lv_has ls 4 [(0, .ref mo)] := hl
  have hS : va_S A s.heap s.heap [] := va_S.rf
  refine lv_aload_n hx hb dX6_parse_0 rfl (lv_at hl 0 rfl) ?_
  refine lv_iconst (v := nI 0) hx hb dX6_parse_1 (by decide) ?_
  refine va_put (D := D) (ci := 6) (v := .int (nI 0)) (ty := .int) (C := RX6) (T := TX6) (N := 15) hx hb hts ilX6_parse_6 tyX6 tyX6_ok nmX6 hown hG.1 hP hD hS 0 rfl rfl 11 (by decide) (hts (.fieldLink RX6 138 "HornEngineModel" "at" "I") (List.mem_of_getElem? (i := 1) rfl)) (fun _ h9 => h9) rfl (by decide +kernel) rfl rfl (Nat.le_of_ble_eq_true rfl) dX6_parse_2 (fun H locs hP hD hS => ?_)
  have hP : va_P D vwCl [(mo, .inr (6, [.ref qA, .ref qS, .int (nI sm), .ref qE, .ref qT, .int (nI tl), .ref qQ, .int (nI qd), .ref qF, .int (nI fm), .ref qC, .int (nI 0), .int (nI pl), .ref qH, .ref qB])), (qA, .inl (cI, 50, .inl av)), (qS, .inl (cI, 200, .inl sv)), (qT, .inl (cI, 120, .inl it)), (qH, .inl (cI, 24, .inl dh)), (qB, .inl (cI, 24, .inl db))] H := hP
  have hD : va_D A [(mo, .inr (6, [.ref qA, .ref qS, .int (nI sm), .ref qE, .ref qT, .int (nI tl), .ref qQ, .int (nI qd), .ref qF, .int (nI fm), .ref qC, .int (nI 0), .int (nI pl), .ref qH, .ref qB])), (qA, .inl (cI, 50, .inl av)), (qS, .inl (cI, 200, .inl sv)), (qT, .inl (cI, 120, .inl it)), (qH, .inl (cI, 24, .inl dh)), (qB, .inl (cI, 24, .inl db))] := hD
  refine lv_iconst (v := nI 0) hx hb dX6_parse_5 (by decide) ?_
  refine lv_istore_n (lv' := [(1, .int (nI 0)), (0, .ref mo)]) hx hb dX6_parse_6 rfl hl (by decide) rfl (fun ls hl => ?_)
  have lp_7_1 : ∀ (fu_7 : Nat) (my : Nat) (ap1 : Nat) (pl1 : Nat) (dh1 : Nat → Int32) (db1 : Nat → Int32) (hm24 : n + my ≤ 24) (hap1 : ap1 ≤ tl) (hT : onR (tab2 dh1 db1 my) (rdLF it tl (25 - (n + my)) (n + my) (skp it tl ap1)) = rdL it tl n) (hfu_7 : 24 - my < fu_7) (H : Heap) (locs : List Loc) (hP : va_P D vwCl [(mo, .inr (6, [.ref qA, .ref qS, .int (nI sm), .ref qE, .ref qT, .int (nI tl), .ref qQ, .int (nI qd), .ref qF, .int (nI fm), .ref qC, .int (nI ap1), .int (nI pl1), .ref qH, .ref qB])), (qA, .inl (cI, 50, .inl av)), (qS, .inl (cI, 200, .inl sv)), (qT, .inl (cI, 120, .inl it)), (qH, .inl (cI, 24, .inl dh1)), (qB, .inl (cI, 24, .inl db1))] H) (hD : va_D A [(mo, .inr (6, [.ref qA, .ref qS, .int (nI sm), .ref qE, .ref qT, .int (nI tl), .ref qQ, .int (nI qd), .ref qF, .int (nI fm), .ref qC, .int (nI ap1), .int (nI pl1), .ref qH, .ref qB])), (qA, .inl (cI, 50, .inl av)), (qS, .inl (cI, 200, .inl sv)), (qT, .inl (cI, 120, .inl it)), (qH, .inl (cI, 24, .inl dh1)), (qB, .inl (cI, 24, .inl db1))]) (hS : va_S A s.heap H locs) (ls : Array Slot) (hl : lv_has ls 4 [(0, .ref mo), (1, .int (nI my))]), W p l e ({ frames := 4, cells := 0, slots := 0, locals := 92 }) s m args below meth c H locs 0 0 Q (F0 m 7 ls []) := by
    intro fu_7
    induction fu_7 with
    | zero => intro my ap1 pl1 dh1 db1 hm24 hap1 hT hfu; exact absurd hfu (Nat.not_lt_zero _)
    | succ fu_7 ih_7 =>
      intro my ap1 pl1 dh1 db1 hm24 hap1 hT hfu_7 H locs hP hD hS ls hl
      refine lv_aload_n hx hb dX6_parse_7 rfl (lv_at hl 0 rfl) ?_
      refine ef_V (As := []) (rest := []) (wr := [(qA, .inl (cI, 50, .inl av)), (qS, .inl (cI, 200, .inl sv)), (qH, .inl (cI, 24, .inl dh1)), (qB, .inl (cI, 24, .inl db1))]) ⟨hx, hb, hml, hown, hts⟩ hG hP hD hS hA (k_X6_next l D cI cB mo qA qS sm qE qT tl qQ qd qF fm qC ap1 pl1 qH qB it htl hap1 _) (cwV 0 hts gX6_parse_X6_next rfl rfl rfl (by decide +kernel) ⟨(Nat.le_of_ble_eq_true rfl), (Nat.le_of_ble_eq_true rfl)⟩) [0, 3] [1, 2, 4, 5] rfl rfl rfl rfl (by decide) 0 rfl rfl rfl rfl hl.1 rfl (Nat.le_of_ble_eq_true rfl) dX6_parse_8 ⟨(Nat.le_of_ble_eq_true rfl), (Nat.le_of_ble_eq_true rfl)⟩ (fun v_2 u_2 H locs w_2 hP hD hS => ?_)
      have w_2 : v_2 = some (.int (tc it tl (skp it tl ap1))) := w_2
      subst w_2
      have hP : va_P D vwCl [(mo, .inr (6, [.ref qA, .ref qS, .int (nI sm), .ref qE, .ref qT, .int (nI tl), .ref qQ, .int (nI qd), .ref qF, .int (nI fm), .ref qC, .int (nI (skp it tl ap1)), .int (nI (skp it tl ap1)), .ref qH, .ref qB])), (qA, .inl (cI, 50, .inl av)), (qS, .inl (cI, 200, .inl sv)), (qT, .inl (cI, 120, .inl it)), (qH, .inl (cI, 24, .inl dh1)), (qB, .inl (cI, 24, .inl db1))] H := hP.sub [4, 0, 1, 5, 2, 3] rfl
      have hD : va_D A [(mo, .inr (6, [.ref qA, .ref qS, .int (nI sm), .ref qE, .ref qT, .int (nI tl), .ref qQ, .int (nI qd), .ref qF, .int (nI fm), .ref qC, .int (nI (skp it tl ap1)), .int (nI (skp it tl ap1)), .ref qH, .ref qB])), (qA, .inl (cI, 50, .inl av)), (qS, .inl (cI, 200, .inl sv)), (qT, .inl (cI, 120, .inl it)), (qH, .inl (cI, 24, .inl dh1)), (qB, .inl (cI, 24, .inl db1))] := hD.sub [4, 0, 1, 5, 2, 3] rfl rfl
      refine W.eq (g2 := F0 m 11 ls [.int (tc it tl (skp it tl ap1))]) rfl ?_
      refine lv_iconst (v := (-1)) hx hb dX6_parse_11 (by decide) ?_
      refine lv_icmp_eq (tgt := 111) hx hb dX6_parse_12 (by decide) (fun c_3 => ?_) (fun c_3 => ?_)
      · skip
        have hend := tc_end hTX c_3
        refine lv_aload_n hx hb dX6_parse_111 rfl (lv_at hl 0 rfl) ?_
        refine ef_V (As := []) (rest := []) (wr := [(qT, .inl (cI, 120, .inl it)), (qH, .inl (cI, 24, .inl dh1)), (qB, .inl (cI, 24, .inl db1))]) ⟨hx, hb, hml, hown, hts⟩ hG hP hD hS hA (k_X6_save l D cI cB mo qA qS sm qE qT tl qQ qd qF fm qC (skp it tl ap1) (skp it tl ap1) qH qB av hs bs n as_ sv hM hn hsm hsv _) (cwV 0 hts gX6_parse_X6_save rfl rfl rfl (by decide +kernel) ⟨(Nat.le_of_ble_eq_true rfl), (Nat.le_of_ble_eq_true rfl)⟩) [0, 1, 2] [3, 4, 5] rfl rfl rfl rfl (by decide) 0 rfl rfl rfl rfl hl.1 rfl (Nat.le_of_ble_eq_true rfl) dX6_parse_112 ⟨(Nat.le_of_ble_eq_true rfl), (Nat.le_of_ble_eq_true rfl)⟩ (fun v_4 u_4 H locs w_4 hP hD hS => ?_)
        obtain ⟨sv9_4, sm9_4⟩ := u_4
        obtain ⟨e_4, w_4⟩ := w_4
        have w_4 : msv sv9_4 sm9_4 = svP (msv sv sm) (tab2 hs bs n, as_) ∧ sm9_4 ≤ 4 ∧ svOK sv9_4 sm9_4 := w_4
        have e_4 : v_4 = none := e_4
        subst e_4
        have hP : va_P D vwCl [(mo, .inr (6, [.ref qA, .ref qS, .int (nI sm9_4), .ref qE, .ref qT, .int (nI tl), .ref qQ, .int (nI qd), .ref qF, .int (nI fm), .ref qC, .int (nI (skp it tl ap1)), .int (nI (skp it tl ap1)), .ref qH, .ref qB])), (qA, .inl (cI, 50, .inl av)), (qS, .inl (cI, 200, .inl sv9_4)), (qT, .inl (cI, 120, .inl it)), (qH, .inl (cI, 24, .inl dh1)), (qB, .inl (cI, 24, .inl db1))] H := hP.sub [3, 4, 5, 0, 1, 2] rfl
        have hD : va_D A [(mo, .inr (6, [.ref qA, .ref qS, .int (nI sm9_4), .ref qE, .ref qT, .int (nI tl), .ref qQ, .int (nI qd), .ref qF, .int (nI fm), .ref qC, .int (nI (skp it tl ap1)), .int (nI (skp it tl ap1)), .ref qH, .ref qB])), (qA, .inl (cI, 50, .inl av)), (qS, .inl (cI, 200, .inl sv9_4)), (qT, .inl (cI, 120, .inl it)), (qH, .inl (cI, 24, .inl dh1)), (qB, .inl (cI, 24, .inl db1))] := hD.sub [3, 4, 5, 0, 1, 2] rfl rfl
        refine W.eq (g2 := F0 m 115 ls []) rfl ?_
        have hsv1 := w_4.1
        have hk9 := w_4.2.1
        have hB9 := w_4.2.2
        refine lv_iconst (v := nI 0) hx hb dX6_parse_115 (by decide) ?_
        refine lv_istore_n (lv' := [(2, .int (nI 0)), (0, .ref mo), (1, .int (nI my))]) hx hb dX6_parse_116 rfl hl (by decide) rfl (fun ls hl => ?_)
        have lp_117_5 : ∀ (fu_117 : Nat) (k : Nat) (av1 : Nat → Int32) (hk : k ≤ my) (hM1 : mA av1 (cbF hs dh1 n k) (cbF bs db1 n k) (n + k) as_) (hfu_117 : my - k < fu_117) (H : Heap) (locs : List Loc) (hP : va_P D vwCl [(mo, .inr (6, [.ref qA, .ref qS, .int (nI sm9_4), .ref qE, .ref qT, .int (nI tl), .ref qQ, .int (nI qd), .ref qF, .int (nI fm), .ref qC, .int (nI (skp it tl ap1)), .int (nI (skp it tl ap1)), .ref qH, .ref qB])), (qA, .inl (cI, 50, .inl av1)), (qS, .inl (cI, 200, .inl sv9_4)), (qT, .inl (cI, 120, .inl it)), (qH, .inl (cI, 24, .inl dh1)), (qB, .inl (cI, 24, .inl db1))] H) (hD : va_D A [(mo, .inr (6, [.ref qA, .ref qS, .int (nI sm9_4), .ref qE, .ref qT, .int (nI tl), .ref qQ, .int (nI qd), .ref qF, .int (nI fm), .ref qC, .int (nI (skp it tl ap1)), .int (nI (skp it tl ap1)), .ref qH, .ref qB])), (qA, .inl (cI, 50, .inl av1)), (qS, .inl (cI, 200, .inl sv9_4)), (qT, .inl (cI, 120, .inl it)), (qH, .inl (cI, 24, .inl dh1)), (qB, .inl (cI, 24, .inl db1))]) (hS : va_S A s.heap H locs) (ls : Array Slot) (hl : lv_has ls 4 [(0, .ref mo), (1, .int (nI my)), (2, .int (nI k))]), W p l e ({ frames := 4, cells := 0, slots := 0, locals := 92 }) s m args below meth c H locs 0 0 Q (F0 m 117 ls []) := by
          intro fu_117
          induction fu_117 with
          | zero => intro k av1 hk hM1 hfu; exact absurd hfu (Nat.not_lt_zero _)
          | succ fu_117 ih_117 =>
            intro k av1 hk hM1 hfu_117 H locs hP hD hS ls hl
            refine lv_iload_n hx hb dX6_parse_117 rfl (lv_at hl 2 rfl) ?_
            refine lv_iload_n hx hb dX6_parse_118 rfl (lv_at hl 1 rfl) ?_
            refine lv_icmp_ge (tgt := 144) hx hb dX6_parse_119 (by decide) (fun c_6 => ?_) (fun c_6 => ?_)
            · skip
              have c_6 : my ≤ k := (nI_leI (by omega) (by omega)).mp (show nI my ≤ nI k from c_6)
              refine lv_iload_n hx hb dX6_parse_144 rfl (lv_at hl 1 rfl) ?_
              exact hret _ (nI my, av1, cbF hs dh1 n my, cbF bs db1 n my, n + my, sv9_4, sm9_4, skp it tl ap1, skp it tl ap1, dh1, db1) _ _ _ _ (⟨rfl, by rw [parS_t (l := tab2 dh1 db1 my) (by rw [tab2_len, ← hT, show 25 - (n + my) = (24 - (n + my)) + 1 from by omega, rdLF, if_neg (by omega)]; show Sum.inr (tab2 dh1 db1 my ++ []) = _; rw [List.append_nil]), tab2_len, tab2_cb, hsv1], by rw [show my = k from by omega]; exact hM1, hm24, hk9, hB9, skp_le hap1⟩) (hP) (hD) hS dX6_parse_145
            · skip
              have c_6 : ¬ (my ≤ k) := fun h9 => (show ¬ (nI my ≤ nI k) from c_6) ((nI_leI (by omega) (by omega)).mpr h9)
              refine lv_aload_n hx hb dX6_parse_122 rfl (lv_at hl 0 rfl) ?_
              refine lv_aload_n hx hb dX6_parse_123 rfl (lv_at hl 0 rfl) ?_
              refine va_get (D := D) (ci := 6) (v := .ref qH) (C := RX6) (T := TX6) (N := 15) hx hb hts ilX6_parse_6 hown hG.1 hP 0 rfl rfl 13 (by decide) (hts (.fieldLink RX6 31 "HornEngineModel" "heads" "[I") (List.mem_of_getElem? (i := 4) rfl)) (fun _ h9 => h9) rfl dX6_parse_124 ?_
              refine lv_iload_n hx hb dX6_parse_127 rfl (lv_at hl 2 rfl) ?_
              refine ia_ld hx hb hG hP 4 rfl k rfl (by omega) (by decide) dX6_parse_128 ?_
              refine lv_aload_n hx hb dX6_parse_129 rfl (lv_at hl 0 rfl) ?_
              refine va_get (D := D) (ci := 6) (v := .ref qB) (C := RX6) (T := TX6) (N := 15) hx hb hts ilX6_parse_6 hown hG.1 hP 0 rfl rfl 14 (by decide) (hts (.fieldLink RX6 34 "HornEngineModel" "bodies" "[I") (List.mem_of_getElem? (i := 5) rfl)) (fun _ h9 => h9) rfl dX6_parse_130 ?_
              refine lv_iload_n hx hb dX6_parse_133 rfl (lv_at hl 2 rfl) ?_
              refine ia_ld hx hb hG hP 5 rfl k rfl (by omega) (by decide) dX6_parse_134 ?_
              refine ef_V (As := [.int (dh1 k), .int (db1 k)]) (rest := []) (wr := [(qS, .inl (cI, 200, .inl sv9_4)), (qT, .inl (cI, 120, .inl it)), (qH, .inl (cI, 24, .inl dh1)), (qB, .inl (cI, 24, .inl db1))]) ⟨hx, hb, hml, hown, hts⟩ hG hP hD hS hA (k_X6_adds l D cI cB mo qA qS sm9_4 qE qT tl qQ qd qF fm qC (skp it tl ap1) (skp it tl ap1) qH qB av1 (cbF hs dh1 n k) (cbF bs db1 n k) (n + k) as_ (dh1 k) (db1 k) hM1 (by omega) _) (cwV 2 hts gX6_parse_X6_adds rfl rfl rfl (by decide +kernel) ⟨(Nat.le_of_ble_eq_true rfl), (Nat.le_of_ble_eq_true rfl)⟩) [0, 1] [2, 3, 4, 5] rfl rfl rfl rfl (by decide) 0 rfl rfl rfl rfl hl.1 rfl (Nat.le_of_ble_eq_true rfl) dX6_parse_135 ⟨(Nat.le_of_ble_eq_true rfl), (Nat.le_of_ble_eq_true rfl)⟩ (fun v_7 u_7 H locs w_7 hP hD hS => ?_)
              obtain ⟨av9_7, rfl⟩ : ∃ z, z = u_7 := ⟨_, rfl⟩
              obtain ⟨e_7, w_7⟩ := w_7
              have w_7 : mA av9_7 (upd (cbF hs dh1 n k) (n + k) (dh1 k)) (upd (cbF bs db1 n k) (n + k) (db1 k)) ((n + k) + 1) as_ := w_7
              have e_7 : v_7 = none := e_7
              subst e_7
              have hP : va_P D vwCl [(mo, .inr (6, [.ref qA, .ref qS, .int (nI sm9_4), .ref qE, .ref qT, .int (nI tl), .ref qQ, .int (nI qd), .ref qF, .int (nI fm), .ref qC, .int (nI (skp it tl ap1)), .int (nI (skp it tl ap1)), .ref qH, .ref qB])), (qA, .inl (cI, 50, .inl av9_7)), (qS, .inl (cI, 200, .inl sv9_4)), (qT, .inl (cI, 120, .inl it)), (qH, .inl (cI, 24, .inl dh1)), (qB, .inl (cI, 24, .inl db1))] H := hP.sub [4, 5, 0, 1, 2, 3] rfl
              have hD : va_D A [(mo, .inr (6, [.ref qA, .ref qS, .int (nI sm9_4), .ref qE, .ref qT, .int (nI tl), .ref qQ, .int (nI qd), .ref qF, .int (nI fm), .ref qC, .int (nI (skp it tl ap1)), .int (nI (skp it tl ap1)), .ref qH, .ref qB])), (qA, .inl (cI, 50, .inl av9_7)), (qS, .inl (cI, 200, .inl sv9_4)), (qT, .inl (cI, 120, .inl it)), (qH, .inl (cI, 24, .inl dh1)), (qB, .inl (cI, 24, .inl db1))] := hD.sub [4, 5, 0, 1, 2, 3] rfl rfl
              refine W.eq (g2 := F0 m 138 ls []) rfl ?_
              refine lv_iinc (v := nI (k + 1)) (lv' := [(2, .int (nI (k + 1))), (0, .ref mo), (1, .int (nI my))]) hx hb dX6_parse_138 hl (k := 2) rfl (nI_s1 k) (by decide) rfl (fun ls hl => ?_)
              refine lv_goto (tgt := 117) hx hb dX6_parse_141 (by decide) ?_
              exact ih_117 (k + 1) av9_7 (by omega) (by have h9 := w_7; rw [cbF_st, cbF_st] at h9; exact h9) (by omega) _ _ hP hD hS ls (lv_sub hl [1, 2, 0] rfl)
        exact lp_117_5 (my - 0 + 1) 0 av (by omega) (by rw [cbF_0, cbF_0]; exact hM) (Nat.lt_succ_self _) _ _ hP hD hS ls (lv_sub hl [1, 2, 0] rfl)
      · skip
        have hlt := tc_in c_3
        have hsp := skp_le (it := it) hap1
        refine lv_aload_n hx hb dX6_parse_15 rfl (lv_at hl 0 rfl) ?_
        refine va_get (D := D) (ci := 6) (v := .ref qA) (C := RX6) (T := TX6) (N := 15) hx hb hts ilX6_parse_6 hown hG.1 hP 0 rfl rfl 0 (by decide) (hts (.fieldLink RX6 7 "HornEngineModel" "all" "[I") (List.mem_of_getElem? (i := 2) rfl)) (fun _ h9 => h9) rfl dX6_parse_16 ?_
        refine lv_iconst (v := nI 0) hx hb dX6_parse_19 (by decide) ?_
        refine ia_ld hx hb hG hP 1 rfl 0 rfl (by omega) (by decide) dX6_parse_20 ?_
        refine lv_eqi (y := nI n) hM.1 ?_
        refine lv_iload_n hx hb dX6_parse_21 rfl (lv_at hl 1 rfl) ?_
        refine lv_iadd hx hb dX6_parse_22 ?_
        refine lv_eqi (y := nI (n + my)) (nI_add n my) ?_
        refine lv_bipush (v := nI 24) hx hb dX6_parse_23 (by decide) ?_
        refine lv_icmp_ne (tgt := 36) hx hb dX6_parse_25 (by decide) (fun c_8 => ?_) (fun c_8 => ?_)
        · skip
          have c_8 : ¬ ((n + my) = 24) := fun h9 => (show ¬ (nI (n + my) = nI 24) from c_8) ((nI_eq (by omega) (by omega)).mpr h9)
          have hnf : ¬ 24 ≤ n + my := by omega
          refine lv_aload_n hx hb dX6_parse_36 rfl (lv_at hl 0 rfl) ?_
          refine ef_V (As := []) (rest := []) (wr := [(qA, .inl (cI, 50, .inl av)), (qS, .inl (cI, 200, .inl sv)), (qH, .inl (cI, 24, .inl dh1)), (qB, .inl (cI, 24, .inl db1))]) ⟨hx, hb, hml, hown, hts⟩ hG hP hD hS hA (k_X6_readsAtom l D cI cB mo qA qS sm qE qT tl qQ qd qF fm qC (skp it tl ap1) (skp it tl ap1) qH qB it htl hsp _) (cwV 0 hts gX6_parse_X6_readsAtom rfl rfl rfl (by decide +kernel) ⟨(Nat.le_of_ble_eq_true rfl), (Nat.le_of_ble_eq_true rfl)⟩) [0, 3] [1, 2, 4, 5] rfl rfl rfl rfl (by decide) 0 rfl rfl rfl rfl hl.1 rfl (Nat.le_of_ble_eq_true rfl) dX6_parse_37 ⟨(Nat.le_of_ble_eq_true rfl), (Nat.le_of_ble_eq_true rfl)⟩ (fun v_9 u_9 H locs w_9 hP hD hS => ?_)
          obtain ⟨rv9_9, ap9_9, pl9_9⟩ := u_9
          obtain ⟨e_9, w_9⟩ := w_9
          have w_9 : rmR (rdA it tl (skp it tl (skp it tl ap1))) (skp it tl (skp it tl ap1)) rv9_9 ap9_9 pl9_9 ∧ ap9_9 ≤ tl := w_9
          have e_9 : v_9 = some (.int rv9_9) := e_9
          subst e_9
          have hP : va_P D vwCl [(mo, .inr (6, [.ref qA, .ref qS, .int (nI sm), .ref qE, .ref qT, .int (nI tl), .ref qQ, .int (nI qd), .ref qF, .int (nI fm), .ref qC, .int (nI ap9_9), .int (nI pl9_9), .ref qH, .ref qB])), (qA, .inl (cI, 50, .inl av)), (qS, .inl (cI, 200, .inl sv)), (qT, .inl (cI, 120, .inl it)), (qH, .inl (cI, 24, .inl dh1)), (qB, .inl (cI, 24, .inl db1))] H := hP.sub [4, 0, 1, 5, 2, 3] rfl
          have hD : va_D A [(mo, .inr (6, [.ref qA, .ref qS, .int (nI sm), .ref qE, .ref qT, .int (nI tl), .ref qQ, .int (nI qd), .ref qF, .int (nI fm), .ref qC, .int (nI ap9_9), .int (nI pl9_9), .ref qH, .ref qB])), (qA, .inl (cI, 50, .inl av)), (qS, .inl (cI, 200, .inl sv)), (qT, .inl (cI, 120, .inl it)), (qH, .inl (cI, 24, .inl dh1)), (qB, .inl (cI, 24, .inl db1))] := hD.sub [4, 0, 1, 5, 2, 3] rfl rfl
          refine W.eq (g2 := F0 m 40 ls [.int rv9_9]) rfl ?_
          have hrd := w_9.1
          have hpl := w_9.2
          rw [skp_skp hap1] at hrd
          refine lv_istore_n (lv' := [(2, .int rv9_9), (0, .ref mo), (1, .int (nI my))]) hx hb dX6_parse_40 rfl hl (by decide) rfl (fun ls hl => ?_)
          refine lv_iload_n hx hb dX6_parse_41 rfl (lv_at hl 0 rfl) ?_
          refine lv_iconst (v := (-1)) hx hb dX6_parse_42 (by decide) ?_
          refine lv_icmp_eq (tgt := 55) hx hb dX6_parse_43 (by decide) (fun c_10 => ?_) (fun c_10 => ?_)
          · skip
            obtain ⟨z, hz, hze⟩ := rm_err hrd c_10
            refine lv_bipush (v := (-10)) hx hb dX6_parse_55 (by decide) ?_
            refine lv_aload_n hx hb dX6_parse_57 rfl (lv_at hl 1 rfl) ?_
            refine va_get (D := D) (ci := 6) (v := .int (nI pl9_9)) (C := RX6) (T := TX6) (N := 15) hx hb hts ilX6_parse_6 hown hG.1 hP 0 rfl rfl 12 (by decide) (hts (.fieldLink RX6 141 "HornEngineModel" "place" "I") (List.mem_of_getElem? (i := 3) rfl)) (fun _ h9 => h9) rfl dX6_parse_58 ?_
            refine lv_isub hx hb dX6_parse_61 ?_
            exact hret _ ((-10) - nI (pl9_9), av, hs, bs, n, sv, sm, ap9_9, pl9_9, dh1, db1) _ _ _ _ (⟨rfl, by rw [parS_f (e := pl9_9) (by rw [tab2_len, ← hT, show 25 - (n + my) = (24 - (n + my)) + 1 from by omega, rdLF, if_pos hlt, rdU, if_neg hnf, hz, hze]; rfl)], hM, hn, hsm, hsv, hpl⟩) (hP) (hD) hS dX6_parse_62
          · skip
            have hRA := rm_ok hrd c_10
            have hs2 := skp_le (it := it) hpl
            refine lv_aload_n hx hb dX6_parse_46 rfl (lv_at hl 1 rfl) ?_
            refine ef_V (As := []) (rest := []) (wr := [(qA, .inl (cI, 50, .inl av)), (qS, .inl (cI, 200, .inl sv)), (qH, .inl (cI, 24, .inl dh1)), (qB, .inl (cI, 24, .inl db1))]) ⟨hx, hb, hml, hown, hts⟩ hG hP hD hS hA (k_X6_next l D cI cB mo qA qS sm qE qT tl qQ qd qF fm qC ap9_9 pl9_9 qH qB it htl hpl _) (cwV 0 hts gX6_parse_X6_next rfl rfl rfl (by decide +kernel) ⟨(Nat.le_of_ble_eq_true rfl), (Nat.le_of_ble_eq_true rfl)⟩) [0, 3] [1, 2, 4, 5] rfl rfl rfl rfl (by decide) 0 rfl rfl rfl rfl hl.1 rfl (Nat.le_of_ble_eq_true rfl) dX6_parse_47 ⟨(Nat.le_of_ble_eq_true rfl), (Nat.le_of_ble_eq_true rfl)⟩ (fun v_11 u_11 H locs w_11 hP hD hS => ?_)
            have w_11 : v_11 = some (.int (tc it tl (skp it tl ap9_9))) := w_11
            subst w_11
            have hP : va_P D vwCl [(mo, .inr (6, [.ref qA, .ref qS, .int (nI sm), .ref qE, .ref qT, .int (nI tl), .ref qQ, .int (nI qd), .ref qF, .int (nI fm), .ref qC, .int (nI (skp it tl ap9_9)), .int (nI (skp it tl ap9_9)), .ref qH, .ref qB])), (qA, .inl (cI, 50, .inl av)), (qS, .inl (cI, 200, .inl sv)), (qT, .inl (cI, 120, .inl it)), (qH, .inl (cI, 24, .inl dh1)), (qB, .inl (cI, 24, .inl db1))] H := hP.sub [4, 0, 1, 5, 2, 3] rfl
            have hD : va_D A [(mo, .inr (6, [.ref qA, .ref qS, .int (nI sm), .ref qE, .ref qT, .int (nI tl), .ref qQ, .int (nI qd), .ref qF, .int (nI fm), .ref qC, .int (nI (skp it tl ap9_9)), .int (nI (skp it tl ap9_9)), .ref qH, .ref qB])), (qA, .inl (cI, 50, .inl av)), (qS, .inl (cI, 200, .inl sv)), (qT, .inl (cI, 120, .inl it)), (qH, .inl (cI, 24, .inl dh1)), (qB, .inl (cI, 24, .inl db1))] := hD.sub [4, 0, 1, 5, 2, 3] rfl rfl
            refine W.eq (g2 := F0 m 50 ls [.int (tc it tl (skp it tl ap9_9))]) rfl ?_
            refine lv_bipush (v := nI 58) hx hb dX6_parse_50 (by decide) ?_
            refine lv_icmp_eq (tgt := 63) hx hb dX6_parse_52 (by decide) (fun c_12 => ?_) (fun c_12 => ?_)
            · skip
              have h58 : tc it tl (skp it tl ap9_9) = nI 58 := c_12
              have hl8 := tc_lt h58 (by decide)
              refine lv_aload_n hx hb dX6_parse_63 rfl (lv_at hl 1 rfl) ?_
              refine lv_dup hx hb dX6_parse_64 rfl ?_
              refine va_get (D := D) (ci := 6) (v := .int (nI (skp it tl ap9_9))) (C := RX6) (T := TX6) (N := 15) hx hb hts ilX6_parse_6 hown hG.1 hP 0 rfl rfl 11 (by decide) (hts (.fieldLink RX6 138 "HornEngineModel" "at" "I") (List.mem_of_getElem? (i := 1) rfl)) (fun _ h9 => h9) rfl dX6_parse_65 ?_
              refine lv_iconst (v := nI 1) hx hb dX6_parse_68 (by decide) ?_
              refine lv_iadd hx hb dX6_parse_69 ?_
              refine lv_eqi (y := nI (skp it tl ap9_9 + 1)) (nI_add (skp it tl ap9_9) 1) ?_
              refine va_put (D := D) (ci := 6) (v := .int (nI (skp it tl ap9_9 + 1))) (ty := .int) (C := RX6) (T := TX6) (N := 15) hx hb hts ilX6_parse_6 tyX6 tyX6_ok nmX6 hown hG.1 hP hD hS 0 rfl rfl 11 (by decide) (hts (.fieldLink RX6 138 "HornEngineModel" "at" "I") (List.mem_of_getElem? (i := 1) rfl)) (fun _ h9 => h9) rfl (by decide +kernel) rfl rfl (Nat.le_of_ble_eq_true rfl) dX6_parse_70 (fun H locs hP hD hS => ?_)
              have hP : va_P D vwCl [(mo, .inr (6, [.ref qA, .ref qS, .int (nI sm), .ref qE, .ref qT, .int (nI tl), .ref qQ, .int (nI qd), .ref qF, .int (nI fm), .ref qC, .int (nI (skp it tl ap9_9 + 1)), .int (nI (skp it tl ap9_9)), .ref qH, .ref qB])), (qA, .inl (cI, 50, .inl av)), (qS, .inl (cI, 200, .inl sv)), (qT, .inl (cI, 120, .inl it)), (qH, .inl (cI, 24, .inl dh1)), (qB, .inl (cI, 24, .inl db1))] H := hP
              have hD : va_D A [(mo, .inr (6, [.ref qA, .ref qS, .int (nI sm), .ref qE, .ref qT, .int (nI tl), .ref qQ, .int (nI qd), .ref qF, .int (nI fm), .ref qC, .int (nI (skp it tl ap9_9 + 1)), .int (nI (skp it tl ap9_9)), .ref qH, .ref qB])), (qA, .inl (cI, 50, .inl av)), (qS, .inl (cI, 200, .inl sv)), (qT, .inl (cI, 120, .inl it)), (qH, .inl (cI, 24, .inl dh1)), (qB, .inl (cI, 24, .inl db1))] := hD
              refine lv_aload_n hx hb dX6_parse_73 rfl (lv_at hl 1 rfl) ?_
              refine ef_V (As := []) (rest := []) (wr := [(qA, .inl (cI, 50, .inl av)), (qS, .inl (cI, 200, .inl sv)), (qH, .inl (cI, 24, .inl dh1)), (qB, .inl (cI, 24, .inl db1))]) ⟨hx, hb, hml, hown, hts⟩ hG hP hD hS hA (k_X6_readsBody l D cI cB mo qA qS sm qE qT tl qQ qd qF fm qC (skp it tl ap9_9 + 1) (skp it tl ap9_9) qH qB it htl hl8 _) (cwV 0 hts gX6_parse_X6_readsBody rfl rfl rfl (by decide +kernel) ⟨(Nat.le_of_ble_eq_true rfl), (Nat.le_of_ble_eq_true rfl)⟩) [0, 3] [1, 2, 4, 5] rfl rfl rfl rfl (by decide) 0 rfl rfl rfl rfl hl.1 rfl (Nat.le_of_ble_eq_true rfl) dX6_parse_74 ⟨(Nat.le_of_ble_eq_true rfl), (Nat.le_of_ble_eq_true rfl)⟩ (fun v_13 u_13 H locs w_13 hP hD hS => ?_)
              obtain ⟨rv9_13, ap9_13, pl9_13⟩ := u_13
              obtain ⟨e_13, w_13⟩ := w_13
              have w_13 : rmB (rdC it tl (skp it tl ap9_9 + 1)) rv9_13 ap9_13 pl9_13 ∧ ap9_13 ≤ tl := w_13
              have e_13 : v_13 = some (.int rv9_13) := e_13
              subst e_13
              have hP : va_P D vwCl [(mo, .inr (6, [.ref qA, .ref qS, .int (nI sm), .ref qE, .ref qT, .int (nI tl), .ref qQ, .int (nI qd), .ref qF, .int (nI fm), .ref qC, .int (nI ap9_13), .int (nI pl9_13), .ref qH, .ref qB])), (qA, .inl (cI, 50, .inl av)), (qS, .inl (cI, 200, .inl sv)), (qT, .inl (cI, 120, .inl it)), (qH, .inl (cI, 24, .inl dh1)), (qB, .inl (cI, 24, .inl db1))] H := hP.sub [4, 0, 1, 5, 2, 3] rfl
              have hD : va_D A [(mo, .inr (6, [.ref qA, .ref qS, .int (nI sm), .ref qE, .ref qT, .int (nI tl), .ref qQ, .int (nI qd), .ref qF, .int (nI fm), .ref qC, .int (nI ap9_13), .int (nI pl9_13), .ref qH, .ref qB])), (qA, .inl (cI, 50, .inl av)), (qS, .inl (cI, 200, .inl sv)), (qT, .inl (cI, 120, .inl it)), (qH, .inl (cI, 24, .inl dh1)), (qB, .inl (cI, 24, .inl db1))] := hD.sub [4, 0, 1, 5, 2, 3] rfl rfl
              refine W.eq (g2 := F0 m 77 ls [.int rv9_13]) rfl ?_
              have hrc := w_13.1
              have hpc := w_13.2
              refine lv_istore_n (lv' := [(3, .int rv9_13), (2, .int rv9_9), (0, .ref mo), (1, .int (nI my))]) hx hb dX6_parse_77 rfl hl (by decide) rfl (fun ls hl => ?_)
              refine lv_iload_n hx hb dX6_parse_78 rfl (lv_at hl 0 rfl) ?_
              refine lv_iconst (v := (-1)) hx hb dX6_parse_79 (by decide) ?_
              refine lv_icmp_ne (tgt := 91) hx hb dX6_parse_80 (by decide) (fun c_14 => ?_) (fun c_14 => ?_)
              · skip
                have hRC := rc_ok hl8 hrc c_14
                have hU := rdU_C hnf hRA.1 h58
                rw [hRC.1] at hU
                refine lv_aload_n hx hb dX6_parse_91 rfl (lv_at hl 2 rfl) ?_
                refine va_get (D := D) (ci := 6) (v := .ref qH) (C := RX6) (T := TX6) (N := 15) hx hb hts ilX6_parse_6 hown hG.1 hP 0 rfl rfl 13 (by decide) (hts (.fieldLink RX6 31 "HornEngineModel" "heads" "[I") (List.mem_of_getElem? (i := 4) rfl)) (fun _ h9 => h9) rfl dX6_parse_92 ?_
                refine lv_iload_n hx hb dX6_parse_95 rfl (lv_at hl 3 rfl) ?_
                refine lv_iload_n hx hb dX6_parse_96 rfl (lv_at hl 1 rfl) ?_
                refine ia_st hx hb hG hP hD hS 4 rfl my rfl (by omega) (by decide) dX6_parse_97 (fun H locs hP hD hS => ?_)
                have hP : va_P D vwCl [(mo, .inr (6, [.ref qA, .ref qS, .int (nI sm), .ref qE, .ref qT, .int (nI tl), .ref qQ, .int (nI qd), .ref qF, .int (nI fm), .ref qC, .int (nI ap9_13), .int (nI pl9_13), .ref qH, .ref qB])), (qA, .inl (cI, 50, .inl av)), (qS, .inl (cI, 200, .inl sv)), (qT, .inl (cI, 120, .inl it)), (qH, .inl (cI, 24, .inl (upd dh1 my rv9_9))), (qB, .inl (cI, 24, .inl db1))] H := hP
                have hD : va_D A [(mo, .inr (6, [.ref qA, .ref qS, .int (nI sm), .ref qE, .ref qT, .int (nI tl), .ref qQ, .int (nI qd), .ref qF, .int (nI fm), .ref qC, .int (nI ap9_13), .int (nI pl9_13), .ref qH, .ref qB])), (qA, .inl (cI, 50, .inl av)), (qS, .inl (cI, 200, .inl sv)), (qT, .inl (cI, 120, .inl it)), (qH, .inl (cI, 24, .inl (upd dh1 my rv9_9))), (qB, .inl (cI, 24, .inl db1))] := hD
                refine lv_aload_n hx hb dX6_parse_98 rfl (lv_at hl 2 rfl) ?_
                refine va_get (D := D) (ci := 6) (v := .ref qB) (C := RX6) (T := TX6) (N := 15) hx hb hts ilX6_parse_6 hown hG.1 hP 0 rfl rfl 14 (by decide) (hts (.fieldLink RX6 34 "HornEngineModel" "bodies" "[I") (List.mem_of_getElem? (i := 5) rfl)) (fun _ h9 => h9) rfl dX6_parse_99 ?_
                refine lv_iload_n hx hb dX6_parse_102 rfl (lv_at hl 3 rfl) ?_
                refine lv_iload_n hx hb dX6_parse_103 rfl (lv_at hl 0 rfl) ?_
                refine ia_st hx hb hG hP hD hS 5 rfl my rfl (by omega) (by decide) dX6_parse_104 (fun H locs hP hD hS => ?_)
                have hP : va_P D vwCl [(mo, .inr (6, [.ref qA, .ref qS, .int (nI sm), .ref qE, .ref qT, .int (nI tl), .ref qQ, .int (nI qd), .ref qF, .int (nI fm), .ref qC, .int (nI ap9_13), .int (nI pl9_13), .ref qH, .ref qB])), (qA, .inl (cI, 50, .inl av)), (qS, .inl (cI, 200, .inl sv)), (qT, .inl (cI, 120, .inl it)), (qH, .inl (cI, 24, .inl (upd dh1 my rv9_9))), (qB, .inl (cI, 24, .inl (upd db1 my rv9_13)))] H := hP
                have hD : va_D A [(mo, .inr (6, [.ref qA, .ref qS, .int (nI sm), .ref qE, .ref qT, .int (nI tl), .ref qQ, .int (nI qd), .ref qF, .int (nI fm), .ref qC, .int (nI ap9_13), .int (nI pl9_13), .ref qH, .ref qB])), (qA, .inl (cI, 50, .inl av)), (qS, .inl (cI, 200, .inl sv)), (qT, .inl (cI, 120, .inl it)), (qH, .inl (cI, 24, .inl (upd dh1 my rv9_9))), (qB, .inl (cI, 24, .inl (upd db1 my rv9_13)))] := hD
                refine lv_iinc (v := nI (my + 1)) (lv' := [(1, .int (nI (my + 1))), (3, .int rv9_13), (2, .int rv9_9), (0, .ref mo)]) hx hb dX6_parse_105 hl (k := 3) rfl (nI_s1 my) (by decide) rfl (fun ls hl => ?_)
                refine lv_goto (tgt := 7) hx hb dX6_parse_108 (by decide) ?_
                exact ih_7 (my + 1) ap9_13 pl9_13 (upd dh1 my rv9_9) (upd db1 my rv9_13) (by omega) hRC.2.2 (by rw [tab2_push, show n + (my + 1) = (n + my) + 1 from rfl, show 25 - (n + my + 1) = 24 - (n + my) from by omega, ← hT, show 25 - (n + my) = (24 - (n + my)) + 1 from by omega, rdLF, if_pos hlt, hU]; exact (onR_step _ _ _).symm) (by omega) _ _ hP hD hS ls (lv_sub hl [3, 0] rfl)
              · skip
                obtain ⟨z, hz, hze⟩ := rc_err hl8 hrc c_14
                have hU := rdU_C hnf hRA.1 h58
                rw [hz] at hU
                refine lv_bipush (v := (-10)) hx hb dX6_parse_83 (by decide) ?_
                refine lv_aload_n hx hb dX6_parse_85 rfl (lv_at hl 2 rfl) ?_
                refine va_get (D := D) (ci := 6) (v := .int (nI pl9_13)) (C := RX6) (T := TX6) (N := 15) hx hb hts ilX6_parse_6 hown hG.1 hP 0 rfl rfl 12 (by decide) (hts (.fieldLink RX6 141 "HornEngineModel" "place" "I") (List.mem_of_getElem? (i := 3) rfl)) (fun _ h9 => h9) rfl dX6_parse_86 ?_
                refine lv_isub hx hb dX6_parse_89 ?_
                exact hret _ ((-10) - nI (pl9_13), av, hs, bs, n, sv, sm, ap9_13, pl9_13, dh1, db1) _ _ _ _ (⟨rfl, by rw [parS_f (e := pl9_13) (by rw [tab2_len, ← hT, show 25 - (n + my) = (24 - (n + my)) + 1 from by omega, rdLF, if_pos hlt, hU, hze]; rfl)], hM, hn, hsm, hsv, hpc⟩) (hP) (hD) hS dX6_parse_90
            · skip
              have h58 : ¬ tc it tl (skp it tl ap9_9) = nI 58 := c_12
              refine lv_bipush (v := (-10)) hx hb dX6_parse_55 (by decide) ?_
              refine lv_aload_n hx hb dX6_parse_57 rfl (lv_at hl 1 rfl) ?_
              refine va_get (D := D) (ci := 6) (v := .int (nI (skp it tl ap9_9))) (C := RX6) (T := TX6) (N := 15) hx hb hts ilX6_parse_6 hown hG.1 hP 0 rfl rfl 12 (by decide) (hts (.fieldLink RX6 141 "HornEngineModel" "place" "I") (List.mem_of_getElem? (i := 3) rfl)) (fun _ h9 => h9) rfl dX6_parse_58 ?_
              refine lv_isub hx hb dX6_parse_61 ?_
              exact hret _ ((-10) - nI (skp it tl ap9_9), av, hs, bs, n, sv, sm, skp it tl ap9_9, skp it tl ap9_9, dh1, db1) _ _ _ _ (⟨rfl, by rw [parS_f (e := skp it tl ap9_9) (by rw [tab2_len, ← hT, show 25 - (n + my) = (24 - (n + my)) + 1 from by omega, rdLF, if_pos hlt, rdU, if_neg hnf, hRA.1]; dsimp only; rw [if_pos h58]; rfl)], hM, hn, hsm, hsv, hs2⟩) (hP) (hD) hS dX6_parse_62
        · skip
          have c_8 : (n + my) = 24 := (nI_eq (by omega) (by omega)).mp (show nI (n + my) = nI 24 from c_8)
          have hfu : 24 ≤ n + my := by omega
          refine lv_bipush (v := (-10)) hx hb dX6_parse_28 (by decide) ?_
          refine lv_aload_n hx hb dX6_parse_30 rfl (lv_at hl 0 rfl) ?_
          refine va_get (D := D) (ci := 6) (v := .int (nI (skp it tl ap1))) (C := RX6) (T := TX6) (N := 15) hx hb hts ilX6_parse_6 hown hG.1 hP 0 rfl rfl 12 (by decide) (hts (.fieldLink RX6 141 "HornEngineModel" "place" "I") (List.mem_of_getElem? (i := 3) rfl)) (fun _ h9 => h9) rfl dX6_parse_31 ?_
          refine lv_isub hx hb dX6_parse_34 ?_
          exact hret _ ((-10) - nI (skp it tl ap1), av, hs, bs, n, sv, sm, skp it tl ap1, skp it tl ap1, dh1, db1) _ _ _ _ (⟨rfl, by rw [parS_f (e := skp it tl ap1) (by rw [tab2_len, ← hT, show 25 - (n + my) = (24 - (n + my)) + 1 from by omega, rdLF, if_pos hlt, rdU, if_pos hfu]; rfl)], hM, hn, hsm, hsv, hsp⟩) (hP) (hD) hS dX6_parse_35
  exact lp_7_1 (24 - 0 + 1) 0 0 pl dh db (by omega) (Nat.zero_le _) (by show onR [] _ = _; rw [onR_nil]; rfl) (Nat.lt_succ_self _) _ _ hP hD hS ls (lv_sub hl [1, 0] rfl)
