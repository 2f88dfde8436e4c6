theorem ilX6_next_6 : ∀ w ∈ u_ws RX6 TX6 15, w ∈ wsX6_next := by decide +kernel
theorem ilX6_isDigitAt_6 : ∀ w ∈ u_ws RX6 TX6 15, w ∈ wsX6_isDigitAt := by decide +kernel
theorem ilX6_readsAtom_6 : ∀ w ∈ u_ws RX6 TX6 15, w ∈ wsX6_readsAtom := by decide +kernel
theorem ilX6_readsBody_6 : ∀ w ∈ u_ws RX6 TX6 15, w ∈ wsX6_readsBody := by decide +kernel
set_option maxHeartbeats 4000000 in
set_option maxRecDepth 100000 in
theorem k_X6_next (l : Launch) (D : va_G) (cI cB : ClassId) (mo : Nat) (qA : Nat) (qS : Nat) (sm : Nat) (qE : Nat) (qT : Nat) (tl : Nat) (qQ : Nat) (qd : Nat) (qF : Nat) (fm : Nat) (qC : Nat) (ap : Nat) (pl : Nat) (qH : Nat) (qB : Nat) (it : Nat → Int32) (htl : tl ≤ 120) (hap : ap ≤ tl) (sz : Nat) : Wr l yX6_next wsX6_next ({ frames := 0, cells := 0, slots := 0, locals := 0 }) D cI cB [.ref mo] [(mo, .inr (6, [.ref qA, .ref qS, .int (nI sm), .ref qE, .ref qT, .int (nI tl), .ref qQ, .int (nI qd), .ref qF, .int (nI fm), .ref qC, .int (nI ap), .int (nI pl), .ref qH, .ref qB])), (qT, .inl (cI, 120, .inl it))] sz (S := Unit) (fun v u => v = some (.int (tc it tl (skp it tl ap)))) (fun u => [(mo, .inr (6, [.ref qA, .ref qS, .int (nI sm), .ref qE, .ref qT, .int (nI tl), .ref qQ, .int (nI qd), .ref qF, .int (nI fm), .ref qC, .int (nI (skp it tl ap)), .int (nI (skp it tl ap)), .ref qH, .ref qB])), (qT, .inl (cI, 120, .inl it))]) 0 0 := by
  refine ef_startI (cc := cX6_next) (maxL := 1) (by decide) rfl (Nat.le_of_ble_eq_true rfl) ?_
  intro p e s m args below meth c Q A hx hb hml hown hts hP hG hD hA hret ls hl
  have hown : s.vm.findClass RX6 = some m.cls := hown
  have hl : lv_has ls 1 [(0, .ref mo)] := hl
  have hS : va_S A s.heap s.heap [] := va_S.rf
  have lp_0_1 : ∀ (fu_0 : Nat) (p1 : Nat) (hp1 : p1 ≤ tl) (e1 : skp it tl p1 = skp it tl ap) (hfu_0 : tl - p1 < fu_0) (H : Heap) (locs : List Loc) (hP : va_P D vwCl [(mo, .inr (6, [.ref qA, .ref qS, .int (nI sm), .ref qE, .ref qT, .int (nI tl), .ref qQ, .int (nI qd), .ref qF, .int (nI fm), .ref qC, .int (nI p1), .int (nI pl), .ref qH, .ref qB])), (qT, .inl (cI, 120, .inl it))] H) (hD : va_D A [(mo, .inr (6, [.ref qA, .ref qS, .int (nI sm), .ref qE, .ref qT, .int (nI tl), .ref qQ, .int (nI qd), .ref qF, .int (nI fm), .ref qC, .int (nI p1), .int (nI pl), .ref qH, .ref qB])), (qT, .inl (cI, 120, .inl it))]) (hS : va_S A s.heap H locs) (ls : Array Slot) (hl : lv_has ls 1 [(0, .ref mo)]), W p l e ({ frames := 0, cells := 0, slots := 0, locals := 0 }) s m args below meth c H locs 0 0 Q (F0 m 0 ls []) := by
    intro fu_0
    induction fu_0 with
    | zero => intro p1 hp1 e1 hfu; exact absurd hfu (Nat.not_lt_zero _)
    | succ fu_0 ih_0 =>
      intro p1 hp1 e1 hfu_0 H locs hP hD hS ls hl
      refine lv_aload_n hx hb dX6_next_0 rfl (lv_at hl 0 rfl) ?_
      refine va_get (D := D) (ci := 6) (v := .int (nI p1)) (C := RX6) (T := TX6) (N := 15) hx hb hts ilX6_next_6 hown hG.1 hP 0 rfl rfl 11 (by decide) (hts (.fieldLink RX6 138 "HornEngineModel" "at" "I") (List.mem_of_getElem? (i := 1) rfl)) (fun _ h9 => h9) rfl dX6_next_1 ?_
      refine lv_aload_n hx hb dX6_next_4 rfl (lv_at hl 0 rfl) ?_
      refine va_get (D := D) (ci := 6) (v := .int (nI tl)) (C := RX6) (T := TX6) (N := 15) hx hb hts ilX6_next_6 hown hG.1 hP 0 rfl rfl 5 (by decide) (hts (.fieldLink RX6 135 "HornEngineModel" "textLong" "I") (List.mem_of_getElem? (i := 2) rfl)) (fun _ h9 => h9) rfl dX6_next_5 ?_
      refine lv_icmp_ge (tgt := 38) hx hb dX6_next_8 (by decide) (fun c_2 => ?_) (fun c_2 => ?_)
      · skip
        have c_2 : tl ≤ p1 := (nI_leI (by omega) (by omega)).mp (show nI tl ≤ nI p1 from c_2)
        have hst : skp it tl ap = p1 := by rw [← e1]; exact skp_stop (fun q => by omega)
        refine lv_aload_n hx hb dX6_next_38 rfl (lv_at hl 0 rfl) ?_
        refine lv_aload_n hx hb dX6_next_39 rfl (lv_at hl 0 rfl) ?_
        refine va_get (D := D) (ci := 6) (v := .int (nI p1)) (C := RX6) (T := TX6) (N := 15) hx hb hts ilX6_next_6 hown hG.1 hP 0 rfl rfl 11 (by decide) (hts (.fieldLink RX6 138 "HornEngineModel" "at" "I") (List.mem_of_getElem? (i := 1) rfl)) (fun _ h9 => h9) rfl dX6_next_40 ?_
        refine va_put (D := D) (ci := 6) (v := .int (nI p1)) (ty := .int) (C := RX6) (T := TX6) (N := 15) hx hb hts ilX6_next_6 tyX6 tyX6_ok nmX6 hown hG.1 hP hD hS 0 rfl rfl 12 (by decide) (hts (.fieldLink RX6 141 "HornEngineModel" "place" "I") (List.mem_of_getElem? (i := 4) rfl)) (fun _ h9 => h9) rfl (by decide +kernel) rfl rfl (Nat.le_of_ble_eq_true rfl) dX6_next_43 (fun H locs hP hD hS => ?_)
        have hP : va_P D vwCl [(mo, .inr (6, [.ref qA, .ref qS, .int (nI sm), .ref qE, .ref qT, .int (nI tl), .ref qQ, .int (nI qd), .ref qF, .int (nI fm), .ref qC, .int (nI p1), .int (nI p1), .ref qH, .ref qB])), (qT, .inl (cI, 120, .inl it))] H := hP
        have hD : va_D A [(mo, .inr (6, [.ref qA, .ref qS, .int (nI sm), .ref qE, .ref qT, .int (nI tl), .ref qQ, .int (nI qd), .ref qF, .int (nI fm), .ref qC, .int (nI p1), .int (nI p1), .ref qH, .ref qB])), (qT, .inl (cI, 120, .inl it))] := hD
        refine lv_aload_n hx hb dX6_next_46 rfl (lv_at hl 0 rfl) ?_
        refine va_get (D := D) (ci := 6) (v := .int (nI p1)) (C := RX6) (T := TX6) (N := 15) hx hb hts ilX6_next_6 hown hG.1 hP 0 rfl rfl 11 (by decide) (hts (.fieldLink RX6 138 "HornEngineModel" "at" "I") (List.mem_of_getElem? (i := 1) rfl)) (fun _ h9 => h9) rfl dX6_next_47 ?_
        refine lv_aload_n hx hb dX6_next_50 rfl (lv_at hl 0 rfl) ?_
        refine va_get (D := D) (ci := 6) (v := .int (nI tl)) (C := RX6) (T := TX6) (N := 15) hx hb hts ilX6_next_6 hown hG.1 hP 0 rfl rfl 5 (by decide) (hts (.fieldLink RX6 135 "HornEngineModel" "textLong" "I") (List.mem_of_getElem? (i := 2) rfl)) (fun _ h9 => h9) rfl dX6_next_51 ?_
        refine lv_icmp_ge (tgt := 69) hx hb dX6_next_54 (by decide) (fun c_3 => ?_) (fun c_3 => ?_)
        · skip
          have c_3 : tl ≤ p1 := (nI_leI (by omega) (by omega)).mp (show nI tl ≤ nI p1 from c_3)
          have hpc : ¬ p1 < tl := by omega
          refine lv_iconst (v := (-1)) hx hb dX6_next_69 (by decide) ?_
          exact hret _ () _ _ _ _ (by rw [hst, tc, if_neg hpc]) (by rw [hst]; exact hP) (by rw [hst]; exact hD) hS dX6_next_70
        · skip
          have c_3 : ¬ (tl ≤ p1) := fun h9 => (show ¬ (nI tl ≤ nI p1) from c_3) ((nI_leI (by omega) (by omega)).mpr h9)
          have hpc : p1 < tl := by omega
          refine lv_aload_n hx hb dX6_next_57 rfl (lv_at hl 0 rfl) ?_
          refine va_get (D := D) (ci := 6) (v := .ref qT) (C := RX6) (T := TX6) (N := 15) hx hb hts ilX6_next_6 hown hG.1 hP 0 rfl rfl 4 (by decide) (hts (.fieldLink RX6 19 "HornEngineModel" "text" "[I") (List.mem_of_getElem? (i := 3) rfl)) (fun _ h9 => h9) rfl dX6_next_58 ?_
          refine lv_aload_n hx hb dX6_next_61 rfl (lv_at hl 0 rfl) ?_
          refine va_get (D := D) (ci := 6) (v := .int (nI p1)) (C := RX6) (T := TX6) (N := 15) hx hb hts ilX6_next_6 hown hG.1 hP 0 rfl rfl 11 (by decide) (hts (.fieldLink RX6 138 "HornEngineModel" "at" "I") (List.mem_of_getElem? (i := 1) rfl)) (fun _ h9 => h9) rfl dX6_next_62 ?_
          refine ia_ld hx hb hG hP 1 rfl p1 rfl (by omega) (by decide) dX6_next_65 ?_
          refine lv_goto (tgt := 70) hx hb dX6_next_66 (by decide) ?_
          exact hret _ () _ _ _ _ (by rw [hst, tc, if_pos hpc]) (by rw [hst]; exact hP) (by rw [hst]; exact hD) hS dX6_next_70
      · skip
        have c_2 : ¬ (tl ≤ p1) := fun h9 => (show ¬ (nI tl ≤ nI p1) from c_2) ((nI_leI (by omega) (by omega)).mpr h9)
        have hlt : p1 < tl := by omega
        refine lv_aload_n hx hb dX6_next_11 rfl (lv_at hl 0 rfl) ?_
        refine va_get (D := D) (ci := 6) (v := .ref qT) (C := RX6) (T := TX6) (N := 15) hx hb hts ilX6_next_6 hown hG.1 hP 0 rfl rfl 4 (by decide) (hts (.fieldLink RX6 19 "HornEngineModel" "text" "[I") (List.mem_of_getElem? (i := 3) rfl)) (fun _ h9 => h9) rfl dX6_next_12 ?_
        refine lv_aload_n hx hb dX6_next_15 rfl (lv_at hl 0 rfl) ?_
        refine va_get (D := D) (ci := 6) (v := .int (nI p1)) (C := RX6) (T := TX6) (N := 15) hx hb hts ilX6_next_6 hown hG.1 hP 0 rfl rfl 11 (by decide) (hts (.fieldLink RX6 138 "HornEngineModel" "at" "I") (List.mem_of_getElem? (i := 1) rfl)) (fun _ h9 => h9) rfl dX6_next_16 ?_
        refine ia_ld hx hb hG hP 1 rfl p1 rfl (by omega) (by decide) dX6_next_19 ?_
        refine lv_bipush (v := nI 32) hx hb dX6_next_20 (by decide) ?_
        refine lv_icmp_ne (tgt := 38) hx hb dX6_next_22 (by decide) (fun c_4 => ?_) (fun c_4 => ?_)
        · skip
          have hst : skp it tl ap = p1 := by rw [← e1]; exact skp_stop (fun q => c_4 q.2)
          refine lv_aload_n hx hb dX6_next_38 rfl (lv_at hl 0 rfl) ?_
          refine lv_aload_n hx hb dX6_next_39 rfl (lv_at hl 0 rfl) ?_
          refine va_get (D := D) (ci := 6) (v := .int (nI p1)) (C := RX6) (T := TX6) (N := 15) hx hb hts ilX6_next_6 hown hG.1 hP 0 rfl rfl 11 (by decide) (hts (.fieldLink RX6 138 "HornEngineModel" "at" "I") (List.mem_of_getElem? (i := 1) rfl)) (fun _ h9 => h9) rfl dX6_next_40 ?_
          refine va_put (D := D) (ci := 6) (v := .int (nI p1)) (ty := .int) (C := RX6) (T := TX6) (N := 15) hx hb hts ilX6_next_6 tyX6 tyX6_ok nmX6 hown hG.1 hP hD hS 0 rfl rfl 12 (by decide) (hts (.fieldLink RX6 141 "HornEngineModel" "place" "I") (List.mem_of_getElem? (i := 4) rfl)) (fun _ h9 => h9) rfl (by decide +kernel) rfl rfl (Nat.le_of_ble_eq_true rfl) dX6_next_43 (fun H locs hP hD hS => ?_)
          have hP : va_P D vwCl [(mo, .inr (6, [.ref qA, .ref qS, .int (nI sm), .ref qE, .ref qT, .int (nI tl), .ref qQ, .int (nI qd), .ref qF, .int (nI fm), .ref qC, .int (nI p1), .int (nI p1), .ref qH, .ref qB])), (qT, .inl (cI, 120, .inl it))] H := hP
          have hD : va_D A [(mo, .inr (6, [.ref qA, .ref qS, .int (nI sm), .ref qE, .ref qT, .int (nI tl), .ref qQ, .int (nI qd), .ref qF, .int (nI fm), .ref qC, .int (nI p1), .int (nI p1), .ref qH, .ref qB])), (qT, .inl (cI, 120, .inl it))] := hD
          refine lv_aload_n hx hb dX6_next_46 rfl (lv_at hl 0 rfl) ?_
          refine va_get (D := D) (ci := 6) (v := .int (nI p1)) (C := RX6) (T := TX6) (N := 15) hx hb hts ilX6_next_6 hown hG.1 hP 0 rfl rfl 11 (by decide) (hts (.fieldLink RX6 138 "HornEngineModel" "at" "I") (List.mem_of_getElem? (i := 1) rfl)) (fun _ h9 => h9) rfl dX6_next_47 ?_
          refine lv_aload_n hx hb dX6_next_50 rfl (lv_at hl 0 rfl) ?_
          refine va_get (D := D) (ci := 6) (v := .int (nI tl)) (C := RX6) (T := TX6) (N := 15) hx hb hts ilX6_next_6 hown hG.1 hP 0 rfl rfl 5 (by decide) (hts (.fieldLink RX6 135 "HornEngineModel" "textLong" "I") (List.mem_of_getElem? (i := 2) rfl)) (fun _ h9 => h9) rfl dX6_next_51 ?_
          refine lv_icmp_ge (tgt := 69) hx hb dX6_next_54 (by decide) (fun c_5 => ?_) (fun c_5 => ?_)
          · skip
            have c_5 : tl ≤ p1 := (nI_leI (by omega) (by omega)).mp (show nI tl ≤ nI p1 from c_5)
            have hpc : ¬ p1 < tl := by omega
            refine lv_iconst (v := (-1)) hx hb dX6_next_69 (by decide) ?_
            exact hret _ () _ _ _ _ (by rw [hst, tc, if_neg hpc]) (by rw [hst]; exact hP) (by rw [hst]; exact hD) hS dX6_next_70
          · skip
            have c_5 : ¬ (tl ≤ p1) := fun h9 => (show ¬ (nI tl ≤ nI p1) from c_5) ((nI_leI (by omega) (by omega)).mpr h9)
            have hpc : p1 < tl := by omega
            refine lv_aload_n hx hb dX6_next_57 rfl (lv_at hl 0 rfl) ?_
            refine va_get (D := D) (ci := 6) (v := .ref qT) (C := RX6) (T := TX6) (N := 15) hx hb hts ilX6_next_6 hown hG.1 hP 0 rfl rfl 4 (by decide) (hts (.fieldLink RX6 19 "HornEngineModel" "text" "[I") (List.mem_of_getElem? (i := 3) rfl)) (fun _ h9 => h9) rfl dX6_next_58 ?_
            refine lv_aload_n hx hb dX6_next_61 rfl (lv_at hl 0 rfl) ?_
            refine va_get (D := D) (ci := 6) (v := .int (nI p1)) (C := RX6) (T := TX6) (N := 15) hx hb hts ilX6_next_6 hown hG.1 hP 0 rfl rfl 11 (by decide) (hts (.fieldLink RX6 138 "HornEngineModel" "at" "I") (List.mem_of_getElem? (i := 1) rfl)) (fun _ h9 => h9) rfl dX6_next_62 ?_
            refine ia_ld hx hb hG hP 1 rfl p1 rfl (by omega) (by decide) dX6_next_65 ?_
            refine lv_goto (tgt := 70) hx hb dX6_next_66 (by decide) ?_
            exact hret _ () _ _ _ _ (by rw [hst, tc, if_pos hpc]) (by rw [hst]; exact hP) (by rw [hst]; exact hD) hS dX6_next_70
        · skip
          have h32 : it p1 = nI 32 := c_4
          refine lv_aload_n hx hb dX6_next_25 rfl (lv_at hl 0 rfl) ?_
          refine lv_dup hx hb dX6_next_26 rfl ?_
          refine va_get (D := D) (ci := 6) (v := .int (nI p1)) (C := RX6) (T := TX6) (N := 15) hx hb hts ilX6_next_6 hown hG.1 hP 0 rfl rfl 11 (by decide) (hts (.fieldLink RX6 138 "HornEngineModel" "at" "I") (List.mem_of_getElem? (i := 1) rfl)) (fun _ h9 => h9) rfl dX6_next_27 ?_
          refine lv_iconst (v := nI 1) hx hb dX6_next_30 (by decide) ?_
          refine lv_iadd hx hb dX6_next_31 ?_
          refine lv_eqi (y := nI (p1 + 1)) (nI_add p1 1) ?_
          refine va_put (D := D) (ci := 6) (v := .int (nI (p1 + 1))) (ty := .int) (C := RX6) (T := TX6) (N := 15) hx hb hts ilX6_next_6 tyX6 tyX6_ok nmX6 hown hG.1 hP hD hS 0 rfl rfl 11 (by decide) (hts (.fieldLink RX6 138 "HornEngineModel" "at" "I") (List.mem_of_getElem? (i := 1) rfl)) (fun _ h9 => h9) rfl (by decide +kernel) rfl rfl (Nat.le_of_ble_eq_true rfl) dX6_next_32 (fun H locs hP hD hS => ?_)
          have hP : va_P D vwCl [(mo, .inr (6, [.ref qA, .ref qS, .int (nI sm), .ref qE, .ref qT, .int (nI tl), .ref qQ, .int (nI qd), .ref qF, .int (nI fm), .ref qC, .int (nI (p1 + 1)), .int (nI pl), .ref qH, .ref qB])), (qT, .inl (cI, 120, .inl it))] H := hP
          have hD : va_D A [(mo, .inr (6, [.ref qA, .ref qS, .int (nI sm), .ref qE, .ref qT, .int (nI tl), .ref qQ, .int (nI qd), .ref qF, .int (nI fm), .ref qC, .int (nI (p1 + 1)), .int (nI pl), .ref qH, .ref qB])), (qT, .inl (cI, 120, .inl it))] := hD
          refine lv_goto (tgt := 0) hx hb dX6_next_35 (by decide) ?_
          exact ih_0 (p1 + 1) (by omega) (by rw [← skp_go hlt h32]; exact e1) (by omega) _ _ hP hD hS ls (lv_sub hl [0] rfl)
  exact lp_0_1 (tl - ap + 1) ap (by omega) rfl (Nat.lt_succ_self _) _ _ hP hD hS ls (lv_sub hl [0] rfl)
set_option maxHeartbeats 4000000 in
set_option maxRecDepth 100000 in
theorem k_X6_isDigitAt (l : Launch) (D : va_G) (cI cB : ClassId) (mo : Nat) (qA : Nat) (qS : Nat) (sm : Nat) (qE : Nat) (qT : Nat) (tl : Nat) (qQ : Nat) (qd : Nat) (qF : Nat) (fm : Nat) (qC : Nat) (ap : Nat) (pl : Nat) (qH : Nat) (qB : Nat) (it : Nat → Int32) (k : Nat) (htl : tl ≤ 120) (hk : k ≤ 200) : Rd l yX6_isDigitAt wsX6_isDigitAt ({ frames := 1, cells := 0, slots := 0, locals := 25 }) D cI cB [.ref mo, .int (nI k)] [(mo, .inr (6, [.ref qA, .ref qS, .int (nI sm), .ref qE, .ref qT, .int (nI tl), .ref qQ, .int (nI qd), .ref qF, .int (nI fm), .ref qC, .int (nI ap), .int (nI pl), .ref qH, .ref qB])), (qT, .inl (cI, 120, .inl it))] (.int (bI (isD (tc it tl k)))) := by
  refine pu_startZ (cc := cX6_isDigitAt) (maxL := 2) (by decide) rfl (Nat.le_of_ble_eq_true rfl) ?_
  intro p e s m args below meth c Q hx hb hml hown hts hP hG hret ls hl
  have hown : s.vm.findClass RX6 = some m.cls := hown
  have hl : lv_has ls 2 [(0, .ref mo), (1, .int (nI k))] := hl
  refine lv_iload_n hx hb dX6_isDigitAt_0 rfl (lv_at hl 1 rfl) ?_
  refine lv_aload_n hx hb dX6_isDigitAt_1 rfl (lv_at hl 0 rfl) ?_
  refine va_get (D := D) (ci := 6) (v := .int (nI tl)) (C := RX6) (T := TX6) (N := 15) hx hb hts ilX6_isDigitAt_6 hown hG.1 hP 0 rfl rfl 5 (by decide) (hts (.fieldLink RX6 135 "HornEngineModel" "textLong" "I") (List.mem_of_getElem? (i := 1) rfl)) (fun _ h9 => h9) rfl dX6_isDigitAt_2 ?_
  refine lv_icmp_ge (tgt := 31) hx hb dX6_isDigitAt_5 (by decide) (fun c_1 => ?_) (fun c_1 => ?_)
  · skip
    have c_1 : tl ≤ k := (nI_leI (by omega) (by omega)).mp (show nI tl ≤ nI k from c_1)
    have hz : isD (tc it tl k) = false := by rw [tc, if_neg (by omega)]; decide
    refine lv_iconst (v := nI 0) hx hb dX6_isDigitAt_31 (by decide) ?_
    exact hret _ _ _ (bI_0 hz) dX6_isDigitAt_32
  · skip
    have c_1 : ¬ (tl ≤ k) := fun h9 => (show ¬ (nI tl ≤ nI k) from c_1) ((nI_leI (by omega) (by omega)).mpr h9)
    have hlt : k < tl := by omega
    refine lv_aload_n hx hb dX6_isDigitAt_8 rfl (lv_at hl 0 rfl) ?_
    refine va_get (D := D) (ci := 6) (v := .ref qT) (C := RX6) (T := TX6) (N := 15) hx hb hts ilX6_isDigitAt_6 hown hG.1 hP 0 rfl rfl 4 (by decide) (hts (.fieldLink RX6 19 "HornEngineModel" "text" "[I") (List.mem_of_getElem? (i := 2) rfl)) (fun _ h9 => h9) rfl dX6_isDigitAt_9 ?_
    refine lv_iload_n hx hb dX6_isDigitAt_12 rfl (lv_at hl 1 rfl) ?_
    refine ia_ld hx hb hG hP 1 rfl k rfl (by omega) (by decide) dX6_isDigitAt_13 ?_
    refine lv_i2l (v := (it k).toInt64) hx hb dX6_isDigitAt_14 rfl ?_
    refine lv_ldc2 (v := 48) hx hb hown (hts (.constantLong RX6 144 (48)) (List.mem_of_getElem? (i := 3) rfl)) dX6_isDigitAt_15 ?_
    refine lv_ldc2 (v := 57) hx hb hown (hts (.constantLong RX6 146 (57)) (List.mem_of_getElem? (i := 4) rfl)) dX6_isDigitAt_18 ?_
    refine pu_S (As := [.long ((it k).toInt64), .long 48, .long 57]) (rest := []) ⟨hx, hb, hml, hown, hts⟩ hG hP (k_X6_in l D cI cB ((it k).toInt64) 48 57 ) (cwS 3 hts gX6_isDigitAt_X6_in rfl rfl rfl (by decide +kernel) ⟨(Nat.le_of_ble_eq_true rfl), (Nat.le_of_ble_eq_true rfl)⟩) [] rfl rfl hl.1 rfl (Nat.le_of_ble_eq_true rfl) dX6_isDigitAt_21 ⟨Nat.zero_le _, Nat.zero_le _⟩ ?_
    refine lv_if_eq (tgt := 31) hx hb dX6_isDigitAt_24 (by decide) (fun c_2 => ?_) (fun c_2 => ?_)
    · skip
      have c_2 : (inJ ((it k).toInt64) 48 57) = false := bI_f.mp c_2
      have hz : isD (tc it tl k) = false := by rw [tc, if_pos hlt, ← inJ_D]; exact c_2
      refine lv_iconst (v := nI 0) hx hb dX6_isDigitAt_31 (by decide) ?_
      exact hret _ _ _ (bI_0 hz) dX6_isDigitAt_32
    · skip
      have c_2 : (inJ ((it k).toInt64) 48 57) = true := bI_t.mp c_2
      have hz : isD (tc it tl k) = true := by rw [tc, if_pos hlt, ← inJ_D]; exact c_2
      refine lv_iconst (v := nI 1) hx hb dX6_isDigitAt_27 (by decide) ?_
      refine lv_goto (tgt := 32) hx hb dX6_isDigitAt_28 (by decide) ?_
      exact hret _ _ _ (bI_1 hz) dX6_isDigitAt_32
set_option maxHeartbeats 4000000 in
set_option maxRecDepth 100000 in
theorem k_X6_readsAtom (l : Launch) (D : va_G) (cI cB : ClassId) (mo : Nat) (qA : Nat) (qS : Nat) (sm : Nat) (qE : Nat) (qT : Nat) (tl : Nat) (qQ : Nat) (qd : Nat) (qF : Nat) (fm : Nat) (qC : Nat) (ap : Nat) (pl : Nat) (qH : Nat) (qB : Nat) (it : Nat → Int32) (htl : tl ≤ 120) (hap : ap ≤ tl) (sz : Nat) : Wr l yX6_readsAtom wsX6_readsAtom ({ frames := 2, cells := 0, slots := 0, locals := 46 }) D cI cB [.ref mo] [(mo, .inr (6, [.ref qA, .ref qS, .int (nI sm), .ref qE, .ref qT, .int (nI tl), .ref qQ, .int (nI qd), .ref qF, .int (nI fm), .ref qC, .int (nI ap), .int (nI pl), .ref qH, .ref qB])), (qT, .inl (cI, 120, .inl it))] sz (S := Int32 × Nat × Nat) (fun v u => v = some (.int u.1) ∧ (rmR (rdA it tl (skp it tl ap)) (skp it tl ap) u.1 u.2.1 u.2.2 ∧ u.2.1 ≤ tl)) (fun u => [(mo, .inr (6, [.ref qA, .ref qS, .int (nI sm), .ref qE, .ref qT, .int (nI tl), .ref qQ, .int (nI qd), .ref qF, .int (nI fm), .ref qC, .int (nI u.2.1), .int (nI u.2.2), .ref qH, .ref qB])), (qT, .inl (cI, 120, .inl it))]) 0 0 := by
  refine ef_startI (cc := cX6_readsAtom) (maxL := 3) (by decide) rfl (Nat.le_of_ble_eq_true rfl) ?_
  intro p e s m args below meth c Q A hx hb hml hown hts hP hG hD hA hret ls hl
  have hown : s.vm.findClass RX6 = some m.cls := hown
  have hl : lv_has ls 3 [(0, .ref mo)] := hl
  have hS : va_S A s.heap s.heap [] := va_S.rf
  have hsk := skp_le (it := it) hap
  refine lv_aload_n hx hb dX6_readsAtom_0 rfl (lv_at hl 0 rfl) ?_
  refine ef_V (As := []) (rest := []) (wr := []) ⟨hx, hb, hml, hown, hts⟩ hG hP hD hS hA (k_X6_next l D cI cB mo qA qS sm qE qT tl qQ qd qF fm qC ap pl qH qB it htl hap _) (cwV 0 hts gX6_readsAtom_X6_next rfl rfl rfl (by decide +kernel) ⟨(Nat.le_of_ble_eq_true rfl), (Nat.le_of_ble_eq_true rfl)⟩) [0, 1] [] rfl rfl rfl rfl (by decide) 0 rfl rfl rfl rfl hl.1 rfl (Nat.le_of_ble_eq_true rfl) dX6_readsAtom_1 ⟨(Nat.le_of_ble_eq_true rfl), (Nat.le_of_ble_eq_true rfl)⟩ (fun v_1 u_1 H locs w_1 hP hD hS => ?_)
  have w_1 : v_1 = some (.int (tc it tl (skp it tl ap))) := w_1
  subst w_1
  have hP : va_P D vwCl [(mo, .inr (6, [.ref qA, .ref qS, .int (nI sm), .ref qE, .ref qT, .int (nI tl), .ref qQ, .int (nI qd), .ref qF, .int (nI fm), .ref qC, .int (nI (skp it tl ap)), .int (nI (skp it tl ap)), .ref qH, .ref qB])), (qT, .inl (cI, 120, .inl it))] H := hP.sub [0, 1] rfl
  have hD : va_D A [(mo, .inr (6, [.ref qA, .ref qS, .int (nI sm), .ref qE, .ref qT, .int (nI tl), .ref qQ, .int (nI qd), .ref qF, .int (nI fm), .ref qC, .int (nI (skp it tl ap)), .int (nI (skp it tl ap)), .ref qH, .ref qB])), (qT, .inl (cI, 120, .inl it))] := hD.sub [0, 1] rfl rfl
  refine W.eq (g2 := F0 m 4 ls [.int (tc it tl (skp it tl ap))]) rfl ?_
  refine lv_iconst (v := (-1)) hx hb dX6_readsAtom_4 (by decide) ?_
  refine lv_icmp_ne (tgt := 12) hx hb dX6_readsAtom_5 (by decide) (fun c_2 => ?_) (fun c_2 => ?_)
  · skip
    have hin := tc_in c_2
    refine lv_aload_n hx hb dX6_readsAtom_12 rfl (lv_at hl 0 rfl) ?_
    refine va_get (D := D) (ci := 6) (v := .int (nI (skp it tl ap))) (C := RX6) (T := TX6) (N := 15) hx hb hts ilX6_readsAtom_6 hown hG.1 hP 0 rfl rfl 11 (by decide) (hts (.fieldLink RX6 138 "HornEngineModel" "at" "I") (List.mem_of_getElem? (i := 1) rfl)) (fun _ h9 => h9) rfl dX6_readsAtom_13 ?_
    refine lv_istore_n (lv' := [(1, .int (nI (skp it tl ap))), (0, .ref mo)]) hx hb dX6_readsAtom_16 rfl hl (by decide) rfl (fun ls hl => ?_)
    refine lv_iload_n hx hb dX6_readsAtom_17 rfl (lv_at hl 0 rfl) ?_
    refine lv_iconst (v := (-1)) hx hb dX6_readsAtom_18 (by decide) ?_
    refine lv_icmp_eq (tgt := 33) hx hb dX6_readsAtom_19 (by decide) (fun c_3 => ?_) (fun c_3 => ?_)
    · skip
      exact absurd c_3 (nI_ne1 (by omega))
    · skip
      refine lv_aload_n hx hb dX6_readsAtom_22 rfl (lv_at hl 1 rfl) ?_
      refine lv_aload_n hx hb dX6_readsAtom_23 rfl (lv_at hl 1 rfl) ?_
      refine va_get (D := D) (ci := 6) (v := .int (nI (skp it tl ap))) (C := RX6) (T := TX6) (N := 15) hx hb hts ilX6_readsAtom_6 hown hG.1 hP 0 rfl rfl 11 (by decide) (hts (.fieldLink RX6 138 "HornEngineModel" "at" "I") (List.mem_of_getElem? (i := 1) rfl)) (fun _ h9 => h9) rfl dX6_readsAtom_24 ?_
      refine pu_V (As := [.int (nI (skp it tl ap))]) (rest := []) ⟨hx, hb, hml, hown, hts⟩ hG hP (k_X6_isDigitAt l D cI cB mo qA qS sm qE qT tl qQ qd qF fm qC (skp it tl ap) (skp it tl ap) qH qB it (skp it tl ap) (by omega) (by omega)) (cwV 1 hts gX6_readsAtom_X6_isDigitAt rfl rfl rfl (by decide +kernel) ⟨(Nat.le_of_ble_eq_true rfl), (Nat.le_of_ble_eq_true rfl)⟩) [0, 1] rfl 0 rfl rfl rfl rfl hl.1 rfl (Nat.le_of_ble_eq_true rfl) dX6_readsAtom_27 ⟨Nat.zero_le _, Nat.zero_le _⟩ ?_
      refine lv_if_ne (tgt := 35) hx hb dX6_readsAtom_30 (by decide) (fun c_4 => ?_) (fun c_4 => ?_)
      · skip
        have c_4 : (isD (tc it tl (skp it tl ap))) = true := bI_t.mp c_4
        have h1 : isD (tc it tl (skp it tl ap)) = true := c_4
        have hl1 := isD_lt h1
        refine lv_iconst (v := nI 0) hx hb dX6_readsAtom_35 (by decide) ?_
        refine lv_istore_n (lv' := [(2, .int (nI 0)), (1, .int (nI (skp it tl ap))), (0, .ref mo)]) hx hb dX6_readsAtom_36 rfl hl (by decide) rfl (fun ls hl => ?_)
        refine lv_aload_n hx hb dX6_readsAtom_37 rfl (lv_at hl 2 rfl) ?_
        refine lv_aload_n hx hb dX6_readsAtom_38 rfl (lv_at hl 2 rfl) ?_
        refine va_get (D := D) (ci := 6) (v := .int (nI (skp it tl ap))) (C := RX6) (T := TX6) (N := 15) hx hb hts ilX6_readsAtom_6 hown hG.1 hP 0 rfl rfl 11 (by decide) (hts (.fieldLink RX6 138 "HornEngineModel" "at" "I") (List.mem_of_getElem? (i := 1) rfl)) (fun _ h9 => h9) rfl dX6_readsAtom_39 ?_
        refine pu_V (As := [.int (nI (skp it tl ap))]) (rest := []) ⟨hx, hb, hml, hown, hts⟩ hG hP (k_X6_isDigitAt l D cI cB mo qA qS sm qE qT tl qQ qd qF fm qC (skp it tl ap) (skp it tl ap) qH qB it (skp it tl ap) (by omega) (by omega)) (cwV 1 hts gX6_readsAtom_X6_isDigitAt rfl rfl rfl (by decide +kernel) ⟨(Nat.le_of_ble_eq_true rfl), (Nat.le_of_ble_eq_true rfl)⟩) [0, 1] rfl 0 rfl rfl rfl rfl hl.1 rfl (Nat.le_of_ble_eq_true rfl) dX6_readsAtom_42 ⟨Nat.zero_le _, Nat.zero_le _⟩ ?_
        refine lv_if_eq (tgt := 99) hx hb dX6_readsAtom_45 (by decide) (fun c_5 => ?_) (fun c_5 => ?_)
        · skip
          have c_5 : (isD (tc it tl (skp it tl ap))) = false := bI_f.mp c_5
          exact absurd h1 (by rw [c_5]; decide)
        · skip
          have c_5 : (isD (tc it tl (skp it tl ap))) = true := bI_t.mp c_5
          refine lv_aload_n hx hb dX6_readsAtom_48 rfl (lv_at hl 2 rfl) ?_
          refine va_get (D := D) (ci := 6) (v := .int (nI (skp it tl ap))) (C := RX6) (T := TX6) (N := 15) hx hb hts ilX6_readsAtom_6 hown hG.1 hP 0 rfl rfl 11 (by decide) (hts (.fieldLink RX6 138 "HornEngineModel" "at" "I") (List.mem_of_getElem? (i := 1) rfl)) (fun _ h9 => h9) rfl dX6_readsAtom_49 ?_
          refine lv_iload_n hx hb dX6_readsAtom_52 rfl (lv_at hl 1 rfl) ?_
          refine lv_iconst (v := nI 2) hx hb dX6_readsAtom_53 (by decide) ?_
          refine lv_iadd hx hb dX6_readsAtom_54 ?_
          refine lv_eqi (y := nI (skp it tl ap + 2)) (nI_add (skp it tl ap) 2) ?_
          refine lv_icmp_ne (tgt := 68) hx hb dX6_readsAtom_55 (by decide) (fun c_6 => ?_) (fun c_6 => ?_)
          · skip
            have c_6 : ¬ ((skp it tl ap) = (skp it tl ap + 2)) := fun h9 => (show ¬ (nI (skp it tl ap) = nI (skp it tl ap + 2)) from c_6) ((nI_eq (by omega) (by omega)).mpr h9)
            refine lv_bipush (v := nI 10) hx hb dX6_readsAtom_68 (by decide) ?_
            refine lv_iload_n hx hb dX6_readsAtom_70 rfl (lv_at hl 0 rfl) ?_
            refine lv_imul hx hb dX6_readsAtom_71 ?_
            refine lv_eqi (y := nI 0) (show (nI 10) * (nI 0) = nI 0 by decide) ?_
            refine lv_aload_n hx hb dX6_readsAtom_72 rfl (lv_at hl 2 rfl) ?_
            refine va_get (D := D) (ci := 6) (v := .ref qT) (C := RX6) (T := TX6) (N := 15) hx hb hts ilX6_readsAtom_6 hown hG.1 hP 0 rfl rfl 4 (by decide) (hts (.fieldLink RX6 19 "HornEngineModel" "text" "[I") (List.mem_of_getElem? (i := 3) rfl)) (fun _ h9 => h9) rfl dX6_readsAtom_73 ?_
            refine lv_aload_n hx hb dX6_readsAtom_76 rfl (lv_at hl 2 rfl) ?_
            refine va_get (D := D) (ci := 6) (v := .int (nI (skp it tl ap))) (C := RX6) (T := TX6) (N := 15) hx hb hts ilX6_readsAtom_6 hown hG.1 hP 0 rfl rfl 11 (by decide) (hts (.fieldLink RX6 138 "HornEngineModel" "at" "I") (List.mem_of_getElem? (i := 1) rfl)) (fun _ h9 => h9) rfl dX6_readsAtom_77 ?_
            refine ia_ld hx hb hG hP 1 rfl (skp it tl ap) rfl (by omega) (by decide) dX6_readsAtom_80 ?_
            refine lv_iadd hx hb dX6_readsAtom_81 ?_
            refine lv_bipush (v := nI 48) hx hb dX6_readsAtom_82 (by decide) ?_
            refine lv_isub hx hb dX6_readsAtom_84 ?_
            refine lv_eqi (y := num1 it tl (skp it tl ap)) (v_1 hl1) ?_
            refine lv_istore_n (lv' := [(2, .int (num1 it tl (skp it tl ap))), (1, .int (nI (skp it tl ap))), (0, .ref mo)]) hx hb dX6_readsAtom_85 rfl hl (by decide) rfl (fun ls hl => ?_)
            refine lv_aload_n hx hb dX6_readsAtom_86 rfl (lv_at hl 2 rfl) ?_
            refine lv_dup hx hb dX6_readsAtom_87 rfl ?_
            refine va_get (D := D) (ci := 6) (v := .int (nI (skp it tl ap))) (C := RX6) (T := TX6) (N := 15) hx hb hts ilX6_readsAtom_6 hown hG.1 hP 0 rfl rfl 11 (by decide) (hts (.fieldLink RX6 138 "HornEngineModel" "at" "I") (List.mem_of_getElem? (i := 1) rfl)) (fun _ h9 => h9) rfl dX6_readsAtom_88 ?_
            refine lv_iconst (v := nI 1) hx hb dX6_readsAtom_91 (by decide) ?_
            refine lv_iadd hx hb dX6_readsAtom_92 ?_
            refine lv_eqi (y := nI (skp it tl ap + 1)) (nI_add (skp it tl ap) 1) ?_
            refine va_put (D := D) (ci := 6) (v := .int (nI (skp it tl ap + 1))) (ty := .int) (C := RX6) (T := TX6) (N := 15) hx hb hts ilX6_readsAtom_6 tyX6 tyX6_ok nmX6 hown hG.1 hP hD hS 0 rfl rfl 11 (by decide) (hts (.fieldLink RX6 138 "HornEngineModel" "at" "I") (List.mem_of_getElem? (i := 1) rfl)) (fun _ h9 => h9) rfl (by decide +kernel) rfl rfl (Nat.le_of_ble_eq_true rfl) dX6_readsAtom_93 (fun H locs hP hD hS => ?_)
            have hP : va_P D vwCl [(mo, .inr (6, [.ref qA, .ref qS, .int (nI sm), .ref qE, .ref qT, .int (nI tl), .ref qQ, .int (nI qd), .ref qF, .int (nI fm), .ref qC, .int (nI (skp it tl ap + 1)), .int (nI (skp it tl ap)), .ref qH, .ref qB])), (qT, .inl (cI, 120, .inl it))] H := hP
            have hD : va_D A [(mo, .inr (6, [.ref qA, .ref qS, .int (nI sm), .ref qE, .ref qT, .int (nI tl), .ref qQ, .int (nI qd), .ref qF, .int (nI fm), .ref qC, .int (nI (skp it tl ap + 1)), .int (nI (skp it tl ap)), .ref qH, .ref qB])), (qT, .inl (cI, 120, .inl it))] := hD
            refine lv_goto (tgt := 37) hx hb dX6_readsAtom_96 (by decide) ?_
            refine lv_aload_n hx hb dX6_readsAtom_37 rfl (lv_at hl 2 rfl) ?_
            refine lv_aload_n hx hb dX6_readsAtom_38 rfl (lv_at hl 2 rfl) ?_
            refine va_get (D := D) (ci := 6) (v := .int (nI (skp it tl ap + 1))) (C := RX6) (T := TX6) (N := 15) hx hb hts ilX6_readsAtom_6 hown hG.1 hP 0 rfl rfl 11 (by decide) (hts (.fieldLink RX6 138 "HornEngineModel" "at" "I") (List.mem_of_getElem? (i := 1) rfl)) (fun _ h9 => h9) rfl dX6_readsAtom_39 ?_
            refine pu_V (As := [.int (nI (skp it tl ap + 1))]) (rest := []) ⟨hx, hb, hml, hown, hts⟩ hG hP (k_X6_isDigitAt l D cI cB mo qA qS sm qE qT tl qQ qd qF fm qC (skp it tl ap + 1) (skp it tl ap) qH qB it (skp it tl ap + 1) (by omega) (by omega)) (cwV 1 hts gX6_readsAtom_X6_isDigitAt rfl rfl rfl (by decide +kernel) ⟨(Nat.le_of_ble_eq_true rfl), (Nat.le_of_ble_eq_true rfl)⟩) [0, 1] rfl 0 rfl rfl rfl rfl hl.1 rfl (Nat.le_of_ble_eq_true rfl) dX6_readsAtom_42 ⟨Nat.zero_le _, Nat.zero_le _⟩ ?_
            refine lv_if_eq (tgt := 99) hx hb dX6_readsAtom_45 (by decide) (fun c_7 => ?_) (fun c_7 => ?_)
            · skip
              have c_7 : (isD (tc it tl (skp it tl ap + 1))) = false := bI_f.mp c_7
              have h2 : isD (tc it tl (skp it tl ap + 1)) = false := c_7
              refine lv_aload_n hx hb dX6_readsAtom_99 rfl (lv_at hl 2 rfl) ?_
              refine lv_iload_n hx hb dX6_readsAtom_100 rfl (lv_at hl 1 rfl) ?_
              refine va_put (D := D) (ci := 6) (v := .int (nI (skp it tl ap))) (ty := .int) (C := RX6) (T := TX6) (N := 15) hx hb hts ilX6_readsAtom_6 tyX6 tyX6_ok nmX6 hown hG.1 hP hD hS 0 rfl rfl 12 (by decide) (hts (.fieldLink RX6 141 "HornEngineModel" "place" "I") (List.mem_of_getElem? (i := 2) rfl)) (fun _ h9 => h9) rfl (by decide +kernel) rfl rfl (Nat.le_of_ble_eq_true rfl) dX6_readsAtom_101 (fun H locs hP hD hS => ?_)
              have hP : va_P D vwCl [(mo, .inr (6, [.ref qA, .ref qS, .int (nI sm), .ref qE, .ref qT, .int (nI tl), .ref qQ, .int (nI qd), .ref qF, .int (nI fm), .ref qC, .int (nI (skp it tl ap + 1)), .int (nI (skp it tl ap)), .ref qH, .ref qB])), (qT, .inl (cI, 120, .inl it))] H := hP
              have hD : va_D A [(mo, .inr (6, [.ref qA, .ref qS, .int (nI sm), .ref qE, .ref qT, .int (nI tl), .ref qQ, .int (nI qd), .ref qF, .int (nI fm), .ref qC, .int (nI (skp it tl ap + 1)), .int (nI (skp it tl ap)), .ref qH, .ref qB])), (qT, .inl (cI, 120, .inl it))] := hD
              refine lv_iload_n hx hb dX6_readsAtom_104 rfl (lv_at hl 0 rfl) ?_
              refine lv_bipush (v := nI 16) hx hb dX6_readsAtom_105 (by decide) ?_
              refine lv_icmp_ge (tgt := 114) hx hb dX6_readsAtom_107 (by decide) (fun c_8 => ?_) (fun c_8 => ?_)
              · skip
                have hA4 : isA (num1 it tl (skp it tl ap)) = false := isA_ge c_8
                refine lv_iconst (v := (-1)) hx hb dX6_readsAtom_114 (by decide) ?_
                exact hret _ (-1, skp it tl ap + 1, skp it tl ap) _ _ _ _ (⟨rfl, by rw [rdA, if_pos h1, if_neg (by rw [h2]; decide), if_neg (by rw [hA4]; decide)]; exact ⟨rfl, rfl⟩, hl1⟩) (hP) (hD) hS dX6_readsAtom_115
              · skip
                have hA4 : isA (num1 it tl (skp it tl ap)) = true := isA_nn (num1_nn h1) c_8
                refine lv_iload_n hx hb dX6_readsAtom_110 rfl (lv_at hl 0 rfl) ?_
                refine lv_goto (tgt := 115) hx hb dX6_readsAtom_111 (by decide) ?_
                exact hret _ (num1 it tl (skp it tl ap), skp it tl ap + 1, skp it tl ap) _ _ _ _ (⟨rfl, by rw [rdA, if_pos h1, if_neg (by rw [h2]; decide), if_pos hA4]; exact ⟨rfl, rfl, rfl⟩, hl1⟩) (hP) (hD) hS dX6_readsAtom_115
            · skip
              have c_7 : (isD (tc it tl (skp it tl ap + 1))) = true := bI_t.mp c_7
              have h2 : isD (tc it tl (skp it tl ap + 1)) = true := c_7
              have hl2 := isD_lt h2
              refine lv_aload_n hx hb dX6_readsAtom_48 rfl (lv_at hl 2 rfl) ?_
              refine va_get (D := D) (ci := 6) (v := .int (nI (skp it tl ap + 1))) (C := RX6) (T := TX6) (N := 15) hx hb hts ilX6_readsAtom_6 hown hG.1 hP 0 rfl rfl 11 (by decide) (hts (.fieldLink RX6 138 "HornEngineModel" "at" "I") (List.mem_of_getElem? (i := 1) rfl)) (fun _ h9 => h9) rfl dX6_readsAtom_49 ?_
              refine lv_iload_n hx hb dX6_readsAtom_52 rfl (lv_at hl 1 rfl) ?_
              refine lv_iconst (v := nI 2) hx hb dX6_readsAtom_53 (by decide) ?_
              refine lv_iadd hx hb dX6_readsAtom_54 ?_
              refine lv_eqi (y := nI (skp it tl ap + 2)) (nI_add (skp it tl ap) 2) ?_
              refine lv_icmp_ne (tgt := 68) hx hb dX6_readsAtom_55 (by decide) (fun c_9 => ?_) (fun c_9 => ?_)
              · skip
                have c_9 : ¬ ((skp it tl ap + 1) = (skp it tl ap + 2)) := fun h9 => (show ¬ (nI (skp it tl ap + 1) = nI (skp it tl ap + 2)) from c_9) ((nI_eq (by omega) (by omega)).mpr h9)
                refine lv_bipush (v := nI 10) hx hb dX6_readsAtom_68 (by decide) ?_
                refine lv_iload_n hx hb dX6_readsAtom_70 rfl (lv_at hl 0 rfl) ?_
                refine lv_imul hx hb dX6_readsAtom_71 ?_
                refine lv_aload_n hx hb dX6_readsAtom_72 rfl (lv_at hl 2 rfl) ?_
                refine va_get (D := D) (ci := 6) (v := .ref qT) (C := RX6) (T := TX6) (N := 15) hx hb hts ilX6_readsAtom_6 hown hG.1 hP 0 rfl rfl 4 (by decide) (hts (.fieldLink RX6 19 "HornEngineModel" "text" "[I") (List.mem_of_getElem? (i := 3) rfl)) (fun _ h9 => h9) rfl dX6_readsAtom_73 ?_
                refine lv_aload_n hx hb dX6_readsAtom_76 rfl (lv_at hl 2 rfl) ?_
                refine va_get (D := D) (ci := 6) (v := .int (nI (skp it tl ap + 1))) (C := RX6) (T := TX6) (N := 15) hx hb hts ilX6_readsAtom_6 hown hG.1 hP 0 rfl rfl 11 (by decide) (hts (.fieldLink RX6 138 "HornEngineModel" "at" "I") (List.mem_of_getElem? (i := 1) rfl)) (fun _ h9 => h9) rfl dX6_readsAtom_77 ?_
                refine ia_ld hx hb hG hP 1 rfl (skp it tl ap + 1) rfl (by omega) (by decide) dX6_readsAtom_80 ?_
                refine lv_iadd hx hb dX6_readsAtom_81 ?_
                refine lv_bipush (v := nI 48) hx hb dX6_readsAtom_82 (by decide) ?_
                refine lv_isub hx hb dX6_readsAtom_84 ?_
                refine lv_eqi (y := num2 it tl (skp it tl ap)) (v_2 hl2) ?_
                refine lv_istore_n (lv' := [(2, .int (num2 it tl (skp it tl ap))), (1, .int (nI (skp it tl ap))), (0, .ref mo)]) hx hb dX6_readsAtom_85 rfl hl (by decide) rfl (fun ls hl => ?_)
                refine lv_aload_n hx hb dX6_readsAtom_86 rfl (lv_at hl 2 rfl) ?_
                refine lv_dup hx hb dX6_readsAtom_87 rfl ?_
                refine va_get (D := D) (ci := 6) (v := .int (nI (skp it tl ap + 1))) (C := RX6) (T := TX6) (N := 15) hx hb hts ilX6_readsAtom_6 hown hG.1 hP 0 rfl rfl 11 (by decide) (hts (.fieldLink RX6 138 "HornEngineModel" "at" "I") (List.mem_of_getElem? (i := 1) rfl)) (fun _ h9 => h9) rfl dX6_readsAtom_88 ?_
                refine lv_iconst (v := nI 1) hx hb dX6_readsAtom_91 (by decide) ?_
                refine lv_iadd hx hb dX6_readsAtom_92 ?_
                refine lv_eqi (y := nI (skp it tl ap + 1 + 1)) (nI_add (skp it tl ap + 1) 1) ?_
                refine va_put (D := D) (ci := 6) (v := .int (nI (skp it tl ap + 1 + 1))) (ty := .int) (C := RX6) (T := TX6) (N := 15) hx hb hts ilX6_readsAtom_6 tyX6 tyX6_ok nmX6 hown hG.1 hP hD hS 0 rfl rfl 11 (by decide) (hts (.fieldLink RX6 138 "HornEngineModel" "at" "I") (List.mem_of_getElem? (i := 1) rfl)) (fun _ h9 => h9) rfl (by decide +kernel) rfl rfl (Nat.le_of_ble_eq_true rfl) dX6_readsAtom_93 (fun H locs hP hD hS => ?_)
                have hP : va_P D vwCl [(mo, .inr (6, [.ref qA, .ref qS, .int (nI sm), .ref qE, .ref qT, .int (nI tl), .ref qQ, .int (nI qd), .ref qF, .int (nI fm), .ref qC, .int (nI (skp it tl ap + 1 + 1)), .int (nI (skp it tl ap)), .ref qH, .ref qB])), (qT, .inl (cI, 120, .inl it))] H := hP
                have hD : va_D A [(mo, .inr (6, [.ref qA, .ref qS, .int (nI sm), .ref qE, .ref qT, .int (nI tl), .ref qQ, .int (nI qd), .ref qF, .int (nI fm), .ref qC, .int (nI (skp it tl ap + 1 + 1)), .int (nI (skp it tl ap)), .ref qH, .ref qB])), (qT, .inl (cI, 120, .inl it))] := hD
                refine lv_goto (tgt := 37) hx hb dX6_readsAtom_96 (by decide) ?_
                refine lv_aload_n hx hb dX6_readsAtom_37 rfl (lv_at hl 2 rfl) ?_
                refine lv_aload_n hx hb dX6_readsAtom_38 rfl (lv_at hl 2 rfl) ?_
                refine va_get (D := D) (ci := 6) (v := .int (nI (skp it tl ap + 1 + 1))) (C := RX6) (T := TX6) (N := 15) hx hb hts ilX6_readsAtom_6 hown hG.1 hP 0 rfl rfl 11 (by decide) (hts (.fieldLink RX6 138 "HornEngineModel" "at" "I") (List.mem_of_getElem? (i := 1) rfl)) (fun _ h9 => h9) rfl dX6_readsAtom_39 ?_
                refine pu_V (As := [.int (nI (skp it tl ap + 1 + 1))]) (rest := []) ⟨hx, hb, hml, hown, hts⟩ hG hP (k_X6_isDigitAt l D cI cB mo qA qS sm qE qT tl qQ qd qF fm qC (skp it tl ap + 1 + 1) (skp it tl ap) qH qB it (skp it tl ap + 1 + 1) (by omega) (by omega)) (cwV 1 hts gX6_readsAtom_X6_isDigitAt rfl rfl rfl (by decide +kernel) ⟨(Nat.le_of_ble_eq_true rfl), (Nat.le_of_ble_eq_true rfl)⟩) [0, 1] rfl 0 rfl rfl rfl rfl hl.1 rfl (Nat.le_of_ble_eq_true rfl) dX6_readsAtom_42 ⟨Nat.zero_le _, Nat.zero_le _⟩ ?_
                refine lv_if_eq (tgt := 99) hx hb dX6_readsAtom_45 (by decide) (fun c_10 => ?_) (fun c_10 => ?_)
                · skip
                  have c_10 : (isD (tc it tl (skp it tl ap + 1 + 1))) = false := bI_f.mp c_10
                  have h3 : isD (tc it tl (skp it tl ap + 1 + 1)) = false := c_10
                  refine lv_aload_n hx hb dX6_readsAtom_99 rfl (lv_at hl 2 rfl) ?_
                  refine lv_iload_n hx hb dX6_readsAtom_100 rfl (lv_at hl 1 rfl) ?_
                  refine va_put (D := D) (ci := 6) (v := .int (nI (skp it tl ap))) (ty := .int) (C := RX6) (T := TX6) (N := 15) hx hb hts ilX6_readsAtom_6 tyX6 tyX6_ok nmX6 hown hG.1 hP hD hS 0 rfl rfl 12 (by decide) (hts (.fieldLink RX6 141 "HornEngineModel" "place" "I") (List.mem_of_getElem? (i := 2) rfl)) (fun _ h9 => h9) rfl (by decide +kernel) rfl rfl (Nat.le_of_ble_eq_true rfl) dX6_readsAtom_101 (fun H locs hP hD hS => ?_)
                  have hP : va_P D vwCl [(mo, .inr (6, [.ref qA, .ref qS, .int (nI sm), .ref qE, .ref qT, .int (nI tl), .ref qQ, .int (nI qd), .ref qF, .int (nI fm), .ref qC, .int (nI (skp it tl ap + 1 + 1)), .int (nI (skp it tl ap)), .ref qH, .ref qB])), (qT, .inl (cI, 120, .inl it))] H := hP
                  have hD : va_D A [(mo, .inr (6, [.ref qA, .ref qS, .int (nI sm), .ref qE, .ref qT, .int (nI tl), .ref qQ, .int (nI qd), .ref qF, .int (nI fm), .ref qC, .int (nI (skp it tl ap + 1 + 1)), .int (nI (skp it tl ap)), .ref qH, .ref qB])), (qT, .inl (cI, 120, .inl it))] := hD
                  refine lv_iload_n hx hb dX6_readsAtom_104 rfl (lv_at hl 0 rfl) ?_
                  refine lv_bipush (v := nI 16) hx hb dX6_readsAtom_105 (by decide) ?_
                  refine lv_icmp_ge (tgt := 114) hx hb dX6_readsAtom_107 (by decide) (fun c_11 => ?_) (fun c_11 => ?_)
                  · skip
                    have hA4 : isA (num2 it tl (skp it tl ap)) = false := isA_ge c_11
                    refine lv_iconst (v := (-1)) hx hb dX6_readsAtom_114 (by decide) ?_
                    exact hret _ (-1, skp it tl ap + 1 + 1, skp it tl ap) _ _ _ _ (⟨rfl, by rw [rdA, if_pos h1, if_pos h2, if_neg (by rw [h3]; decide), if_neg (by rw [hA4]; decide)]; exact ⟨rfl, rfl⟩, hl2⟩) (hP) (hD) hS dX6_readsAtom_115
                  · skip
                    have hA4 : isA (num2 it tl (skp it tl ap)) = true := isA_nn (num2_nn h1 h2) c_11
                    refine lv_iload_n hx hb dX6_readsAtom_110 rfl (lv_at hl 0 rfl) ?_
                    refine lv_goto (tgt := 115) hx hb dX6_readsAtom_111 (by decide) ?_
                    exact hret _ (num2 it tl (skp it tl ap), skp it tl ap + 1 + 1, skp it tl ap) _ _ _ _ (⟨rfl, by rw [rdA, if_pos h1, if_pos h2, if_neg (by rw [h3]; decide), if_pos hA4]; exact ⟨rfl, rfl, rfl⟩, hl2⟩) (hP) (hD) hS dX6_readsAtom_115
                · skip
                  have c_10 : (isD (tc it tl (skp it tl ap + 1 + 1))) = true := bI_t.mp c_10
                  have h3 : isD (tc it tl (skp it tl ap + 1 + 1)) = true := c_10
                  have hl3 := isD_lt h3
                  refine lv_aload_n hx hb dX6_readsAtom_48 rfl (lv_at hl 2 rfl) ?_
                  refine va_get (D := D) (ci := 6) (v := .int (nI (skp it tl ap + 1 + 1))) (C := RX6) (T := TX6) (N := 15) hx hb hts ilX6_readsAtom_6 hown hG.1 hP 0 rfl rfl 11 (by decide) (hts (.fieldLink RX6 138 "HornEngineModel" "at" "I") (List.mem_of_getElem? (i := 1) rfl)) (fun _ h9 => h9) rfl dX6_readsAtom_49 ?_
                  refine lv_iload_n hx hb dX6_readsAtom_52 rfl (lv_at hl 1 rfl) ?_
                  refine lv_iconst (v := nI 2) hx hb dX6_readsAtom_53 (by decide) ?_
                  refine lv_iadd hx hb dX6_readsAtom_54 ?_
                  refine lv_eqi (y := nI (skp it tl ap + 2)) (nI_add (skp it tl ap) 2) ?_
                  refine lv_icmp_ne (tgt := 68) hx hb dX6_readsAtom_55 (by decide) (fun c_12 => ?_) (fun c_12 => ?_)
                  · skip
                    have c_12 : ¬ ((skp it tl ap + 1 + 1) = (skp it tl ap + 2)) := fun h9 => (show ¬ (nI (skp it tl ap + 1 + 1) = nI (skp it tl ap + 2)) from c_12) ((nI_eq (by omega) (by omega)).mpr h9)
                    exact absurd (show skp it tl ap + 1 + 1 = skp it tl ap + 2 from rfl) c_12
                  · skip
                    have c_12 : (skp it tl ap + 1 + 1) = (skp it tl ap + 2) := (nI_eq (by omega) (by omega)).mp (show nI (skp it tl ap + 1 + 1) = nI (skp it tl ap + 2) from c_12)
                    refine lv_aload_n hx hb dX6_readsAtom_58 rfl (lv_at hl 2 rfl) ?_
                    refine lv_aload_n hx hb dX6_readsAtom_59 rfl (lv_at hl 2 rfl) ?_
                    refine va_get (D := D) (ci := 6) (v := .int (nI (skp it tl ap + 1 + 1))) (C := RX6) (T := TX6) (N := 15) hx hb hts ilX6_readsAtom_6 hown hG.1 hP 0 rfl rfl 11 (by decide) (hts (.fieldLink RX6 138 "HornEngineModel" "at" "I") (List.mem_of_getElem? (i := 1) rfl)) (fun _ h9 => h9) rfl dX6_readsAtom_60 ?_
                    refine va_put (D := D) (ci := 6) (v := .int (nI (skp it tl ap + 1 + 1))) (ty := .int) (C := RX6) (T := TX6) (N := 15) hx hb hts ilX6_readsAtom_6 tyX6 tyX6_ok nmX6 hown hG.1 hP hD hS 0 rfl rfl 12 (by decide) (hts (.fieldLink RX6 141 "HornEngineModel" "place" "I") (List.mem_of_getElem? (i := 2) rfl)) (fun _ h9 => h9) rfl (by decide +kernel) rfl rfl (Nat.le_of_ble_eq_true rfl) dX6_readsAtom_63 (fun H locs hP hD hS => ?_)
                    have hP : va_P D vwCl [(mo, .inr (6, [.ref qA, .ref qS, .int (nI sm), .ref qE, .ref qT, .int (nI tl), .ref qQ, .int (nI qd), .ref qF, .int (nI fm), .ref qC, .int (nI (skp it tl ap + 1 + 1)), .int (nI (skp it tl ap + 1 + 1)), .ref qH, .ref qB])), (qT, .inl (cI, 120, .inl it))] H := hP
                    have hD : va_D A [(mo, .inr (6, [.ref qA, .ref qS, .int (nI sm), .ref qE, .ref qT, .int (nI tl), .ref qQ, .int (nI qd), .ref qF, .int (nI fm), .ref qC, .int (nI (skp it tl ap + 1 + 1)), .int (nI (skp it tl ap + 1 + 1)), .ref qH, .ref qB])), (qT, .inl (cI, 120, .inl it))] := hD
                    refine lv_iconst (v := (-1)) hx hb dX6_readsAtom_66 (by decide) ?_
                    exact hret _ (-1, skp it tl ap + 1 + 1, skp it tl ap + 1 + 1) _ _ _ _ (⟨rfl, by rw [rdA, if_pos h1, if_pos h2, if_pos h3]; exact ⟨rfl, rfl⟩, hl2⟩) (hP) (hD) hS dX6_readsAtom_67
              · skip
                have c_9 : (skp it tl ap + 1) = (skp it tl ap + 2) := (nI_eq (by omega) (by omega)).mp (show nI (skp it tl ap + 1) = nI (skp it tl ap + 2) from c_9)
                exact absurd c_9 (by omega)
          · skip
            have c_6 : (skp it tl ap) = (skp it tl ap + 2) := (nI_eq (by omega) (by omega)).mp (show nI (skp it tl ap) = nI (skp it tl ap + 2) from c_6)
            exact absurd c_6 (by omega)
      · skip
        have c_4 : (isD (tc it tl (skp it tl ap))) = false := bI_f.mp c_4
        have hout : isD (tc it tl (skp it tl ap)) = false := c_4
        refine lv_iconst (v := (-1)) hx hb dX6_readsAtom_33 (by decide) ?_
        exact hret _ (-1, skp it tl ap, skp it tl ap) _ _ _ _ (⟨rfl, by rw [rdA, if_neg (by rw [hout]; decide)]; exact ⟨rfl, rfl⟩, hsk⟩) (hP) (hD) hS dX6_readsAtom_34
  · skip
    have hout : isD (tc it tl (skp it tl ap)) = false := by rw [c_2]; decide
    refine lv_iconst (v := (-1)) hx hb dX6_readsAtom_8 (by decide) ?_
    refine lv_goto (tgt := 16) hx hb dX6_readsAtom_9 (by decide) ?_
    refine lv_istore_n (lv' := [(1, .int (-1)), (0, .ref mo)]) hx hb dX6_readsAtom_16 rfl hl (by decide) rfl (fun ls hl => ?_)
    refine lv_iload_n hx hb dX6_readsAtom_17 rfl (lv_at hl 0 rfl) ?_
    refine lv_iconst (v := (-1)) hx hb dX6_readsAtom_18 (by decide) ?_
    refine lv_icmp_eq (tgt := 33) hx hb dX6_readsAtom_19 (by decide) (fun _ => ?_) (fun c_13 => absurd (by decide) c_13)
    refine lv_iconst (v := (-1)) hx hb dX6_readsAtom_33 (by decide) ?_
    exact hret _ (-1, skp it tl ap, skp it tl ap) _ _ _ _ (⟨rfl, by rw [rdA, if_neg (by rw [hout]; decide)]; exact ⟨rfl, rfl⟩, hsk⟩) (hP) (hD) hS dX6_readsAtom_34
set_option maxHeartbeats 4000000 in
set_option maxRecDepth 100000 in
theorem k_X6_readsBody (l : Launch) (D : va_G) (cI cB : ClassId) (mo : Nat) (qA : Nat) (qS : Nat) (sm : Nat) (qE : Nat) (qT : Nat) (tl : Nat) (qQ : Nat) (qd : Nat) (qF : Nat) (fm : Nat) (qC : Nat) (ap : Nat) (pl : Nat) (qH : Nat) (qB : Nat) (it : Nat → Int32) (htl : tl ≤ 120) (hap : ap ≤ tl) (sz : Nat) : Wr l yX6_readsBody wsX6_readsBody ({ frames := 3, cells := 0, slots := 0, locals := 68 }) D cI cB [.ref mo] [(mo, .inr (6, [.ref qA, .ref qS, .int (nI sm), .ref qE, .ref qT, .int (nI tl), .ref qQ, .int (nI qd), .ref qF, .int (nI fm), .ref qC, .int (nI ap), .int (nI pl), .ref qH, .ref qB])), (qT, .inl (cI, 120, .inl it))] sz (S := Int32 × Nat × Nat) (fun v u => v = some (.int u.1) ∧ (rmB (rdC it tl ap) u.1 u.2.1 u.2.2 ∧ u.2.1 ≤ tl)) (fun u => [(mo, .inr (6, [.ref qA, .ref qS, .int (nI sm), .ref qE, .ref qT, .int (nI tl), .ref qQ, .int (nI qd), .ref qF, .int (nI fm), .ref qC, .int (nI u.2.1), .int (nI u.2.2), .ref qH, .ref qB])), (qT, .inl (cI, 120, .inl it))]) 0 0 := by
  refine ef_startI (cc := cX6_readsBody) (maxL := 5) (by decide) rfl (Nat.le_of_ble_eq_true rfl) ?_
  intro p e s m args below meth c Q A hx hb hml hown hts hP hG hD hA hret ls hl
  have hown : s.vm.findClass RX6 = some m.cls := hown
  have hl : lv_has ls 5 [(0, .ref mo)] := hl
  have hS : va_S A s.heap s.heap [] := va_S.rf
  have hsk := skp_le (it := it) hap
  refine lv_iconst (v := nI 0) hx hb dX6_readsBody_0 (by decide) ?_
  refine lv_istore_n (lv' := [(1, .int (nI 0)), (0, .ref mo)]) hx hb dX6_readsBody_1 rfl hl (by decide) rfl (fun ls hl => ?_)
  refine lv_aload_n hx hb dX6_readsBody_2 rfl (lv_at hl 1 rfl) ?_
  refine ef_V (As := []) (rest := []) (wr := []) ⟨hx, hb, hml, hown, hts⟩ hG hP hD hS hA (k_X6_next l D cI cB mo qA qS sm qE qT tl qQ qd qF fm qC ap pl qH qB it htl hap _) (cwV 0 hts gX6_readsBody_X6_next rfl rfl rfl (by decide +kernel) ⟨(Nat.le_of_ble_eq_true rfl), (Nat.le_of_ble_eq_true rfl)⟩) [0, 1] [] rfl rfl rfl rfl (by decide) 0 rfl rfl rfl rfl hl.1 rfl (Nat.le_of_ble_eq_true rfl) dX6_readsBody_3 ⟨(Nat.le_of_ble_eq_true rfl), (Nat.le_of_ble_eq_true rfl)⟩ (fun v_1 u_1 H locs w_1 hP hD hS => ?_)
  have w_1 : v_1 = some (.int (tc it tl (skp it tl ap))) := w_1
  subst w_1
  have hP : va_P D vwCl [(mo, .inr (6, [.ref qA, .ref qS, .int (nI sm), .ref qE, .ref qT, .int (nI tl), .ref qQ, .int (nI qd), .ref qF, .int (nI fm), .ref qC, .int (nI (skp it tl ap)), .int (nI (skp it tl ap)), .ref qH, .ref qB])), (qT, .inl (cI, 120, .inl it))] H := hP.sub [0, 1] rfl
  have hD : va_D A [(mo, .inr (6, [.ref qA, .ref qS, .int (nI sm), .ref qE, .ref qT, .int (nI tl), .ref qQ, .int (nI qd), .ref qF, .int (nI fm), .ref qC, .int (nI (skp it tl ap)), .int (nI (skp it tl ap)), .ref qH, .ref qB])), (qT, .inl (cI, 120, .inl it))] := hD.sub [0, 1] rfl rfl
  refine W.eq (g2 := F0 m 6 ls [.int (tc it tl (skp it tl ap))]) rfl ?_
  refine lv_bipush (v := nI 59) hx hb dX6_readsBody_6 (by decide) ?_
  refine lv_icmp_ne (tgt := 23) hx hb dX6_readsBody_8 (by decide) (fun c_2 => ?_) (fun c_2 => ?_)
  · skip
    have h59 : ¬ tc it tl (skp it tl ap) = nI 59 := c_2
    refine lv_iconst (v := nI 0) hx hb dX6_readsBody_23 (by decide) ?_
    refine lv_istore_n (lv' := [(2, .int (nI 0)), (1, .int (nI 0)), (0, .ref mo)]) hx hb dX6_readsBody_24 rfl hl (by decide) rfl (fun ls hl => ?_)
    have lp_25_3 : ∀ (fu_25 : Nat) (k : Nat) (x1 : Int32) (ap1 : Nat) (pl1 : Nat) (hk : k ≤ 4) (hap1 : ap1 ≤ tl) (eB : rdK it tl (rdBL it tl (4 - k) x1 (skp it tl ap1)) = rdC it tl ap) (hfu_25 : 4 - k < fu_25) (H : Heap) (locs : List Loc) (hP : va_P D vwCl [(mo, .inr (6, [.ref qA, .ref qS, .int (nI sm), .ref qE, .ref qT, .int (nI tl), .ref qQ, .int (nI qd), .ref qF, .int (nI fm), .ref qC, .int (nI ap1), .int (nI pl1), .ref qH, .ref qB])), (qT, .inl (cI, 120, .inl it))] H) (hD : va_D A [(mo, .inr (6, [.ref qA, .ref qS, .int (nI sm), .ref qE, .ref qT, .int (nI tl), .ref qQ, .int (nI qd), .ref qF, .int (nI fm), .ref qC, .int (nI ap1), .int (nI pl1), .ref qH, .ref qB])), (qT, .inl (cI, 120, .inl it))]) (hS : va_S A s.heap H locs) (ls : Array Slot) (hl : lv_has ls 5 [(0, .ref mo), (1, .int x1), (2, .int (nI k))]), W p l e ({ frames := 3, cells := 0, slots := 0, locals := 68 }) s m args below meth c H locs 0 0 Q (F0 m 25 ls []) := by
      intro fu_25
      induction fu_25 with
      | zero => intro k x1 ap1 pl1 hk hap1 eB hfu; exact absurd hfu (Nat.not_lt_zero _)
      | succ fu_25 ih_25 =>
        intro k x1 ap1 pl1 hk hap1 eB hfu_25 H locs hP hD hS ls hl
        refine lv_iload_n hx hb dX6_readsBody_25 rfl (lv_at hl 2 rfl) ?_
        refine lv_iconst (v := nI 4) hx hb dX6_readsBody_26 (by decide) ?_
        refine lv_icmp_ge (tgt := 104) hx hb dX6_readsBody_27 (by decide) (fun c_4 => ?_) (fun c_4 => ?_)
        · skip
          have c_4 : 4 ≤ k := (nI_leI (by omega) (by omega)).mp (show nI 4 ≤ nI k from c_4)
          refine lv_aload_n hx hb dX6_readsBody_104 rfl (lv_at hl 0 rfl) ?_
          refine ef_V (As := []) (rest := []) (wr := []) ⟨hx, hb, hml, hown, hts⟩ hG hP hD hS hA (k_X6_next l D cI cB mo qA qS sm qE qT tl qQ qd qF fm qC ap1 pl1 qH qB it htl hap1 _) (cwV 0 hts gX6_readsBody_X6_next rfl rfl rfl (by decide +kernel) ⟨(Nat.le_of_ble_eq_true rfl), (Nat.le_of_ble_eq_true rfl)⟩) [0, 1] [] rfl rfl rfl rfl (by decide) 0 rfl rfl rfl rfl hl.1 rfl (Nat.le_of_ble_eq_true rfl) dX6_readsBody_105 ⟨(Nat.le_of_ble_eq_true rfl), (Nat.le_of_ble_eq_true rfl)⟩ (fun v_5 u_5 H locs w_5 hP hD hS => ?_)
          have w_5 : v_5 = some (.int (tc it tl (skp it tl ap1))) := w_5
          subst w_5
          have hP : va_P D vwCl [(mo, .inr (6, [.ref qA, .ref qS, .int (nI sm), .ref qE, .ref qT, .int (nI tl), .ref qQ, .int (nI qd), .ref qF, .int (nI fm), .ref qC, .int (nI (skp it tl ap1)), .int (nI (skp it tl ap1)), .ref qH, .ref qB])), (qT, .inl (cI, 120, .inl it))] H := hP.sub [0, 1] rfl
          have hD : va_D A [(mo, .inr (6, [.ref qA, .ref qS, .int (nI sm), .ref qE, .ref qT, .int (nI tl), .ref qQ, .int (nI qd), .ref qF, .int (nI fm), .ref qC, .int (nI (skp it tl ap1)), .int (nI (skp it tl ap1)), .ref qH, .ref qB])), (qT, .inl (cI, 120, .inl it))] := hD.sub [0, 1] rfl rfl
          refine W.eq (g2 := F0 m 108 ls [.int (tc it tl (skp it tl ap1))]) rfl ?_
          refine lv_istore_n (lv' := [(2, .int (tc it tl (skp it tl ap1))), (0, .ref mo), (1, .int x1)]) hx hb dX6_readsBody_108 rfl hl (by decide) rfl (fun ls hl => ?_)
          refine lv_iconst (v := (-1)) hx hb dX6_readsBody_109 (by decide) ?_
          exact hret _ (-1, skp it tl ap1, skp it tl ap1) _ _ _ _ (⟨rfl, by rw [← eB, show 4 - k = 0 from by omega]; exact ⟨rfl, rfl⟩, skp_le hap1⟩) (hP) (hD) hS dX6_readsBody_110
        · skip
          have c_4 : ¬ (4 ≤ k) := fun h9 => (show ¬ (nI 4 ≤ nI k) from c_4) ((nI_leI (by omega) (by omega)).mpr h9)
          refine lv_aload_n hx hb dX6_readsBody_30 rfl (lv_at hl 0 rfl) ?_
          refine ef_V (As := []) (rest := []) (wr := []) ⟨hx, hb, hml, hown, hts⟩ hG hP hD hS hA (k_X6_readsAtom l D cI cB mo qA qS sm qE qT tl qQ qd qF fm qC ap1 pl1 qH qB it htl hap1 _) (cwV 0 hts gX6_readsBody_X6_readsAtom rfl rfl rfl (by decide +kernel) ⟨(Nat.le_of_ble_eq_true rfl), (Nat.le_of_ble_eq_true rfl)⟩) [0, 1] [] rfl rfl rfl rfl (by decide) 0 rfl rfl rfl rfl hl.1 rfl (Nat.le_of_ble_eq_true rfl) dX6_readsBody_31 ⟨(Nat.le_of_ble_eq_true rfl), (Nat.le_of_ble_eq_true rfl)⟩ (fun v_6 u_6 H locs w_6 hP hD hS => ?_)
          obtain ⟨rv9_6, ap9_6, pl9_6⟩ := u_6
          obtain ⟨e_6, w_6⟩ := w_6
          have w_6 : rmR (rdA it tl (skp it tl ap1)) (skp it tl ap1) rv9_6 ap9_6 pl9_6 ∧ ap9_6 ≤ tl := w_6
          have e_6 : v_6 = some (.int rv9_6) := e_6
          subst e_6
          have hP : va_P D vwCl [(mo, .inr (6, [.ref qA, .ref qS, .int (nI sm), .ref qE, .ref qT, .int (nI tl), .ref qQ, .int (nI qd), .ref qF, .int (nI fm), .ref qC, .int (nI ap9_6), .int (nI pl9_6), .ref qH, .ref qB])), (qT, .inl (cI, 120, .inl it))] H := hP.sub [0, 1] rfl
          have hD : va_D A [(mo, .inr (6, [.ref qA, .ref qS, .int (nI sm), .ref qE, .ref qT, .int (nI tl), .ref qQ, .int (nI qd), .ref qF, .int (nI fm), .ref qC, .int (nI ap9_6), .int (nI pl9_6), .ref qH, .ref qB])), (qT, .inl (cI, 120, .inl it))] := hD.sub [0, 1] rfl rfl
          refine W.eq (g2 := F0 m 34 ls [.int rv9_6]) rfl ?_
          have hrd := w_6.1
          have hpl := w_6.2
          refine lv_istore_n (lv' := [(3, .int rv9_6), (0, .ref mo), (1, .int x1), (2, .int (nI k))]) hx hb dX6_readsBody_34 rfl hl (by decide) rfl (fun ls hl => ?_)
          refine lv_iload_n hx hb dX6_readsBody_35 rfl (lv_at hl 0 rfl) ?_
          refine lv_iconst (v := (-1)) hx hb dX6_readsBody_36 (by decide) ?_
          refine lv_icmp_eq (tgt := 49) hx hb dX6_readsBody_37 (by decide) (fun c_7 => ?_) (fun c_7 => ?_)
          · skip
            obtain ⟨z, hz, hze⟩ := rm_err hrd c_7
            refine lv_iconst (v := (-1)) hx hb dX6_readsBody_49 (by decide) ?_
            exact hret _ (-1, ap9_6, pl9_6) _ _ _ _ (⟨rfl, by rw [← eB, show 4 - k = (4 - (k + 1)) + 1 from by omega, rdBL, hz]; exact ⟨rfl, hze⟩, hpl⟩) (hP) (hD) hS dX6_readsBody_50
          · skip
            have hRA := rm_ok hrd c_7
            refine lv_iload_n hx hb dX6_readsBody_40 rfl (lv_at hl 2 rfl) ?_
            refine lv_iload_n hx hb dX6_readsBody_41 rfl (lv_at hl 0 rfl) ?_
            refine lv_ishr hx hb dX6_readsBody_42 ?_
            refine lv_iconst (v := nI 1) hx hb dX6_readsBody_43 (by decide) ?_
            refine lv_iand hx hb dX6_readsBody_44 ?_
            refine lv_iconst (v := nI 1) hx hb dX6_readsBody_45 (by decide) ?_
            refine lv_icmp_ne (tgt := 51) hx hb dX6_readsBody_46 (by decide) (fun c_8 => ?_) (fun c_8 => ?_)
            · skip
              have hd : has x1 rv9_6 = false := Bool.eq_false_iff.mpr (fun q => c_8 ((at_shr (isA_nat hRA.2.1)).mpr q))
              have hs1 := skp_le (it := it) hpl
              refine lv_iload_n hx hb dX6_readsBody_51 rfl (lv_at hl 2 rfl) ?_
              refine lv_iconst (v := nI 1) hx hb dX6_readsBody_52 (by decide) ?_
              refine lv_iload_n hx hb dX6_readsBody_53 rfl (lv_at hl 0 rfl) ?_
              refine lv_ishl hx hb dX6_readsBody_54 ?_
              refine lv_ior hx hb dX6_readsBody_55 ?_
              refine lv_istore_n (lv' := [(1, .int (x1 ||| ((nI 1) <<< (rv9_6 &&& 31)))), (3, .int rv9_6), (0, .ref mo), (2, .int (nI k))]) hx hb dX6_readsBody_56 rfl hl (by decide) rfl (fun ls hl => ?_)
              refine lv_aload_n hx hb dX6_readsBody_57 rfl (lv_at hl 2 rfl) ?_
              refine ef_V (As := []) (rest := []) (wr := []) ⟨hx, hb, hml, hown, hts⟩ hG hP hD hS hA (k_X6_next l D cI cB mo qA qS sm qE qT tl qQ qd qF fm qC ap9_6 pl9_6 qH qB it htl hpl _) (cwV 0 hts gX6_readsBody_X6_next rfl rfl rfl (by decide +kernel) ⟨(Nat.le_of_ble_eq_true rfl), (Nat.le_of_ble_eq_true rfl)⟩) [0, 1] [] rfl rfl rfl rfl (by decide) 0 rfl rfl rfl rfl hl.1 rfl (Nat.le_of_ble_eq_true rfl) dX6_readsBody_58 ⟨(Nat.le_of_ble_eq_true rfl), (Nat.le_of_ble_eq_true rfl)⟩ (fun v_9 u_9 H locs w_9 hP hD hS => ?_)
              have w_9 : v_9 = some (.int (tc it tl (skp it tl ap9_6))) := w_9
              subst w_9
              have hP : va_P D vwCl [(mo, .inr (6, [.ref qA, .ref qS, .int (nI sm), .ref qE, .ref qT, .int (nI tl), .ref qQ, .int (nI qd), .ref qF, .int (nI fm), .ref qC, .int (nI (skp it tl ap9_6)), .int (nI (skp it tl ap9_6)), .ref qH, .ref qB])), (qT, .inl (cI, 120, .inl it))] H := hP.sub [0, 1] rfl
              have hD : va_D A [(mo, .inr (6, [.ref qA, .ref qS, .int (nI sm), .ref qE, .ref qT, .int (nI tl), .ref qQ, .int (nI qd), .ref qF, .int (nI fm), .ref qC, .int (nI (skp it tl ap9_6)), .int (nI (skp it tl ap9_6)), .ref qH, .ref qB])), (qT, .inl (cI, 120, .inl it))] := hD.sub [0, 1] rfl rfl
              refine W.eq (g2 := F0 m 61 ls [.int (tc it tl (skp it tl ap9_6))]) rfl ?_
              refine lv_istore (lv' := [(4, .int (tc it tl (skp it tl ap9_6))), (1, .int (x1 ||| ((nI 1) <<< (rv9_6 &&& 31)))), (3, .int rv9_6), (0, .ref mo), (2, .int (nI k))]) hx hb dX6_readsBody_61 hl (by decide) rfl (fun ls hl => ?_)
              refine lv_iload hx hb dX6_readsBody_63 (lv_at hl 0 rfl) ?_
              refine lv_bipush (v := nI 44) hx hb dX6_readsBody_65 (by decide) ?_
              refine lv_icmp_eq (tgt := 79) hx hb dX6_readsBody_67 (by decide) (fun c_10 => ?_) (fun c_10 => ?_)
              · skip
                have h44 : tc it tl (skp it tl ap9_6) = nI 44 := c_10
                have hl4 := tc_lt h44 (by decide)
                have h5 : ¬ tc it tl (skp it tl ap9_6) = nI 59 := by rw [h44]; decide
                refine lv_aload_n hx hb dX6_readsBody_79 rfl (lv_at hl 3 rfl) ?_
                refine lv_dup hx hb dX6_readsBody_80 rfl ?_
                refine va_get (D := D) (ci := 6) (v := .int (nI (skp it tl ap9_6))) (C := RX6) (T := TX6) (N := 15) hx hb hts ilX6_readsBody_6 hown hG.1 hP 0 rfl rfl 11 (by decide) (hts (.fieldLink RX6 138 "HornEngineModel" "at" "I") (List.mem_of_getElem? (i := 1) rfl)) (fun _ h9 => h9) rfl dX6_readsBody_81 ?_
                refine lv_iconst (v := nI 1) hx hb dX6_readsBody_84 (by decide) ?_
                refine lv_iadd hx hb dX6_readsBody_85 ?_
                refine lv_eqi (y := nI (skp it tl ap9_6 + 1)) (nI_add (skp it tl ap9_6) 1) ?_
                refine va_put (D := D) (ci := 6) (v := .int (nI (skp it tl ap9_6 + 1))) (ty := .int) (C := RX6) (T := TX6) (N := 15) hx hb hts ilX6_readsBody_6 tyX6 tyX6_ok nmX6 hown hG.1 hP hD hS 0 rfl rfl 11 (by decide) (hts (.fieldLink RX6 138 "HornEngineModel" "at" "I") (List.mem_of_getElem? (i := 1) rfl)) (fun _ h9 => h9) rfl (by decide +kernel) rfl rfl (Nat.le_of_ble_eq_true rfl) dX6_readsBody_86 (fun H locs hP hD hS => ?_)
                have hP : va_P D vwCl [(mo, .inr (6, [.ref qA, .ref qS, .int (nI sm), .ref qE, .ref qT, .int (nI tl), .ref qQ, .int (nI qd), .ref qF, .int (nI fm), .ref qC, .int (nI (skp it tl ap9_6 + 1)), .int (nI (skp it tl ap9_6)), .ref qH, .ref qB])), (qT, .inl (cI, 120, .inl it))] H := hP
                have hD : va_D A [(mo, .inr (6, [.ref qA, .ref qS, .int (nI sm), .ref qE, .ref qT, .int (nI tl), .ref qQ, .int (nI qd), .ref qF, .int (nI fm), .ref qC, .int (nI (skp it tl ap9_6 + 1)), .int (nI (skp it tl ap9_6)), .ref qH, .ref qB])), (qT, .inl (cI, 120, .inl it))] := hD
                refine lv_iload hx hb dX6_readsBody_89 (lv_at hl 0 rfl) ?_
                refine lv_bipush (v := nI 59) hx hb dX6_readsBody_91 (by decide) ?_
                refine lv_icmp_ne (tgt := 98) hx hb dX6_readsBody_93 (by decide) (fun c_11 => ?_) (fun c_11 => ?_)
                · skip
                  refine lv_iinc (v := nI (k + 1)) (lv' := [(2, .int (nI (k + 1))), (4, .int (tc it tl (skp it tl ap9_6))), (1, .int (x1 ||| ((nI 1) <<< (rv9_6 &&& 31)))), (3, .int rv9_6), (0, .ref mo)]) hx hb dX6_readsBody_98 hl (k := 4) rfl (nI_s1 k) (by decide) rfl (fun ls hl => ?_)
                  refine lv_goto (tgt := 25) hx hb dX6_readsBody_101 (by decide) ?_
                  exact ih_25 (k + 1) (x1 ||| ((nI 1) <<< (rv9_6 &&& 31))) (skp it tl ap9_6 + 1) (skp it tl ap9_6) (by omega) hl4 (by rw [← eB, show 4 - k = (4 - (k + 1)) + 1 from by omega, rdBL, hRA.1]; dsimp only; rw [if_neg (by rw [hd]; decide), if_pos h44]) (by omega) _ _ hP hD hS ls (lv_sub hl [4, 2, 0] rfl)
                · skip
                  exact absurd c_11 h5
              · skip
                have h44 : ¬ tc it tl (skp it tl ap9_6) = nI 44 := c_10
                refine lv_iload hx hb dX6_readsBody_70 (lv_at hl 0 rfl) ?_
                refine lv_bipush (v := nI 59) hx hb dX6_readsBody_72 (by decide) ?_
                refine lv_icmp_eq (tgt := 79) hx hb dX6_readsBody_74 (by decide) (fun c_12 => ?_) (fun c_12 => ?_)
                · skip
                  have h5 : tc it tl (skp it tl ap9_6) = nI 59 := c_12
                  have hl4 := tc_lt h5 (by decide)
                  refine lv_aload_n hx hb dX6_readsBody_79 rfl (lv_at hl 3 rfl) ?_
                  refine lv_dup hx hb dX6_readsBody_80 rfl ?_
                  refine va_get (D := D) (ci := 6) (v := .int (nI (skp it tl ap9_6))) (C := RX6) (T := TX6) (N := 15) hx hb hts ilX6_readsBody_6 hown hG.1 hP 0 rfl rfl 11 (by decide) (hts (.fieldLink RX6 138 "HornEngineModel" "at" "I") (List.mem_of_getElem? (i := 1) rfl)) (fun _ h9 => h9) rfl dX6_readsBody_81 ?_
                  refine lv_iconst (v := nI 1) hx hb dX6_readsBody_84 (by decide) ?_
                  refine lv_iadd hx hb dX6_readsBody_85 ?_
                  refine lv_eqi (y := nI (skp it tl ap9_6 + 1)) (nI_add (skp it tl ap9_6) 1) ?_
                  refine va_put (D := D) (ci := 6) (v := .int (nI (skp it tl ap9_6 + 1))) (ty := .int) (C := RX6) (T := TX6) (N := 15) hx hb hts ilX6_readsBody_6 tyX6 tyX6_ok nmX6 hown hG.1 hP hD hS 0 rfl rfl 11 (by decide) (hts (.fieldLink RX6 138 "HornEngineModel" "at" "I") (List.mem_of_getElem? (i := 1) rfl)) (fun _ h9 => h9) rfl (by decide +kernel) rfl rfl (Nat.le_of_ble_eq_true rfl) dX6_readsBody_86 (fun H locs hP hD hS => ?_)
                  have hP : va_P D vwCl [(mo, .inr (6, [.ref qA, .ref qS, .int (nI sm), .ref qE, .ref qT, .int (nI tl), .ref qQ, .int (nI qd), .ref qF, .int (nI fm), .ref qC, .int (nI (skp it tl ap9_6 + 1)), .int (nI (skp it tl ap9_6)), .ref qH, .ref qB])), (qT, .inl (cI, 120, .inl it))] H := hP
                  have hD : va_D A [(mo, .inr (6, [.ref qA, .ref qS, .int (nI sm), .ref qE, .ref qT, .int (nI tl), .ref qQ, .int (nI qd), .ref qF, .int (nI fm), .ref qC, .int (nI (skp it tl ap9_6 + 1)), .int (nI (skp it tl ap9_6)), .ref qH, .ref qB])), (qT, .inl (cI, 120, .inl it))] := hD
                  refine lv_iload hx hb dX6_readsBody_89 (lv_at hl 0 rfl) ?_
                  refine lv_bipush (v := nI 59) hx hb dX6_readsBody_91 (by decide) ?_
                  refine lv_icmp_ne (tgt := 98) hx hb dX6_readsBody_93 (by decide) (fun c_13 => ?_) (fun c_13 => ?_)
                  · skip
                    exact absurd h5 c_13
                  · skip
                    refine lv_iload_n hx hb dX6_readsBody_96 rfl (lv_at hl 1 rfl) ?_
                    exact hret _ (x1 ||| (nI 1 <<< (rv9_6 &&& 31)), skp it tl ap9_6 + 1, skp it tl ap9_6) _ _ _ _ (⟨rfl, by rw [← eB, show 4 - k = (4 - (k + 1)) + 1 from by omega, rdBL, hRA.1]; dsimp only; rw [if_neg (by rw [hd]; decide), if_neg h44]; dsimp only [rdK]; rw [skp_skp hpl, if_neg (fun z => z h5)]; exact ⟨rfl, rfl⟩, hl4⟩) (hP) (hD) hS dX6_readsBody_97
                · skip
                  have h5 : ¬ tc it tl (skp it tl ap9_6) = nI 59 := c_12
                  refine lv_iconst (v := (-1)) hx hb dX6_readsBody_77 (by decide) ?_
                  exact hret _ (-1, skp it tl ap9_6, skp it tl ap9_6) _ _ _ _ (⟨rfl, by rw [← eB, show 4 - k = (4 - (k + 1)) + 1 from by omega, rdBL, hRA.1]; dsimp only; rw [if_neg (by rw [hd]; decide), if_neg h44]; dsimp only [rdK]; rw [skp_skp hpl, if_pos h5]; exact ⟨rfl, rfl⟩, hs1⟩) (hP) (hD) hS dX6_readsBody_78
            · skip
              have hd : has x1 rv9_6 = true := (at_shr (isA_nat hRA.2.1)).mp c_8
              refine lv_iconst (v := (-1)) hx hb dX6_readsBody_49 (by decide) ?_
              exact hret _ (-1, ap9_6, pl9_6) _ _ _ _ (⟨rfl, by rw [← eB, show 4 - k = (4 - (k + 1)) + 1 from by omega, rdBL, hRA.1]; dsimp only; rw [if_pos hd]; exact ⟨rfl, hRA.2.2.2⟩, hpl⟩) (hP) (hD) hS dX6_readsBody_50
    exact lp_25_3 (4 - 0 + 1) 0 (nI 0) (skp it tl ap) (skp it tl ap) (by omega) hsk (by rw [skp_skp hap, rdC, rdB, if_neg h59]) (Nat.lt_succ_self _) _ _ hP hD hS ls (lv_sub hl [2, 1, 0] rfl)
  · skip
    have h59 : tc it tl (skp it tl ap) = nI 59 := c_2
    have hl5 := tc_lt h59 (by decide)
    refine lv_aload_n hx hb dX6_readsBody_11 rfl (lv_at hl 1 rfl) ?_
    refine lv_dup hx hb dX6_readsBody_12 rfl ?_
    refine va_get (D := D) (ci := 6) (v := .int (nI (skp it tl ap))) (C := RX6) (T := TX6) (N := 15) hx hb hts ilX6_readsBody_6 hown hG.1 hP 0 rfl rfl 11 (by decide) (hts (.fieldLink RX6 138 "HornEngineModel" "at" "I") (List.mem_of_getElem? (i := 1) rfl)) (fun _ h9 => h9) rfl dX6_readsBody_13 ?_
    refine lv_iconst (v := nI 1) hx hb dX6_readsBody_16 (by decide) ?_
    refine lv_iadd hx hb dX6_readsBody_17 ?_
    refine lv_eqi (y := nI (skp it tl ap + 1)) (nI_add (skp it tl ap) 1) ?_
    refine va_put (D := D) (ci := 6) (v := .int (nI (skp it tl ap + 1))) (ty := .int) (C := RX6) (T := TX6) (N := 15) hx hb hts ilX6_readsBody_6 tyX6 tyX6_ok nmX6 hown hG.1 hP hD hS 0 rfl rfl 11 (by decide) (hts (.fieldLink RX6 138 "HornEngineModel" "at" "I") (List.mem_of_getElem? (i := 1) rfl)) (fun _ h9 => h9) rfl (by decide +kernel) rfl rfl (Nat.le_of_ble_eq_true rfl) dX6_readsBody_18 (fun H locs hP hD hS => ?_)
    have hP : va_P D vwCl [(mo, .inr (6, [.ref qA, .ref qS, .int (nI sm), .ref qE, .ref qT, .int (nI tl), .ref qQ, .int (nI qd), .ref qF, .int (nI fm), .ref qC, .int (nI (skp it tl ap + 1)), .int (nI (skp it tl ap)), .ref qH, .ref qB])), (qT, .inl (cI, 120, .inl it))] H := hP
    have hD : va_D A [(mo, .inr (6, [.ref qA, .ref qS, .int (nI sm), .ref qE, .ref qT, .int (nI tl), .ref qQ, .int (nI qd), .ref qF, .int (nI fm), .ref qC, .int (nI (skp it tl ap + 1)), .int (nI (skp it tl ap)), .ref qH, .ref qB])), (qT, .inl (cI, 120, .inl it))] := hD
    refine lv_iload_n hx hb dX6_readsBody_21 rfl (lv_at hl 0 rfl) ?_
    exact hret _ (nI 0, skp it tl ap + 1, skp it tl ap) _ _ _ _ (⟨rfl, by rw [rdC, rdB, if_pos h59]; show rmB (if ¬ tc it tl (skp it tl (skp it tl ap)) = nI 59 then _ else _) _ _ _; rw [skp_skp hap, if_neg (fun z => z h59)]; exact ⟨rfl, rfl⟩, hl5⟩) (hP) (hD) hS dX6_readsBody_22
