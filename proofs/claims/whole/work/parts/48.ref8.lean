theorem ilX6_explanation_6 : ∀ w ∈ u_ws RX6 TX6 15, w ∈ wsX6_explanation := by decide +kernel
set_option maxHeartbeats 4000000 in
set_option maxRecDepth 100000 in
theorem k_X6_explanation (l : Launch) (D : va_G) (cI cB : ClassId) (mo : Nat) (qA : Nat) (qS : Nat) (sm : Nat) (qE : Nat) (qT : Nat) (tl : Nat) (qQ : Nat) (qd : Nat) (qF : Nat) (fm : Nat) (qC : Nat) (ap : Nat) (pl : Nat) (qH : Nat) (qB : Nat) (av : Nat → Int32) (hs : Nat → Int32) (bs : Nat → Int32) (n : Nat) (as_ : Int32) (er : Nat → Int32) (at_ : Int32) (ct : Nat) (hM : mA av hs bs n as_) (hn : n ≤ 24) (hH : hOK hs n) (hL : low16 as_) (hc8 : card as_ ≤ 8) (hct : ct = 2 ^ card as_) (sz : Nat) : Wr l yX6_explanation wsX6_explanation ({ frames := 2, cells := 0, slots := 0, locals := 46 }) D cI cB [.ref mo, .int at_] [(mo, .inr (6, [.ref qA, .ref qS, .int (nI sm), .ref qE, .ref qT, .int (nI tl), .ref qQ, .int (nI qd), .ref qF, .int (nI fm), .ref qC, .int (nI ap), .int (nI pl), .ref qH, .ref qB])), (qA, .inl (cI, 50, .inl av)), (qE, .inl (cI, 4, .inl er))] sz (S := Unit) (fun v u => v = some (.int (cond (isA at_) (if expS hs bs n as_ at_.toNatClampNeg ct = -1 then -3 else expS hs bs n as_ at_.toNatClampNeg ct) (-2)))) (fun u => [(mo, .inr (6, [.ref qA, .ref qS, .int (nI sm), .ref qE, .ref qT, .int (nI tl), .ref qQ, .int (nI qd), .ref qF, .int (nI fm), .ref qC, .int (nI ap), .int (nI pl), .ref qH, .ref qB])), (qA, .inl (cI, 50, .inl av)), (qE, .inl (cI, 4, .inl (cond (isA at_) (if expS hs bs n as_ at_.toNatClampNeg ct = -1 then bad er 1 else er) (bad er 0))))]) 0 0 := by
  refine ef_startI (cc := cX6_explanation) (maxL := 6) (by decide) rfl (Nat.le_of_ble_eq_true rfl) ?_
  intro p e s m args below meth c Q A hx hb hml hown hts hP hG hD hA hret ls hl
  have hown : s.vm.findClass RX6 = some m.cls := hown
  have hl : lv_has ls 6 [(0, .ref mo), (1, .int at_)] := hl
  have hS : va_S A s.heap s.heap [] := va_S.rf
  refine lv_iload_n hx hb dX6_explanation_0 rfl (lv_at hl 1 rfl) ?_
  refine pu_S (As := [.int at_]) (rest := []) ⟨hx, hb, hml, hown, hts⟩ hG hP (k_X6_isAtom l D cI cB at_ ) (cwS 1 hts gX6_explanation_X6_isAtom rfl rfl rfl (by decide +kernel) ⟨(Nat.le_of_ble_eq_true rfl), (Nat.le_of_ble_eq_true rfl)⟩) [] rfl rfl hl.1 rfl (Nat.le_of_ble_eq_true rfl) dX6_explanation_1 ⟨Nat.zero_le _, Nat.zero_le _⟩ ?_
  refine lv_if_ne (tgt := 14) hx hb dX6_explanation_4 (by decide) (fun c_1 => ?_) (fun c_1 => ?_)
  · skip
    have c_1 : (isA at_) = true := bI_t.mp c_1
    obtain ⟨a, ha, rfl⟩ := isA_nat c_1
    have hz : 0 < ct := by rw [hct]; exact Nat.two_pow_pos _
    refine lv_iconst (v := (-1)) hx hb dX6_explanation_14 (by decide) ?_
    refine lv_istore_n (lv' := [(2, .int (-1)), (0, .ref mo), (1, .int (nI a))]) hx hb dX6_explanation_15 rfl hl (by decide) rfl (fun ls hl => ?_)
    refine lv_iconst (v := nI 0) hx hb dX6_explanation_16 (by decide) ?_
    refine lv_istore_n (lv' := [(3, .int (nI 0)), (2, .int (-1)), (0, .ref mo), (1, .int (nI a))]) hx hb dX6_explanation_17 rfl hl (by decide) rfl (fun ls hl => ?_)
    refine lv_iconst (v := nI 1) hx hb dX6_explanation_18 (by decide) ?_
    refine lv_istore (lv' := [(4, .int (nI 1)), (3, .int (nI 0)), (2, .int (-1)), (0, .ref mo), (1, .int (nI a))]) hx hb dX6_explanation_19 hl (by decide) rfl (fun ls hl => ?_)
    have lp_21_2 : ∀ (fu_21 : Nat) (j : Nat) (x2 : Int32) (x3 : Int32) (fl : Nat) (hj : j ≤ ct) (hf1 : fl ≤ 1) (hf2 : fl = 1 → j < ct) (hf3 : fl = 0 → j = ct) (e2 : x2 = (exB hs bs n as_ a j).1) (e3 : x3 = (exB hs bs n as_ a j).2.2) (hfu_21 : ct - j < fu_21) (H : Heap) (locs : List Loc) (hP : va_P D vwCl [(mo, .inr (6, [.ref qA, .ref qS, .int (nI sm), .ref qE, .ref qT, .int (nI tl), .ref qQ, .int (nI qd), .ref qF, .int (nI fm), .ref qC, .int (nI ap), .int (nI pl), .ref qH, .ref qB])), (qA, .inl (cI, 50, .inl av)), (qE, .inl (cI, 4, .inl er))] H) (hD : va_D A [(mo, .inr (6, [.ref qA, .ref qS, .int (nI sm), .ref qE, .ref qT, .int (nI tl), .ref qQ, .int (nI qd), .ref qF, .int (nI fm), .ref qC, .int (nI ap), .int (nI pl), .ref qH, .ref qB])), (qA, .inl (cI, 50, .inl av)), (qE, .inl (cI, 4, .inl er))]) (hS : va_S A s.heap H locs) (ls : Array Slot) (hl : lv_has ls 6 [(0, .ref mo), (1, .int (nI a)), (2, .int x2), (3, .int x3), (4, .int (nI fl))]), W p l e ({ frames := 2, cells := 0, slots := 0, locals := 46 }) s m args below meth c H locs 0 0 Q (F0 m 21 ls []) := by
      intro fu_21
      induction fu_21 with
      | zero => intro j x2 x3 fl hj hf1 hf2 hf3 e2 e3 hfu; exact absurd hfu (Nat.not_lt_zero _)
      | succ fu_21 ih_21 =>
        intro j x2 x3 fl hj hf1 hf2 hf3 e2 e3 hfu_21 H locs hP hD hS ls hl
        refine lv_iload hx hb dX6_explanation_21 (lv_at hl 4 rfl) ?_
        refine lv_if_eq (tgt := 113) hx hb dX6_explanation_23 (by decide) (fun c_3 => ?_) (fun c_3 => ?_)
        · skip
          have c_3 : fl = 0 := (nI_eq (by omega) (by omega)).mp (show nI fl = nI 0 from c_3)
          have hX : expS hs bs n as_ a ct = x2 := by rw [e2, hf3 c_3]; rfl
          refine lv_iload_n hx hb dX6_explanation_113 rfl (lv_at hl 2 rfl) ?_
          refine lv_iconst (v := (-1)) hx hb dX6_explanation_114 (by decide) ?_
          refine lv_icmp_ne (tgt := 127) hx hb dX6_explanation_115 (by decide) (fun c_4 => ?_) (fun c_4 => ?_)
          · skip
            have hq := c_4
            refine lv_iload_n hx hb dX6_explanation_127 rfl (lv_at hl 2 rfl) ?_
            exact hret _ () _ _ _ _ (by rw [isA_of ha, nI_clamp (by omega), hX, if_neg hq]; rfl) (by rw [isA_of ha, nI_clamp (by omega), hX, if_neg hq]; exact hP) (by rw [isA_of ha, nI_clamp (by omega), hX, if_neg hq]; exact hD) hS dX6_explanation_128
          · skip
            have hq : x2 = -1 := c_4
            refine lv_aload_n hx hb dX6_explanation_118 rfl (lv_at hl 0 rfl) ?_
            refine lv_bipush (v := (-3)) hx hb dX6_explanation_119 (by decide) ?_
            refine ef_V (As := [.int (-3)]) (rest := []) (wr := [(qA, .inl (cI, 50, .inl av))]) ⟨hx, hb, hml, hown, hts⟩ hG hP hD hS hA (k_X6_error l D cI cB mo qA qS sm qE qT tl qQ qd qF fm qC ap pl qH qB er (-3) 1 (by decide) (by decide) _) (cwV 1 hts gX6_explanation_X6_error rfl rfl rfl (by decide +kernel) ⟨(Nat.le_of_ble_eq_true rfl), (Nat.le_of_ble_eq_true rfl)⟩) [0, 2] [1] rfl rfl rfl rfl (by decide) 0 rfl rfl rfl rfl hl.1 rfl (Nat.le_of_ble_eq_true rfl) dX6_explanation_121 ⟨(Nat.le_of_ble_eq_true rfl), (Nat.le_of_ble_eq_true rfl)⟩ (fun v_5 u_5 H locs w_5 hP hD hS => ?_)
            have w_5 : v_5 = some (.int (-3)) := w_5
            subst w_5
            have hP : va_P D vwCl [(mo, .inr (6, [.ref qA, .ref qS, .int (nI sm), .ref qE, .ref qT, .int (nI tl), .ref qQ, .int (nI qd), .ref qF, .int (nI fm), .ref qC, .int (nI ap), .int (nI pl), .ref qH, .ref qB])), (qA, .inl (cI, 50, .inl av)), (qE, .inl (cI, 4, .inl (bad er 1)))] H := hP.sub [1, 0, 2] rfl
            have hD : va_D A [(mo, .inr (6, [.ref qA, .ref qS, .int (nI sm), .ref qE, .ref qT, .int (nI tl), .ref qQ, .int (nI qd), .ref qF, .int (nI fm), .ref qC, .int (nI ap), .int (nI pl), .ref qH, .ref qB])), (qA, .inl (cI, 50, .inl av)), (qE, .inl (cI, 4, .inl (bad er 1)))] := hD.sub [1, 0, 2] rfl rfl
            refine W.eq (g2 := F0 m 124 ls [.int (-3)]) rfl ?_
            refine lv_goto (tgt := 128) hx hb dX6_explanation_124 (by decide) ?_
            exact hret _ () _ _ _ _ (by rw [isA_of ha, nI_clamp (by omega), hX, if_pos hq]; rfl) (by rw [isA_of ha, nI_clamp (by omega), hX, if_pos hq]; exact hP) (by rw [isA_of ha, nI_clamp (by omega), hX, if_pos hq]; exact hD) hS dX6_explanation_128
        · skip
          have c_3 : ¬ (fl = 0) := fun h9 => (show ¬ (nI fl = nI 0) from c_3) ((nI_eq (by omega) (by omega)).mpr h9)
          have hjl : j < ct := by omega
          refine lv_iload_n hx hb dX6_explanation_26 rfl (lv_at hl 2 rfl) ?_
          refine lv_iconst (v := (-1)) hx hb dX6_explanation_27 (by decide) ?_
          refine lv_icmp_eq (tgt := 42) hx hb dX6_explanation_28 (by decide) (fun c_6 => ?_) (fun c_6 => ?_)
          · skip
            have hsh := ex_m hL hc8 e2 c_6
            refine lv_iconst (v := nI 1) hx hb dX6_explanation_42 (by decide) ?_
            refine lv_goto (tgt := 47) hx hb dX6_explanation_43 (by decide) ?_
            refine lv_istore (lv' := [(5, .int (nI 1)), (0, .ref mo), (1, .int (nI a)), (2, .int x2), (3, .int x3), (4, .int (nI fl))]) hx hb dX6_explanation_47 hl (by decide) rfl (fun ls hl => ?_)
            refine lv_iload hx hb dX6_explanation_49 (lv_at hl 0 rfl) ?_
            refine lv_if_eq (tgt := 75) hx hb dX6_explanation_51 (by decide) (fun c_7 => absurd c_7 (by decide)) (fun _ => ?_)
            refine lv_aload_n hx hb dX6_explanation_54 rfl (lv_at hl 1 rfl) ?_
            refine lv_aload_n hx hb dX6_explanation_55 rfl (lv_at hl 1 rfl) ?_
            refine pu_V (As := []) (rest := [.ref mo]) ⟨hx, hb, hml, hown, hts⟩ hG hP (k_X6_everyRule l D cI cB mo qA qS sm qE qT tl qQ qd qF fm qC ap pl qH qB av hs bs n as_ hM hn) (cwV 0 hts gX6_explanation_X6_everyRule rfl rfl rfl (by decide +kernel) ⟨(Nat.le_of_ble_eq_true rfl), (Nat.le_of_ble_eq_true rfl)⟩) [0, 1] rfl 0 rfl rfl rfl rfl hl.1 rfl (Nat.le_of_ble_eq_true rfl) dX6_explanation_56 ⟨Nat.zero_le _, Nat.zero_le _⟩ ?_
            refine lv_iload_n hx hb dX6_explanation_59 rfl (lv_at hl 4 rfl) ?_
            refine pu_V (As := [.int (evr n), .int x3]) (rest := []) ⟨hx, hb, hml, hown, hts⟩ hG hP (k_X6_modelOf l D cI cB mo qA qS sm qE qT tl qQ qd qF fm qC ap pl qH qB av hs bs n as_ (evr n) x3 hM hn hH (by rw [e3, exB_en]; exact enJ_low hL j)) (cwV 2 hts gX6_explanation_X6_modelOf rfl rfl rfl (by decide +kernel) ⟨(Nat.le_of_ble_eq_true rfl), (Nat.le_of_ble_eq_true rfl)⟩) [0, 1] rfl 0 rfl rfl rfl rfl hl.1 rfl (Nat.le_of_ble_eq_true rfl) dX6_explanation_60 ⟨Nat.zero_le _, Nat.zero_le _⟩ ?_
            refine lv_iload_n hx hb dX6_explanation_63 rfl (lv_at hl 2 rfl) ?_
            refine lv_ishr hx hb dX6_explanation_64 ?_
            refine lv_iconst (v := nI 1) hx hb dX6_explanation_65 (by decide) ?_
            refine lv_iand hx hb dX6_explanation_66 ?_
            refine lv_iconst (v := nI 1) hx hb dX6_explanation_67 (by decide) ?_
            refine lv_icmp_ne (tgt := 75) hx hb dX6_explanation_68 (by decide) (fun c_8 => ?_) (fun c_8 => ?_)
            · skip
              have hm : has (clo hs bs n (evr n) x3) (nI a) = false := Bool.eq_false_iff.mpr (fun q => c_8 ((shr_1 (by omega)).mpr q))
              refine lv_iload_n hx hb dX6_explanation_75 rfl (lv_at hl 3 rfl) ?_
              refine lv_istore_n (lv' := [(2, .int x2), (5, .int (nI 1)), (0, .ref mo), (1, .int (nI a)), (3, .int x3), (4, .int (nI fl))]) hx hb dX6_explanation_76 rfl hl (by decide) rfl (fun ls hl => ?_)
              refine lv_iload_n hx hb dX6_explanation_77 rfl (lv_at hl 4 rfl) ?_
              refine lv_aload_n hx hb dX6_explanation_78 rfl (lv_at hl 2 rfl) ?_
              refine va_get (D := D) (ci := 6) (v := .ref qA) (C := RX6) (T := TX6) (N := 15) hx hb hts ilX6_explanation_6 hown hG.1 hP 0 rfl rfl 0 (by decide) (hts (.fieldLink RX6 7 "HornEngineModel" "all" "[I") (List.mem_of_getElem? (i := 1) rfl)) (fun _ h9 => h9) rfl dX6_explanation_79 ?_
              refine lv_iconst (v := nI 1) hx hb dX6_explanation_82 (by decide) ?_
              refine ia_ld hx hb hG hP 1 rfl 1 rfl (by omega) (by decide) dX6_explanation_83 ?_
              refine lv_eqi (y := as_) hM.2.1 ?_
              refine lv_icmp_eq (tgt := 91) hx hb dX6_explanation_84 (by decide) (fun c_9 => ?_) (fun c_9 => ?_)
              · skip
                have hla : j + 1 = ct := by rw [hct]; exact (en_last hL (by rw [← hct]; exact hjl)).mp (by rw [← exB_en hs bs n as_ a j, ← e3]; exact c_9)
                refine lv_iconst (v := nI 0) hx hb dX6_explanation_91 (by decide) ?_
                refine lv_istore (lv' := [(4, .int (nI 0)), (2, .int x2), (5, .int (nI 1)), (0, .ref mo), (1, .int (nI a)), (3, .int x3)]) hx hb dX6_explanation_92 hl (by decide) rfl (fun ls hl => ?_)
                refine lv_iload_n hx hb dX6_explanation_94 rfl (lv_at hl 5 rfl) ?_
                refine lv_aload_n hx hb dX6_explanation_95 rfl (lv_at hl 3 rfl) ?_
                refine va_get (D := D) (ci := 6) (v := .ref qA) (C := RX6) (T := TX6) (N := 15) hx hb hts ilX6_explanation_6 hown hG.1 hP 0 rfl rfl 0 (by decide) (hts (.fieldLink RX6 7 "HornEngineModel" "all" "[I") (List.mem_of_getElem? (i := 1) rfl)) (fun _ h9 => h9) rfl dX6_explanation_96 ?_
                refine lv_iconst (v := nI 1) hx hb dX6_explanation_99 (by decide) ?_
                refine ia_ld hx hb hG hP 1 rfl 1 rfl (by omega) (by decide) dX6_explanation_100 ?_
                refine lv_eqi (y := as_) hM.2.1 ?_
                refine lv_isub hx hb dX6_explanation_101 ?_
                refine lv_aload_n hx hb dX6_explanation_102 rfl (lv_at hl 3 rfl) ?_
                refine va_get (D := D) (ci := 6) (v := .ref qA) (C := RX6) (T := TX6) (N := 15) hx hb hts ilX6_explanation_6 hown hG.1 hP 0 rfl rfl 0 (by decide) (hts (.fieldLink RX6 7 "HornEngineModel" "all" "[I") (List.mem_of_getElem? (i := 1) rfl)) (fun _ h9 => h9) rfl dX6_explanation_103 ?_
                refine lv_iconst (v := nI 1) hx hb dX6_explanation_106 (by decide) ?_
                refine ia_ld hx hb hG hP 1 rfl 1 rfl (by omega) (by decide) dX6_explanation_107 ?_
                refine lv_eqi (y := as_) hM.2.1 ?_
                refine lv_iand hx hb dX6_explanation_108 ?_
                refine lv_istore_n (lv' := [(3, .int ((x3 - as_) &&& as_)), (4, .int (nI 0)), (2, .int x2), (5, .int (nI 1)), (0, .ref mo), (1, .int (nI a))]) hx hb dX6_explanation_109 rfl hl (by decide) rfl (fun ls hl => ?_)
                refine lv_goto (tgt := 21) hx hb dX6_explanation_110 (by decide) ?_
                exact ih_21 (j + 1) x2 ((x3 - as_) &&& as_) 0 (by omega) (by omega) (by omega) (by omega) (by rw [exB_neg (fun q => absurd q.2 (by rw [← e3, hm]; decide))]; exact e2) (by rw [exB_en, enJ, ← exB_en hs bs n as_ a j, ← e3]) (by omega) _ _ hP hD hS ls (lv_sub hl [4, 5, 2, 0, 1] rfl)
              · skip
                have hnl : j + 1 < ct := by have h9 : ¬ j + 1 = ct := fun q => c_9 (by rw [e3, exB_en]; exact (en_last hL (by rw [← hct]; exact hjl)).mpr (by rw [← hct]; exact q)); omega
                refine lv_iconst (v := nI 1) hx hb dX6_explanation_87 (by decide) ?_
                refine lv_goto (tgt := 92) hx hb dX6_explanation_88 (by decide) ?_
                refine lv_istore (lv' := [(4, .int (nI 1)), (2, .int x2), (5, .int (nI 1)), (0, .ref mo), (1, .int (nI a)), (3, .int x3)]) hx hb dX6_explanation_92 hl (by decide) rfl (fun ls hl => ?_)
                refine lv_iload_n hx hb dX6_explanation_94 rfl (lv_at hl 5 rfl) ?_
                refine lv_aload_n hx hb dX6_explanation_95 rfl (lv_at hl 3 rfl) ?_
                refine va_get (D := D) (ci := 6) (v := .ref qA) (C := RX6) (T := TX6) (N := 15) hx hb hts ilX6_explanation_6 hown hG.1 hP 0 rfl rfl 0 (by decide) (hts (.fieldLink RX6 7 "HornEngineModel" "all" "[I") (List.mem_of_getElem? (i := 1) rfl)) (fun _ h9 => h9) rfl dX6_explanation_96 ?_
                refine lv_iconst (v := nI 1) hx hb dX6_explanation_99 (by decide) ?_
                refine ia_ld hx hb hG hP 1 rfl 1 rfl (by omega) (by decide) dX6_explanation_100 ?_
                refine lv_eqi (y := as_) hM.2.1 ?_
                refine lv_isub hx hb dX6_explanation_101 ?_
                refine lv_aload_n hx hb dX6_explanation_102 rfl (lv_at hl 3 rfl) ?_
                refine va_get (D := D) (ci := 6) (v := .ref qA) (C := RX6) (T := TX6) (N := 15) hx hb hts ilX6_explanation_6 hown hG.1 hP 0 rfl rfl 0 (by decide) (hts (.fieldLink RX6 7 "HornEngineModel" "all" "[I") (List.mem_of_getElem? (i := 1) rfl)) (fun _ h9 => h9) rfl dX6_explanation_103 ?_
                refine lv_iconst (v := nI 1) hx hb dX6_explanation_106 (by decide) ?_
                refine ia_ld hx hb hG hP 1 rfl 1 rfl (by omega) (by decide) dX6_explanation_107 ?_
                refine lv_eqi (y := as_) hM.2.1 ?_
                refine lv_iand hx hb dX6_explanation_108 ?_
                refine lv_istore_n (lv' := [(3, .int ((x3 - as_) &&& as_)), (4, .int (nI 1)), (2, .int x2), (5, .int (nI 1)), (0, .ref mo), (1, .int (nI a))]) hx hb dX6_explanation_109 rfl hl (by decide) rfl (fun ls hl => ?_)
                refine lv_goto (tgt := 21) hx hb dX6_explanation_110 (by decide) ?_
                exact ih_21 (j + 1) x2 ((x3 - as_) &&& as_) 1 (by omega) (by omega) (by omega) (by omega) (by rw [exB_neg (fun q => absurd q.2 (by rw [← e3, hm]; decide))]; exact e2) (by rw [exB_en, enJ, ← exB_en hs bs n as_ a j, ← e3]) (by omega) _ _ hP hD hS ls (lv_sub hl [4, 5, 2, 0, 1] rfl)
            · skip
              have hm : has (clo hs bs n (evr n) x3) (nI a) = true := (shr_1 (by omega)).mp c_8
              refine lv_iload_n hx hb dX6_explanation_71 rfl (lv_at hl 4 rfl) ?_
              refine lv_goto (tgt := 76) hx hb dX6_explanation_72 (by decide) ?_
              refine lv_istore_n (lv' := [(2, .int x3), (5, .int (nI 1)), (0, .ref mo), (1, .int (nI a)), (3, .int x3), (4, .int (nI fl))]) hx hb dX6_explanation_76 rfl hl (by decide) rfl (fun ls hl => ?_)
              refine lv_iload_n hx hb dX6_explanation_77 rfl (lv_at hl 4 rfl) ?_
              refine lv_aload_n hx hb dX6_explanation_78 rfl (lv_at hl 2 rfl) ?_
              refine va_get (D := D) (ci := 6) (v := .ref qA) (C := RX6) (T := TX6) (N := 15) hx hb hts ilX6_explanation_6 hown hG.1 hP 0 rfl rfl 0 (by decide) (hts (.fieldLink RX6 7 "HornEngineModel" "all" "[I") (List.mem_of_getElem? (i := 1) rfl)) (fun _ h9 => h9) rfl dX6_explanation_79 ?_
              refine lv_iconst (v := nI 1) hx hb dX6_explanation_82 (by decide) ?_
              refine ia_ld hx hb hG hP 1 rfl 1 rfl (by omega) (by decide) dX6_explanation_83 ?_
              refine lv_eqi (y := as_) hM.2.1 ?_
              refine lv_icmp_eq (tgt := 91) hx hb dX6_explanation_84 (by decide) (fun c_10 => ?_) (fun c_10 => ?_)
              · skip
                have hla : j + 1 = ct := by rw [hct]; exact (en_last hL (by rw [← hct]; exact hjl)).mp (by rw [← exB_en hs bs n as_ a j, ← e3]; exact c_10)
                refine lv_iconst (v := nI 0) hx hb dX6_explanation_91 (by decide) ?_
                refine lv_istore (lv' := [(4, .int (nI 0)), (2, .int x3), (5, .int (nI 1)), (0, .ref mo), (1, .int (nI a)), (3, .int x3)]) hx hb dX6_explanation_92 hl (by decide) rfl (fun ls hl => ?_)
                refine lv_iload_n hx hb dX6_explanation_94 rfl (lv_at hl 5 rfl) ?_
                refine lv_aload_n hx hb dX6_explanation_95 rfl (lv_at hl 3 rfl) ?_
                refine va_get (D := D) (ci := 6) (v := .ref qA) (C := RX6) (T := TX6) (N := 15) hx hb hts ilX6_explanation_6 hown hG.1 hP 0 rfl rfl 0 (by decide) (hts (.fieldLink RX6 7 "HornEngineModel" "all" "[I") (List.mem_of_getElem? (i := 1) rfl)) (fun _ h9 => h9) rfl dX6_explanation_96 ?_
                refine lv_iconst (v := nI 1) hx hb dX6_explanation_99 (by decide) ?_
                refine ia_ld hx hb hG hP 1 rfl 1 rfl (by omega) (by decide) dX6_explanation_100 ?_
                refine lv_eqi (y := as_) hM.2.1 ?_
                refine lv_isub hx hb dX6_explanation_101 ?_
                refine lv_aload_n hx hb dX6_explanation_102 rfl (lv_at hl 3 rfl) ?_
                refine va_get (D := D) (ci := 6) (v := .ref qA) (C := RX6) (T := TX6) (N := 15) hx hb hts ilX6_explanation_6 hown hG.1 hP 0 rfl rfl 0 (by decide) (hts (.fieldLink RX6 7 "HornEngineModel" "all" "[I") (List.mem_of_getElem? (i := 1) rfl)) (fun _ h9 => h9) rfl dX6_explanation_103 ?_
                refine lv_iconst (v := nI 1) hx hb dX6_explanation_106 (by decide) ?_
                refine ia_ld hx hb hG hP 1 rfl 1 rfl (by omega) (by decide) dX6_explanation_107 ?_
                refine lv_eqi (y := as_) hM.2.1 ?_
                refine lv_iand hx hb dX6_explanation_108 ?_
                refine lv_istore_n (lv' := [(3, .int ((x3 - as_) &&& as_)), (4, .int (nI 0)), (2, .int x3), (5, .int (nI 1)), (0, .ref mo), (1, .int (nI a))]) hx hb dX6_explanation_109 rfl hl (by decide) rfl (fun ls hl => ?_)
                refine lv_goto (tgt := 21) hx hb dX6_explanation_110 (by decide) ?_
                exact ih_21 (j + 1) x3 ((x3 - as_) &&& as_) 0 (by omega) (by omega) (by omega) (by omega) (by rw [exB_pos ⟨hsh, by rw [← e3]; exact hm⟩]; exact e3) (by rw [exB_en, enJ, ← exB_en hs bs n as_ a j, ← e3]) (by omega) _ _ hP hD hS ls (lv_sub hl [4, 5, 2, 0, 1] rfl)
              · skip
                have hnl : j + 1 < ct := by have h9 : ¬ j + 1 = ct := fun q => c_10 (by rw [e3, exB_en]; exact (en_last hL (by rw [← hct]; exact hjl)).mpr (by rw [← hct]; exact q)); omega
                refine lv_iconst (v := nI 1) hx hb dX6_explanation_87 (by decide) ?_
                refine lv_goto (tgt := 92) hx hb dX6_explanation_88 (by decide) ?_
                refine lv_istore (lv' := [(4, .int (nI 1)), (2, .int x3), (5, .int (nI 1)), (0, .ref mo), (1, .int (nI a)), (3, .int x3)]) hx hb dX6_explanation_92 hl (by decide) rfl (fun ls hl => ?_)
                refine lv_iload_n hx hb dX6_explanation_94 rfl (lv_at hl 5 rfl) ?_
                refine lv_aload_n hx hb dX6_explanation_95 rfl (lv_at hl 3 rfl) ?_
                refine va_get (D := D) (ci := 6) (v := .ref qA) (C := RX6) (T := TX6) (N := 15) hx hb hts ilX6_explanation_6 hown hG.1 hP 0 rfl rfl 0 (by decide) (hts (.fieldLink RX6 7 "HornEngineModel" "all" "[I") (List.mem_of_getElem? (i := 1) rfl)) (fun _ h9 => h9) rfl dX6_explanation_96 ?_
                refine lv_iconst (v := nI 1) hx hb dX6_explanation_99 (by decide) ?_
                refine ia_ld hx hb hG hP 1 rfl 1 rfl (by omega) (by decide) dX6_explanation_100 ?_
                refine lv_eqi (y := as_) hM.2.1 ?_
                refine lv_isub hx hb dX6_explanation_101 ?_
                refine lv_aload_n hx hb dX6_explanation_102 rfl (lv_at hl 3 rfl) ?_
                refine va_get (D := D) (ci := 6) (v := .ref qA) (C := RX6) (T := TX6) (N := 15) hx hb hts ilX6_explanation_6 hown hG.1 hP 0 rfl rfl 0 (by decide) (hts (.fieldLink RX6 7 "HornEngineModel" "all" "[I") (List.mem_of_getElem? (i := 1) rfl)) (fun _ h9 => h9) rfl dX6_explanation_103 ?_
                refine lv_iconst (v := nI 1) hx hb dX6_explanation_106 (by decide) ?_
                refine ia_ld hx hb hG hP 1 rfl 1 rfl (by omega) (by decide) dX6_explanation_107 ?_
                refine lv_eqi (y := as_) hM.2.1 ?_
                refine lv_iand hx hb dX6_explanation_108 ?_
                refine lv_istore_n (lv' := [(3, .int ((x3 - as_) &&& as_)), (4, .int (nI 1)), (2, .int x3), (5, .int (nI 1)), (0, .ref mo), (1, .int (nI a))]) hx hb dX6_explanation_109 rfl hl (by decide) rfl (fun ls hl => ?_)
                refine lv_goto (tgt := 21) hx hb dX6_explanation_110 (by decide) ?_
                exact ih_21 (j + 1) x3 ((x3 - as_) &&& as_) 1 (by omega) (by omega) (by omega) (by omega) (by rw [exB_pos ⟨hsh, by rw [← e3]; exact hm⟩]; exact e3) (by rw [exB_en, enJ, ← exB_en hs bs n as_ a j, ← e3]) (by omega) _ _ hP hD hS ls (lv_sub hl [4, 5, 2, 0, 1] rfl)
          · skip
            have hn1 := c_6
            refine lv_iload_n hx hb dX6_explanation_31 rfl (lv_at hl 3 rfl) ?_
            refine pu_S (As := [.int x3]) (rest := []) ⟨hx, hb, hml, hown, hts⟩ hG hP (k_X6_size l D cI cB x3 ) (cwS 1 hts gX6_explanation_X6_size rfl rfl rfl (by decide +kernel) ⟨(Nat.le_of_ble_eq_true rfl), (Nat.le_of_ble_eq_true rfl)⟩) [] rfl rfl hl.1 rfl (Nat.le_of_ble_eq_true rfl) dX6_explanation_32 ⟨Nat.zero_le _, Nat.zero_le _⟩ ?_
            refine lv_iload_n hx hb dX6_explanation_35 rfl (lv_at hl 2 rfl) ?_
            refine pu_S (As := [.int x2]) (rest := [.int (szF x3 16)]) ⟨hx, hb, hml, hown, hts⟩ hG hP (k_X6_size l D cI cB x2 ) (cwS 1 hts gX6_explanation_X6_size rfl rfl rfl (by decide +kernel) ⟨(Nat.le_of_ble_eq_true rfl), (Nat.le_of_ble_eq_true rfl)⟩) [] rfl rfl hl.1 rfl (Nat.le_of_ble_eq_true rfl) dX6_explanation_36 ⟨Nat.zero_le _, Nat.zero_le _⟩ ?_
            refine lv_icmp_ge (tgt := 46) hx hb dX6_explanation_39 (by decide) (fun c_11 => ?_) (fun c_11 => ?_)
            · skip
              have hns := ex_n hL hc8 e2 e3 hn1 c_11
              refine lv_iconst (v := nI 0) hx hb dX6_explanation_46 (by decide) ?_
              refine lv_istore (lv' := [(5, .int (nI 0)), (0, .ref mo), (1, .int (nI a)), (2, .int x2), (3, .int x3), (4, .int (nI fl))]) hx hb dX6_explanation_47 hl (by decide) rfl (fun ls hl => ?_)
              refine lv_iload hx hb dX6_explanation_49 (lv_at hl 0 rfl) ?_
              refine lv_if_eq (tgt := 75) hx hb dX6_explanation_51 (by decide) (fun _ => ?_) (fun c_12 => absurd (by decide) c_12)
              refine lv_iload_n hx hb dX6_explanation_75 rfl (lv_at hl 3 rfl) ?_
              refine lv_istore_n (lv' := [(2, .int x2), (5, .int (nI 0)), (0, .ref mo), (1, .int (nI a)), (3, .int x3), (4, .int (nI fl))]) hx hb dX6_explanation_76 rfl hl (by decide) rfl (fun ls hl => ?_)
              refine lv_iload_n hx hb dX6_explanation_77 rfl (lv_at hl 4 rfl) ?_
              refine lv_aload_n hx hb dX6_explanation_78 rfl (lv_at hl 2 rfl) ?_
              refine va_get (D := D) (ci := 6) (v := .ref qA) (C := RX6) (T := TX6) (N := 15) hx hb hts ilX6_explanation_6 hown hG.1 hP 0 rfl rfl 0 (by decide) (hts (.fieldLink RX6 7 "HornEngineModel" "all" "[I") (List.mem_of_getElem? (i := 1) rfl)) (fun _ h9 => h9) rfl dX6_explanation_79 ?_
              refine lv_iconst (v := nI 1) hx hb dX6_explanation_82 (by decide) ?_
              refine ia_ld hx hb hG hP 1 rfl 1 rfl (by omega) (by decide) dX6_explanation_83 ?_
              refine lv_eqi (y := as_) hM.2.1 ?_
              refine lv_icmp_eq (tgt := 91) hx hb dX6_explanation_84 (by decide) (fun c_13 => ?_) (fun c_13 => ?_)
              · skip
                have hla : j + 1 = ct := by rw [hct]; exact (en_last hL (by rw [← hct]; exact hjl)).mp (by rw [← exB_en hs bs n as_ a j, ← e3]; exact c_13)
                refine lv_iconst (v := nI 0) hx hb dX6_explanation_91 (by decide) ?_
                refine lv_istore (lv' := [(4, .int (nI 0)), (2, .int x2), (5, .int (nI 0)), (0, .ref mo), (1, .int (nI a)), (3, .int x3)]) hx hb dX6_explanation_92 hl (by decide) rfl (fun ls hl => ?_)
                refine lv_iload_n hx hb dX6_explanation_94 rfl (lv_at hl 5 rfl) ?_
                refine lv_aload_n hx hb dX6_explanation_95 rfl (lv_at hl 3 rfl) ?_
                refine va_get (D := D) (ci := 6) (v := .ref qA) (C := RX6) (T := TX6) (N := 15) hx hb hts ilX6_explanation_6 hown hG.1 hP 0 rfl rfl 0 (by decide) (hts (.fieldLink RX6 7 "HornEngineModel" "all" "[I") (List.mem_of_getElem? (i := 1) rfl)) (fun _ h9 => h9) rfl dX6_explanation_96 ?_
                refine lv_iconst (v := nI 1) hx hb dX6_explanation_99 (by decide) ?_
                refine ia_ld hx hb hG hP 1 rfl 1 rfl (by omega) (by decide) dX6_explanation_100 ?_
                refine lv_eqi (y := as_) hM.2.1 ?_
                refine lv_isub hx hb dX6_explanation_101 ?_
                refine lv_aload_n hx hb dX6_explanation_102 rfl (lv_at hl 3 rfl) ?_
                refine va_get (D := D) (ci := 6) (v := .ref qA) (C := RX6) (T := TX6) (N := 15) hx hb hts ilX6_explanation_6 hown hG.1 hP 0 rfl rfl 0 (by decide) (hts (.fieldLink RX6 7 "HornEngineModel" "all" "[I") (List.mem_of_getElem? (i := 1) rfl)) (fun _ h9 => h9) rfl dX6_explanation_103 ?_
                refine lv_iconst (v := nI 1) hx hb dX6_explanation_106 (by decide) ?_
                refine ia_ld hx hb hG hP 1 rfl 1 rfl (by omega) (by decide) dX6_explanation_107 ?_
                refine lv_eqi (y := as_) hM.2.1 ?_
                refine lv_iand hx hb dX6_explanation_108 ?_
                refine lv_istore_n (lv' := [(3, .int ((x3 - as_) &&& as_)), (4, .int (nI 0)), (2, .int x2), (5, .int (nI 0)), (0, .ref mo), (1, .int (nI a))]) hx hb dX6_explanation_109 rfl hl (by decide) rfl (fun ls hl => ?_)
                refine lv_goto (tgt := 21) hx hb dX6_explanation_110 (by decide) ?_
                exact ih_21 (j + 1) x2 ((x3 - as_) &&& as_) 0 (by omega) (by omega) (by omega) (by omega) (by rw [exB_neg (fun q => hns q.1)]; exact e2) (by rw [exB_en, enJ, ← exB_en hs bs n as_ a j, ← e3]) (by omega) _ _ hP hD hS ls (lv_sub hl [4, 5, 2, 0, 1] rfl)
              · skip
                have hnl : j + 1 < ct := by have h9 : ¬ j + 1 = ct := fun q => c_13 (by rw [e3, exB_en]; exact (en_last hL (by rw [← hct]; exact hjl)).mpr (by rw [← hct]; exact q)); omega
                refine lv_iconst (v := nI 1) hx hb dX6_explanation_87 (by decide) ?_
                refine lv_goto (tgt := 92) hx hb dX6_explanation_88 (by decide) ?_
                refine lv_istore (lv' := [(4, .int (nI 1)), (2, .int x2), (5, .int (nI 0)), (0, .ref mo), (1, .int (nI a)), (3, .int x3)]) hx hb dX6_explanation_92 hl (by decide) rfl (fun ls hl => ?_)
                refine lv_iload_n hx hb dX6_explanation_94 rfl (lv_at hl 5 rfl) ?_
                refine lv_aload_n hx hb dX6_explanation_95 rfl (lv_at hl 3 rfl) ?_
                refine va_get (D := D) (ci := 6) (v := .ref qA) (C := RX6) (T := TX6) (N := 15) hx hb hts ilX6_explanation_6 hown hG.1 hP 0 rfl rfl 0 (by decide) (hts (.fieldLink RX6 7 "HornEngineModel" "all" "[I") (List.mem_of_getElem? (i := 1) rfl)) (fun _ h9 => h9) rfl dX6_explanation_96 ?_
                refine lv_iconst (v := nI 1) hx hb dX6_explanation_99 (by decide) ?_
                refine ia_ld hx hb hG hP 1 rfl 1 rfl (by omega) (by decide) dX6_explanation_100 ?_
                refine lv_eqi (y := as_) hM.2.1 ?_
                refine lv_isub hx hb dX6_explanation_101 ?_
                refine lv_aload_n hx hb dX6_explanation_102 rfl (lv_at hl 3 rfl) ?_
                refine va_get (D := D) (ci := 6) (v := .ref qA) (C := RX6) (T := TX6) (N := 15) hx hb hts ilX6_explanation_6 hown hG.1 hP 0 rfl rfl 0 (by decide) (hts (.fieldLink RX6 7 "HornEngineModel" "all" "[I") (List.mem_of_getElem? (i := 1) rfl)) (fun _ h9 => h9) rfl dX6_explanation_103 ?_
                refine lv_iconst (v := nI 1) hx hb dX6_explanation_106 (by decide) ?_
                refine ia_ld hx hb hG hP 1 rfl 1 rfl (by omega) (by decide) dX6_explanation_107 ?_
                refine lv_eqi (y := as_) hM.2.1 ?_
                refine lv_iand hx hb dX6_explanation_108 ?_
                refine lv_istore_n (lv' := [(3, .int ((x3 - as_) &&& as_)), (4, .int (nI 1)), (2, .int x2), (5, .int (nI 0)), (0, .ref mo), (1, .int (nI a))]) hx hb dX6_explanation_109 rfl hl (by decide) rfl (fun ls hl => ?_)
                refine lv_goto (tgt := 21) hx hb dX6_explanation_110 (by decide) ?_
                exact ih_21 (j + 1) x2 ((x3 - as_) &&& as_) 1 (by omega) (by omega) (by omega) (by omega) (by rw [exB_neg (fun q => hns q.1)]; exact e2) (by rw [exB_en, enJ, ← exB_en hs bs n as_ a j, ← e3]) (by omega) _ _ hP hD hS ls (lv_sub hl [4, 5, 2, 0, 1] rfl)
            · skip
              have hsh := ex_y hL hc8 e2 e3 c_11
              refine lv_iconst (v := nI 1) hx hb dX6_explanation_42 (by decide) ?_
              refine lv_goto (tgt := 47) hx hb dX6_explanation_43 (by decide) ?_
              refine lv_istore (lv' := [(5, .int (nI 1)), (0, .ref mo), (1, .int (nI a)), (2, .int x2), (3, .int x3), (4, .int (nI fl))]) hx hb dX6_explanation_47 hl (by decide) rfl (fun ls hl => ?_)
              refine lv_iload hx hb dX6_explanation_49 (lv_at hl 0 rfl) ?_
              refine lv_if_eq (tgt := 75) hx hb dX6_explanation_51 (by decide) (fun c_14 => absurd c_14 (by decide)) (fun _ => ?_)
              refine lv_aload_n hx hb dX6_explanation_54 rfl (lv_at hl 1 rfl) ?_
              refine lv_aload_n hx hb dX6_explanation_55 rfl (lv_at hl 1 rfl) ?_
              refine pu_V (As := []) (rest := [.ref mo]) ⟨hx, hb, hml, hown, hts⟩ hG hP (k_X6_everyRule l D cI cB mo qA qS sm qE qT tl qQ qd qF fm qC ap pl qH qB av hs bs n as_ hM hn) (cwV 0 hts gX6_explanation_X6_everyRule rfl rfl rfl (by decide +kernel) ⟨(Nat.le_of_ble_eq_true rfl), (Nat.le_of_ble_eq_true rfl)⟩) [0, 1] rfl 0 rfl rfl rfl rfl hl.1 rfl (Nat.le_of_ble_eq_true rfl) dX6_explanation_56 ⟨Nat.zero_le _, Nat.zero_le _⟩ ?_
              refine lv_iload_n hx hb dX6_explanation_59 rfl (lv_at hl 4 rfl) ?_
              refine pu_V (As := [.int (evr n), .int x3]) (rest := []) ⟨hx, hb, hml, hown, hts⟩ hG hP (k_X6_modelOf l D cI cB mo qA qS sm qE qT tl qQ qd qF fm qC ap pl qH qB av hs bs n as_ (evr n) x3 hM hn hH (by rw [e3, exB_en]; exact enJ_low hL j)) (cwV 2 hts gX6_explanation_X6_modelOf rfl rfl rfl (by decide +kernel) ⟨(Nat.le_of_ble_eq_true rfl), (Nat.le_of_ble_eq_true rfl)⟩) [0, 1] rfl 0 rfl rfl rfl rfl hl.1 rfl (Nat.le_of_ble_eq_true rfl) dX6_explanation_60 ⟨Nat.zero_le _, Nat.zero_le _⟩ ?_
              refine lv_iload_n hx hb dX6_explanation_63 rfl (lv_at hl 2 rfl) ?_
              refine lv_ishr hx hb dX6_explanation_64 ?_
              refine lv_iconst (v := nI 1) hx hb dX6_explanation_65 (by decide) ?_
              refine lv_iand hx hb dX6_explanation_66 ?_
              refine lv_iconst (v := nI 1) hx hb dX6_explanation_67 (by decide) ?_
              refine lv_icmp_ne (tgt := 75) hx hb dX6_explanation_68 (by decide) (fun c_15 => ?_) (fun c_15 => ?_)
              · skip
                have hm : has (clo hs bs n (evr n) x3) (nI a) = false := Bool.eq_false_iff.mpr (fun q => c_15 ((shr_1 (by omega)).mpr q))
                refine lv_iload_n hx hb dX6_explanation_75 rfl (lv_at hl 3 rfl) ?_
                refine lv_istore_n (lv' := [(2, .int x2), (5, .int (nI 1)), (0, .ref mo), (1, .int (nI a)), (3, .int x3), (4, .int (nI fl))]) hx hb dX6_explanation_76 rfl hl (by decide) rfl (fun ls hl => ?_)
                refine lv_iload_n hx hb dX6_explanation_77 rfl (lv_at hl 4 rfl) ?_
                refine lv_aload_n hx hb dX6_explanation_78 rfl (lv_at hl 2 rfl) ?_
                refine va_get (D := D) (ci := 6) (v := .ref qA) (C := RX6) (T := TX6) (N := 15) hx hb hts ilX6_explanation_6 hown hG.1 hP 0 rfl rfl 0 (by decide) (hts (.fieldLink RX6 7 "HornEngineModel" "all" "[I") (List.mem_of_getElem? (i := 1) rfl)) (fun _ h9 => h9) rfl dX6_explanation_79 ?_
                refine lv_iconst (v := nI 1) hx hb dX6_explanation_82 (by decide) ?_
                refine ia_ld hx hb hG hP 1 rfl 1 rfl (by omega) (by decide) dX6_explanation_83 ?_
                refine lv_eqi (y := as_) hM.2.1 ?_
                refine lv_icmp_eq (tgt := 91) hx hb dX6_explanation_84 (by decide) (fun c_16 => ?_) (fun c_16 => ?_)
                · skip
                  have hla : j + 1 = ct := by rw [hct]; exact (en_last hL (by rw [← hct]; exact hjl)).mp (by rw [← exB_en hs bs n as_ a j, ← e3]; exact c_16)
                  refine lv_iconst (v := nI 0) hx hb dX6_explanation_91 (by decide) ?_
                  refine lv_istore (lv' := [(4, .int (nI 0)), (2, .int x2), (5, .int (nI 1)), (0, .ref mo), (1, .int (nI a)), (3, .int x3)]) hx hb dX6_explanation_92 hl (by decide) rfl (fun ls hl => ?_)
                  refine lv_iload_n hx hb dX6_explanation_94 rfl (lv_at hl 5 rfl) ?_
                  refine lv_aload_n hx hb dX6_explanation_95 rfl (lv_at hl 3 rfl) ?_
                  refine va_get (D := D) (ci := 6) (v := .ref qA) (C := RX6) (T := TX6) (N := 15) hx hb hts ilX6_explanation_6 hown hG.1 hP 0 rfl rfl 0 (by decide) (hts (.fieldLink RX6 7 "HornEngineModel" "all" "[I") (List.mem_of_getElem? (i := 1) rfl)) (fun _ h9 => h9) rfl dX6_explanation_96 ?_
                  refine lv_iconst (v := nI 1) hx hb dX6_explanation_99 (by decide) ?_
                  refine ia_ld hx hb hG hP 1 rfl 1 rfl (by omega) (by decide) dX6_explanation_100 ?_
                  refine lv_eqi (y := as_) hM.2.1 ?_
                  refine lv_isub hx hb dX6_explanation_101 ?_
                  refine lv_aload_n hx hb dX6_explanation_102 rfl (lv_at hl 3 rfl) ?_
                  refine va_get (D := D) (ci := 6) (v := .ref qA) (C := RX6) (T := TX6) (N := 15) hx hb hts ilX6_explanation_6 hown hG.1 hP 0 rfl rfl 0 (by decide) (hts (.fieldLink RX6 7 "HornEngineModel" "all" "[I") (List.mem_of_getElem? (i := 1) rfl)) (fun _ h9 => h9) rfl dX6_explanation_103 ?_
                  refine lv_iconst (v := nI 1) hx hb dX6_explanation_106 (by decide) ?_
                  refine ia_ld hx hb hG hP 1 rfl 1 rfl (by omega) (by decide) dX6_explanation_107 ?_
                  refine lv_eqi (y := as_) hM.2.1 ?_
                  refine lv_iand hx hb dX6_explanation_108 ?_
                  refine lv_istore_n (lv' := [(3, .int ((x3 - as_) &&& as_)), (4, .int (nI 0)), (2, .int x2), (5, .int (nI 1)), (0, .ref mo), (1, .int (nI a))]) hx hb dX6_explanation_109 rfl hl (by decide) rfl (fun ls hl => ?_)
                  refine lv_goto (tgt := 21) hx hb dX6_explanation_110 (by decide) ?_
                  exact ih_21 (j + 1) x2 ((x3 - as_) &&& as_) 0 (by omega) (by omega) (by omega) (by omega) (by rw [exB_neg (fun q => absurd q.2 (by rw [← e3, hm]; decide))]; exact e2) (by rw [exB_en, enJ, ← exB_en hs bs n as_ a j, ← e3]) (by omega) _ _ hP hD hS ls (lv_sub hl [4, 5, 2, 0, 1] rfl)
                · skip
                  have hnl : j + 1 < ct := by have h9 : ¬ j + 1 = ct := fun q => c_16 (by rw [e3, exB_en]; exact (en_last hL (by rw [← hct]; exact hjl)).mpr (by rw [← hct]; exact q)); omega
                  refine lv_iconst (v := nI 1) hx hb dX6_explanation_87 (by decide) ?_
                  refine lv_goto (tgt := 92) hx hb dX6_explanation_88 (by decide) ?_
                  refine lv_istore (lv' := [(4, .int (nI 1)), (2, .int x2), (5, .int (nI 1)), (0, .ref mo), (1, .int (nI a)), (3, .int x3)]) hx hb dX6_explanation_92 hl (by decide) rfl (fun ls hl => ?_)
                  refine lv_iload_n hx hb dX6_explanation_94 rfl (lv_at hl 5 rfl) ?_
                  refine lv_aload_n hx hb dX6_explanation_95 rfl (lv_at hl 3 rfl) ?_
                  refine va_get (D := D) (ci := 6) (v := .ref qA) (C := RX6) (T := TX6) (N := 15) hx hb hts ilX6_explanation_6 hown hG.1 hP 0 rfl rfl 0 (by decide) (hts (.fieldLink RX6 7 "HornEngineModel" "all" "[I") (List.mem_of_getElem? (i := 1) rfl)) (fun _ h9 => h9) rfl dX6_explanation_96 ?_
                  refine lv_iconst (v := nI 1) hx hb dX6_explanation_99 (by decide) ?_
                  refine ia_ld hx hb hG hP 1 rfl 1 rfl (by omega) (by decide) dX6_explanation_100 ?_
                  refine lv_eqi (y := as_) hM.2.1 ?_
                  refine lv_isub hx hb dX6_explanation_101 ?_
                  refine lv_aload_n hx hb dX6_explanation_102 rfl (lv_at hl 3 rfl) ?_
                  refine va_get (D := D) (ci := 6) (v := .ref qA) (C := RX6) (T := TX6) (N := 15) hx hb hts ilX6_explanation_6 hown hG.1 hP 0 rfl rfl 0 (by decide) (hts (.fieldLink RX6 7 "HornEngineModel" "all" "[I") (List.mem_of_getElem? (i := 1) rfl)) (fun _ h9 => h9) rfl dX6_explanation_103 ?_
                  refine lv_iconst (v := nI 1) hx hb dX6_explanation_106 (by decide) ?_
                  refine ia_ld hx hb hG hP 1 rfl 1 rfl (by omega) (by decide) dX6_explanation_107 ?_
                  refine lv_eqi (y := as_) hM.2.1 ?_
                  refine lv_iand hx hb dX6_explanation_108 ?_
                  refine lv_istore_n (lv' := [(3, .int ((x3 - as_) &&& as_)), (4, .int (nI 1)), (2, .int x2), (5, .int (nI 1)), (0, .ref mo), (1, .int (nI a))]) hx hb dX6_explanation_109 rfl hl (by decide) rfl (fun ls hl => ?_)
                  refine lv_goto (tgt := 21) hx hb dX6_explanation_110 (by decide) ?_
                  exact ih_21 (j + 1) x2 ((x3 - as_) &&& as_) 1 (by omega) (by omega) (by omega) (by omega) (by rw [exB_neg (fun q => absurd q.2 (by rw [← e3, hm]; decide))]; exact e2) (by rw [exB_en, enJ, ← exB_en hs bs n as_ a j, ← e3]) (by omega) _ _ hP hD hS ls (lv_sub hl [4, 5, 2, 0, 1] rfl)
              · skip
                have hm : has (clo hs bs n (evr n) x3) (nI a) = true := (shr_1 (by omega)).mp c_15
                refine lv_iload_n hx hb dX6_explanation_71 rfl (lv_at hl 4 rfl) ?_
                refine lv_goto (tgt := 76) hx hb dX6_explanation_72 (by decide) ?_
                refine lv_istore_n (lv' := [(2, .int x3), (5, .int (nI 1)), (0, .ref mo), (1, .int (nI a)), (3, .int x3), (4, .int (nI fl))]) hx hb dX6_explanation_76 rfl hl (by decide) rfl (fun ls hl => ?_)
                refine lv_iload_n hx hb dX6_explanation_77 rfl (lv_at hl 4 rfl) ?_
                refine lv_aload_n hx hb dX6_explanation_78 rfl (lv_at hl 2 rfl) ?_
                refine va_get (D := D) (ci := 6) (v := .ref qA) (C := RX6) (T := TX6) (N := 15) hx hb hts ilX6_explanation_6 hown hG.1 hP 0 rfl rfl 0 (by decide) (hts (.fieldLink RX6 7 "HornEngineModel" "all" "[I") (List.mem_of_getElem? (i := 1) rfl)) (fun _ h9 => h9) rfl dX6_explanation_79 ?_
                refine lv_iconst (v := nI 1) hx hb dX6_explanation_82 (by decide) ?_
                refine ia_ld hx hb hG hP 1 rfl 1 rfl (by omega) (by decide) dX6_explanation_83 ?_
                refine lv_eqi (y := as_) hM.2.1 ?_
                refine lv_icmp_eq (tgt := 91) hx hb dX6_explanation_84 (by decide) (fun c_17 => ?_) (fun c_17 => ?_)
                · skip
                  have hla : j + 1 = ct := by rw [hct]; exact (en_last hL (by rw [← hct]; exact hjl)).mp (by rw [← exB_en hs bs n as_ a j, ← e3]; exact c_17)
                  refine lv_iconst (v := nI 0) hx hb dX6_explanation_91 (by decide) ?_
                  refine lv_istore (lv' := [(4, .int (nI 0)), (2, .int x3), (5, .int (nI 1)), (0, .ref mo), (1, .int (nI a)), (3, .int x3)]) hx hb dX6_explanation_92 hl (by decide) rfl (fun ls hl => ?_)
                  refine lv_iload_n hx hb dX6_explanation_94 rfl (lv_at hl 5 rfl) ?_
                  refine lv_aload_n hx hb dX6_explanation_95 rfl (lv_at hl 3 rfl) ?_
                  refine va_get (D := D) (ci := 6) (v := .ref qA) (C := RX6) (T := TX6) (N := 15) hx hb hts ilX6_explanation_6 hown hG.1 hP 0 rfl rfl 0 (by decide) (hts (.fieldLink RX6 7 "HornEngineModel" "all" "[I") (List.mem_of_getElem? (i := 1) rfl)) (fun _ h9 => h9) rfl dX6_explanation_96 ?_
                  refine lv_iconst (v := nI 1) hx hb dX6_explanation_99 (by decide) ?_
                  refine ia_ld hx hb hG hP 1 rfl 1 rfl (by omega) (by decide) dX6_explanation_100 ?_
                  refine lv_eqi (y := as_) hM.2.1 ?_
                  refine lv_isub hx hb dX6_explanation_101 ?_
                  refine lv_aload_n hx hb dX6_explanation_102 rfl (lv_at hl 3 rfl) ?_
                  refine va_get (D := D) (ci := 6) (v := .ref qA) (C := RX6) (T := TX6) (N := 15) hx hb hts ilX6_explanation_6 hown hG.1 hP 0 rfl rfl 0 (by decide) (hts (.fieldLink RX6 7 "HornEngineModel" "all" "[I") (List.mem_of_getElem? (i := 1) rfl)) (fun _ h9 => h9) rfl dX6_explanation_103 ?_
                  refine lv_iconst (v := nI 1) hx hb dX6_explanation_106 (by decide) ?_
                  refine ia_ld hx hb hG hP 1 rfl 1 rfl (by omega) (by decide) dX6_explanation_107 ?_
                  refine lv_eqi (y := as_) hM.2.1 ?_
                  refine lv_iand hx hb dX6_explanation_108 ?_
                  refine lv_istore_n (lv' := [(3, .int ((x3 - as_) &&& as_)), (4, .int (nI 0)), (2, .int x3), (5, .int (nI 1)), (0, .ref mo), (1, .int (nI a))]) hx hb dX6_explanation_109 rfl hl (by decide) rfl (fun ls hl => ?_)
                  refine lv_goto (tgt := 21) hx hb dX6_explanation_110 (by decide) ?_
                  exact ih_21 (j + 1) x3 ((x3 - as_) &&& as_) 0 (by omega) (by omega) (by omega) (by omega) (by rw [exB_pos ⟨hsh, by rw [← e3]; exact hm⟩]; exact e3) (by rw [exB_en, enJ, ← exB_en hs bs n as_ a j, ← e3]) (by omega) _ _ hP hD hS ls (lv_sub hl [4, 5, 2, 0, 1] rfl)
                · skip
                  have hnl : j + 1 < ct := by have h9 : ¬ j + 1 = ct := fun q => c_17 (by rw [e3, exB_en]; exact (en_last hL (by rw [← hct]; exact hjl)).mpr (by rw [← hct]; exact q)); omega
                  refine lv_iconst (v := nI 1) hx hb dX6_explanation_87 (by decide) ?_
                  refine lv_goto (tgt := 92) hx hb dX6_explanation_88 (by decide) ?_
                  refine lv_istore (lv' := [(4, .int (nI 1)), (2, .int x3), (5, .int (nI 1)), (0, .ref mo), (1, .int (nI a)), (3, .int x3)]) hx hb dX6_explanation_92 hl (by decide) rfl (fun ls hl => ?_)
                  refine lv_iload_n hx hb dX6_explanation_94 rfl (lv_at hl 5 rfl) ?_
                  refine lv_aload_n hx hb dX6_explanation_95 rfl (lv_at hl 3 rfl) ?_
                  refine va_get (D := D) (ci := 6) (v := .ref qA) (C := RX6) (T := TX6) (N := 15) hx hb hts ilX6_explanation_6 hown hG.1 hP 0 rfl rfl 0 (by decide) (hts (.fieldLink RX6 7 "HornEngineModel" "all" "[I") (List.mem_of_getElem? (i := 1) rfl)) (fun _ h9 => h9) rfl dX6_explanation_96 ?_
                  refine lv_iconst (v := nI 1) hx hb dX6_explanation_99 (by decide) ?_
                  refine ia_ld hx hb hG hP 1 rfl 1 rfl (by omega) (by decide) dX6_explanation_100 ?_
                  refine lv_eqi (y := as_) hM.2.1 ?_
                  refine lv_isub hx hb dX6_explanation_101 ?_
                  refine lv_aload_n hx hb dX6_explanation_102 rfl (lv_at hl 3 rfl) ?_
                  refine va_get (D := D) (ci := 6) (v := .ref qA) (C := RX6) (T := TX6) (N := 15) hx hb hts ilX6_explanation_6 hown hG.1 hP 0 rfl rfl 0 (by decide) (hts (.fieldLink RX6 7 "HornEngineModel" "all" "[I") (List.mem_of_getElem? (i := 1) rfl)) (fun _ h9 => h9) rfl dX6_explanation_103 ?_
                  refine lv_iconst (v := nI 1) hx hb dX6_explanation_106 (by decide) ?_
                  refine ia_ld hx hb hG hP 1 rfl 1 rfl (by omega) (by decide) dX6_explanation_107 ?_
                  refine lv_eqi (y := as_) hM.2.1 ?_
                  refine lv_iand hx hb dX6_explanation_108 ?_
                  refine lv_istore_n (lv' := [(3, .int ((x3 - as_) &&& as_)), (4, .int (nI 1)), (2, .int x3), (5, .int (nI 1)), (0, .ref mo), (1, .int (nI a))]) hx hb dX6_explanation_109 rfl hl (by decide) rfl (fun ls hl => ?_)
                  refine lv_goto (tgt := 21) hx hb dX6_explanation_110 (by decide) ?_
                  exact ih_21 (j + 1) x3 ((x3 - as_) &&& as_) 1 (by omega) (by omega) (by omega) (by omega) (by rw [exB_pos ⟨hsh, by rw [← e3]; exact hm⟩]; exact e3) (by rw [exB_en, enJ, ← exB_en hs bs n as_ a j, ← e3]) (by omega) _ _ hP hD hS ls (lv_sub hl [4, 5, 2, 0, 1] rfl)
    exact lp_21_2 (ct - 0 + 1) 0 (-1) (nI 0) 1 (by omega) (by omega) (by omega) (by omega) rfl rfl (Nat.lt_succ_self _) _ _ hP hD hS ls (lv_sub hl [3, 4, 2, 1, 0] rfl)
  · skip
    have c_1 : (isA at_) = false := bI_f.mp c_1
    have hc : isA at_ = false := c_1
    refine lv_aload_n hx hb dX6_explanation_7 rfl (lv_at hl 0 rfl) ?_
    refine lv_bipush (v := (-2)) hx hb dX6_explanation_8 (by decide) ?_
    refine ef_V (As := [.int (-2)]) (rest := []) (wr := [(qA, .inl (cI, 50, .inl av))]) ⟨hx, hb, hml, hown, hts⟩ hG hP hD hS hA (k_X6_error l D cI cB mo qA qS sm qE qT tl qQ qd qF fm qC ap pl qH qB er (-2) 0 (by decide) (by decide) _) (cwV 1 hts gX6_explanation_X6_error rfl rfl rfl (by decide +kernel) ⟨(Nat.le_of_ble_eq_true rfl), (Nat.le_of_ble_eq_true rfl)⟩) [0, 2] [1] rfl rfl rfl rfl (by decide) 0 rfl rfl rfl rfl hl.1 rfl (Nat.le_of_ble_eq_true rfl) dX6_explanation_10 ⟨(Nat.le_of_ble_eq_true rfl), (Nat.le_of_ble_eq_true rfl)⟩ (fun v_18 u_18 H locs w_18 hP hD hS => ?_)
    have w_18 : v_18 = some (.int (-2)) := w_18
    subst w_18
    have hP : va_P D vwCl [(mo, .inr (6, [.ref qA, .ref qS, .int (nI sm), .ref qE, .ref qT, .int (nI tl), .ref qQ, .int (nI qd), .ref qF, .int (nI fm), .ref qC, .int (nI ap), .int (nI pl), .ref qH, .ref qB])), (qA, .inl (cI, 50, .inl av)), (qE, .inl (cI, 4, .inl (bad er 0)))] H := hP.sub [1, 0, 2] rfl
    have hD : va_D A [(mo, .inr (6, [.ref qA, .ref qS, .int (nI sm), .ref qE, .ref qT, .int (nI tl), .ref qQ, .int (nI qd), .ref qF, .int (nI fm), .ref qC, .int (nI ap), .int (nI pl), .ref qH, .ref qB])), (qA, .inl (cI, 50, .inl av)), (qE, .inl (cI, 4, .inl (bad er 0)))] := hD.sub [1, 0, 2] rfl rfl
    refine W.eq (g2 := F0 m 13 ls [.int (-2)]) rfl ?_
    exact hret _ () _ _ _ _ (by rw [hc]; rfl) (by rw [hc]; exact hP) (by rw [hc]; exact hD) hS dX6_explanation_13
