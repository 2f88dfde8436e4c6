theorem ilX6_digest_6 : ∀ w ∈ u_ws RX6 TX6 15, w ∈ wsX6_digest := by decide +kernel
set_option maxHeartbeats 4000000 in
set_option maxRecDepth 100000 in
theorem k_X6_digest (l : Launch) (D : va_G) (cI cB : ClassId) (mo : Nat) (qA : Nat) (qS : Nat) (sm : Nat) (qE : Nat) (qT : Nat) (tl : Nat) (qQ : Nat) (qd : Nat) (qF : Nat) (fm : Nat) (qC : Nat) (ap : Nat) (pl : Nat) (qH : Nat) (qB : Nat) (av : Nat → Int32) (hs : Nat → Int32) (bs : Nat → Int32) (n : Nat) (as_ : Int32) (qf : Nat → Int32) (ff : Nat → Int32) (ct : Nat → Int32) (er : Nat → Int32) (hM : mA av hs bs n as_) (hn : n ≤ 24) (hH : hOK hs n) (hB : bOK bs n) (sz : Nat) : Wr l yX6_digest wsX6_digest ({ frames := 4, cells := 0, slots := 0, locals := 91 }) D cI cB [.ref mo] [(mo, .inr (6, [.ref qA, .ref qS, .int (nI sm), .ref qE, .ref qT, .int (nI tl), .ref qQ, .int (nI qd), .ref qF, .int (nI fm), .ref qC, .int (nI ap), .int (nI pl), .ref qH, .ref qB])), (qA, .inl (cI, 50, .inl av)), (qQ, .inl (cI, 16, .inl qf)), (qF, .inl (cI, 24, .inl ff)), (qC, .inl (cI, 24, .inl ct)), (qE, .inl (cI, 4, .inl er))] sz (S := (Nat → Int32) × Nat × (Nat → Int32) × Nat × (Nat → Int32)) (fun v u => v = some (.long (digS hs bs n as_ tl sm er)) ∧ (u.2.1 ≤ 16 ∧ u.2.2.2.1 ≤ 24)) (fun u => [(mo, .inr (6, [.ref qA, .ref qS, .int (nI sm), .ref qE, .ref qT, .int (nI tl), .ref qQ, .int (nI u.2.1), .ref qF, .int (nI u.2.2.2.1), .ref qC, .int (nI ap), .int (nI pl), .ref qH, .ref qB])), (qA, .inl (cI, 50, .inl av)), (qQ, .inl (cI, 16, .inl u.1)), (qF, .inl (cI, 24, .inl u.2.2.1)), (qC, .inl (cI, 24, .inl u.2.2.2.2)), (qE, .inl (cI, 4, .inl er))]) 0 0 := by
  refine ef_startJ (cc := cX6_digest) (maxL := 5) (by decide) rfl (Nat.le_of_ble_eq_true rfl) ?_
  intro p e s m args below meth c Q A hx hb hml hown hts hP hG hD hA hret ls hl
  have hown : s.vm.findClass RX6 = some m.cls := hown
  have hl : lv_has ls 5 [(0, .ref mo)] := hl
  have hS : va_S A s.heap s.heap [] := va_S.rf
  refine lv_ldc2 (v := 2719) hx hb hown (hts (.constantLong RX6 164 (2719)) (List.mem_of_getElem? (i := 1) rfl)) dX6_digest_0 ?_
  refine lv_lstore_n (lv' := [(1, .long 2719), (0, .ref mo)]) hx hb dX6_digest_3 rfl hl (by decide) rfl (fun ls hl => ?_)
  refine lv_iconst (v := nI 0) hx hb dX6_digest_4 (by decide) ?_
  refine lv_istore_n (lv' := [(3, .int (nI 0)), (1, .long 2719), (0, .ref mo)]) hx hb dX6_digest_5 rfl hl (by decide) rfl (fun ls hl => ?_)
  refine lv_iload_n hx hb dX6_digest_6 rfl (lv_at hl 0 rfl) ?_
  refine lv_iconst (v := nI 4) hx hb dX6_digest_7 (by decide) ?_
  refine lv_icmp_ge (tgt := 31) hx hb dX6_digest_8 (by decide) (fun c_1 => absurd c_1 (by decide)) (fun _ => ?_)
  refine lv_ldc2 (v := 31) hx hb hown (hts (.constantLong RX6 166 (31)) (List.mem_of_getElem? (i := 2) rfl)) dX6_digest_11 ?_
  refine lv_lload_n hx hb dX6_digest_14 rfl (lv_at hl 1 rfl) ?_
  refine lv_lmul hx hb dX6_digest_15 ?_
  refine lv_aload_n hx hb dX6_digest_16 rfl (lv_at hl 2 rfl) ?_
  refine va_get (D := D) (ci := 6) (v := .ref qE) (C := RX6) (T := TX6) (N := 15) hx hb hts ilX6_digest_6 hown hG.1 hP 0 rfl rfl 3 (by decide) (hts (.fieldLink RX6 16 "HornEngineModel" "errors" "[I") (List.mem_of_getElem? (i := 3) rfl)) (fun _ h9 => h9) rfl dX6_digest_17 ?_
  refine lv_iload_n hx hb dX6_digest_20 rfl (lv_at hl 0 rfl) ?_
  refine ia_ld hx hb hG hP 5 rfl 0 rfl (by omega) (by decide) dX6_digest_21 ?_
  refine lv_i2l (v := (er 0).toInt64) hx hb dX6_digest_22 rfl ?_
  refine lv_ladd hx hb dX6_digest_23 ?_
  refine lv_lstore_n (lv' := [(1, .long ((31 * 2719) + ((er 0).toInt64))), (3, .int (nI 0)), (0, .ref mo)]) hx hb dX6_digest_24 rfl hl (by decide) rfl (fun ls hl => ?_)
  refine lv_iinc (v := nI 1) (lv' := [(3, .int (nI 1)), (1, .long ((31 * 2719) + ((er 0).toInt64))), (0, .ref mo)]) hx hb dX6_digest_25 hl (k := 1) rfl (by decide) (by decide) rfl (fun ls hl => ?_)
  refine lv_goto (tgt := 6) hx hb dX6_digest_28 (by decide) ?_
  refine lv_iload_n hx hb dX6_digest_6 rfl (lv_at hl 0 rfl) ?_
  refine lv_iconst (v := nI 4) hx hb dX6_digest_7 (by decide) ?_
  refine lv_icmp_ge (tgt := 31) hx hb dX6_digest_8 (by decide) (fun c_2 => absurd c_2 (by decide)) (fun _ => ?_)
  refine lv_ldc2 (v := 31) hx hb hown (hts (.constantLong RX6 166 (31)) (List.mem_of_getElem? (i := 2) rfl)) dX6_digest_11 ?_
  refine lv_lload_n hx hb dX6_digest_14 rfl (lv_at hl 1 rfl) ?_
  refine lv_lmul hx hb dX6_digest_15 ?_
  refine lv_aload_n hx hb dX6_digest_16 rfl (lv_at hl 2 rfl) ?_
  refine va_get (D := D) (ci := 6) (v := .ref qE) (C := RX6) (T := TX6) (N := 15) hx hb hts ilX6_digest_6 hown hG.1 hP 0 rfl rfl 3 (by decide) (hts (.fieldLink RX6 16 "HornEngineModel" "errors" "[I") (List.mem_of_getElem? (i := 3) rfl)) (fun _ h9 => h9) rfl dX6_digest_17 ?_
  refine lv_iload_n hx hb dX6_digest_20 rfl (lv_at hl 0 rfl) ?_
  refine ia_ld hx hb hG hP 5 rfl 1 rfl (by omega) (by decide) dX6_digest_21 ?_
  refine lv_i2l (v := (er 1).toInt64) hx hb dX6_digest_22 rfl ?_
  refine lv_ladd hx hb dX6_digest_23 ?_
  refine lv_lstore_n (lv' := [(1, .long ((31 * ((31 * 2719) + ((er 0).toInt64))) + ((er 1).toInt64))), (3, .int (nI 1)), (0, .ref mo)]) hx hb dX6_digest_24 rfl hl (by decide) rfl (fun ls hl => ?_)
  refine lv_iinc (v := nI 2) (lv' := [(3, .int (nI 2)), (1, .long ((31 * ((31 * 2719) + ((er 0).toInt64))) + ((er 1).toInt64))), (0, .ref mo)]) hx hb dX6_digest_25 hl (k := 1) rfl (by decide) (by decide) rfl (fun ls hl => ?_)
  refine lv_goto (tgt := 6) hx hb dX6_digest_28 (by decide) ?_
  refine lv_iload_n hx hb dX6_digest_6 rfl (lv_at hl 0 rfl) ?_
  refine lv_iconst (v := nI 4) hx hb dX6_digest_7 (by decide) ?_
  refine lv_icmp_ge (tgt := 31) hx hb dX6_digest_8 (by decide) (fun c_3 => absurd c_3 (by decide)) (fun _ => ?_)
  refine lv_ldc2 (v := 31) hx hb hown (hts (.constantLong RX6 166 (31)) (List.mem_of_getElem? (i := 2) rfl)) dX6_digest_11 ?_
  refine lv_lload_n hx hb dX6_digest_14 rfl (lv_at hl 1 rfl) ?_
  refine lv_lmul hx hb dX6_digest_15 ?_
  refine lv_aload_n hx hb dX6_digest_16 rfl (lv_at hl 2 rfl) ?_
  refine va_get (D := D) (ci := 6) (v := .ref qE) (C := RX6) (T := TX6) (N := 15) hx hb hts ilX6_digest_6 hown hG.1 hP 0 rfl rfl 3 (by decide) (hts (.fieldLink RX6 16 "HornEngineModel" "errors" "[I") (List.mem_of_getElem? (i := 3) rfl)) (fun _ h9 => h9) rfl dX6_digest_17 ?_
  refine lv_iload_n hx hb dX6_digest_20 rfl (lv_at hl 0 rfl) ?_
  refine ia_ld hx hb hG hP 5 rfl 2 rfl (by omega) (by decide) dX6_digest_21 ?_
  refine lv_i2l (v := (er 2).toInt64) hx hb dX6_digest_22 rfl ?_
  refine lv_ladd hx hb dX6_digest_23 ?_
  refine lv_lstore_n (lv' := [(1, .long ((31 * ((31 * ((31 * 2719) + ((er 0).toInt64))) + ((er 1).toInt64))) + ((er 2).toInt64))), (3, .int (nI 2)), (0, .ref mo)]) hx hb dX6_digest_24 rfl hl (by decide) rfl (fun ls hl => ?_)
  refine lv_iinc (v := nI 3) (lv' := [(3, .int (nI 3)), (1, .long ((31 * ((31 * ((31 * 2719) + ((er 0).toInt64))) + ((er 1).toInt64))) + ((er 2).toInt64))), (0, .ref mo)]) hx hb dX6_digest_25 hl (k := 1) rfl (by decide) (by decide) rfl (fun ls hl => ?_)
  refine lv_goto (tgt := 6) hx hb dX6_digest_28 (by decide) ?_
  refine lv_iload_n hx hb dX6_digest_6 rfl (lv_at hl 0 rfl) ?_
  refine lv_iconst (v := nI 4) hx hb dX6_digest_7 (by decide) ?_
  refine lv_icmp_ge (tgt := 31) hx hb dX6_digest_8 (by decide) (fun c_4 => absurd c_4 (by decide)) (fun _ => ?_)
  refine lv_ldc2 (v := 31) hx hb hown (hts (.constantLong RX6 166 (31)) (List.mem_of_getElem? (i := 2) rfl)) dX6_digest_11 ?_
  refine lv_lload_n hx hb dX6_digest_14 rfl (lv_at hl 1 rfl) ?_
  refine lv_lmul hx hb dX6_digest_15 ?_
  refine lv_aload_n hx hb dX6_digest_16 rfl (lv_at hl 2 rfl) ?_
  refine va_get (D := D) (ci := 6) (v := .ref qE) (C := RX6) (T := TX6) (N := 15) hx hb hts ilX6_digest_6 hown hG.1 hP 0 rfl rfl 3 (by decide) (hts (.fieldLink RX6 16 "HornEngineModel" "errors" "[I") (List.mem_of_getElem? (i := 3) rfl)) (fun _ h9 => h9) rfl dX6_digest_17 ?_
  refine lv_iload_n hx hb dX6_digest_20 rfl (lv_at hl 0 rfl) ?_
  refine ia_ld hx hb hG hP 5 rfl 3 rfl (by omega) (by decide) dX6_digest_21 ?_
  refine lv_i2l (v := (er 3).toInt64) hx hb dX6_digest_22 rfl ?_
  refine lv_ladd hx hb dX6_digest_23 ?_
  refine lv_lstore_n (lv' := [(1, .long ((31 * ((31 * ((31 * ((31 * 2719) + ((er 0).toInt64))) + ((er 1).toInt64))) + ((er 2).toInt64))) + ((er 3).toInt64))), (3, .int (nI 3)), (0, .ref mo)]) hx hb dX6_digest_24 rfl hl (by decide) rfl (fun ls hl => ?_)
  refine lv_iinc (v := nI 4) (lv' := [(3, .int (nI 4)), (1, .long ((31 * ((31 * ((31 * ((31 * 2719) + ((er 0).toInt64))) + ((er 1).toInt64))) + ((er 2).toInt64))) + ((er 3).toInt64))), (0, .ref mo)]) hx hb dX6_digest_25 hl (k := 1) rfl (by decide) (by decide) rfl (fun ls hl => ?_)
  refine lv_goto (tgt := 6) hx hb dX6_digest_28 (by decide) ?_
  refine lv_iload_n hx hb dX6_digest_6 rfl (lv_at hl 0 rfl) ?_
  refine lv_iconst (v := nI 4) hx hb dX6_digest_7 (by decide) ?_
  refine lv_icmp_ge (tgt := 31) hx hb dX6_digest_8 (by decide) (fun _ => ?_) (fun c_5 => absurd (by decide) c_5)
  refine lv_ldc2 (v := 31) hx hb hown (hts (.constantLong RX6 166 (31)) (List.mem_of_getElem? (i := 2) rfl)) dX6_digest_31 ?_
  refine lv_ldc2 (v := 31) hx hb hown (hts (.constantLong RX6 166 (31)) (List.mem_of_getElem? (i := 2) rfl)) dX6_digest_34 ?_
  refine lv_ldc2 (v := 31) hx hb hown (hts (.constantLong RX6 166 (31)) (List.mem_of_getElem? (i := 2) rfl)) dX6_digest_37 ?_
  refine lv_lload_n hx hb dX6_digest_40 rfl (lv_at hl 1 rfl) ?_
  refine lv_lmul hx hb dX6_digest_41 ?_
  refine lv_aload_n hx hb dX6_digest_42 rfl (lv_at hl 2 rfl) ?_
  refine va_get (D := D) (ci := 6) (v := .int (nI tl)) (C := RX6) (T := TX6) (N := 15) hx hb hts ilX6_digest_6 hown hG.1 hP 0 rfl rfl 5 (by decide) (hts (.fieldLink RX6 135 "HornEngineModel" "textLong" "I") (List.mem_of_getElem? (i := 4) rfl)) (fun _ h9 => h9) rfl dX6_digest_43 ?_
  refine lv_i2l (v := (nI tl).toInt64) hx hb dX6_digest_46 rfl ?_
  refine lv_ladd hx hb dX6_digest_47 ?_
  refine lv_lmul hx hb dX6_digest_48 ?_
  refine lv_aload_n hx hb dX6_digest_49 rfl (lv_at hl 2 rfl) ?_
  refine va_get (D := D) (ci := 6) (v := .ref qA) (C := RX6) (T := TX6) (N := 15) hx hb hts ilX6_digest_6 hown hG.1 hP 0 rfl rfl 0 (by decide) (hts (.fieldLink RX6 7 "HornEngineModel" "all" "[I") (List.mem_of_getElem? (i := 5) rfl)) (fun _ h9 => h9) rfl dX6_digest_50 ?_
  refine lv_iconst (v := nI 1) hx hb dX6_digest_53 (by decide) ?_
  refine ia_ld hx hb hG hP 1 rfl 1 rfl (by omega) (by decide) dX6_digest_54 ?_
  refine lv_eqi (y := as_) hM.2.1 ?_
  refine lv_i2l (v := as_.toInt64) hx hb dX6_digest_55 rfl ?_
  refine lv_ladd hx hb dX6_digest_56 ?_
  refine lv_lmul hx hb dX6_digest_57 ?_
  refine lv_aload_n hx hb dX6_digest_58 rfl (lv_at hl 2 rfl) ?_
  refine va_get (D := D) (ci := 6) (v := .ref qA) (C := RX6) (T := TX6) (N := 15) hx hb hts ilX6_digest_6 hown hG.1 hP 0 rfl rfl 0 (by decide) (hts (.fieldLink RX6 7 "HornEngineModel" "all" "[I") (List.mem_of_getElem? (i := 5) rfl)) (fun _ h9 => h9) rfl dX6_digest_59 ?_
  refine lv_iconst (v := nI 0) hx hb dX6_digest_62 (by decide) ?_
  refine ia_ld hx hb hG hP 1 rfl 0 rfl (by omega) (by decide) dX6_digest_63 ?_
  refine lv_eqi (y := nI n) hM.1 ?_
  refine lv_i2l (v := (nI n).toInt64) hx hb dX6_digest_64 rfl ?_
  refine lv_ladd hx hb dX6_digest_65 ?_
  refine lv_lstore_n (lv' := [(1, .long ((31 * ((31 * ((31 * ((31 * ((31 * ((31 * ((31 * 2719) + ((er 0).toInt64))) + ((er 1).toInt64))) + ((er 2).toInt64))) + ((er 3).toInt64))) + ((nI tl).toInt64))) + as_.toInt64)) + ((nI n).toInt64))), (3, .int (nI 4)), (0, .ref mo)]) hx hb dX6_digest_66 rfl hl (by decide) rfl (fun ls hl => ?_)
  refine lv_iconst (v := nI 0) hx hb dX6_digest_67 (by decide) ?_
  refine lv_istore_n (lv' := [(3, .int (nI 0)), (1, .long ((31 * ((31 * ((31 * ((31 * ((31 * ((31 * ((31 * 2719) + ((er 0).toInt64))) + ((er 1).toInt64))) + ((er 2).toInt64))) + ((er 3).toInt64))) + ((nI tl).toInt64))) + as_.toInt64)) + ((nI n).toInt64))), (0, .ref mo)]) hx hb dX6_digest_68 rfl hl (by decide) rfl (fun ls hl => ?_)
  have lp_69_6 : ∀ (fu_69 : Nat) (r : Nat) (x1 : Int64) (hr : r ≤ n) (e1 : x1 = mrF hs bs n (mixI (mixI (mfF er 2719 4) (nI tl)) as_) r) (hfu_69 : n - r < fu_69) (H : Heap) (locs : List Loc) (hP : va_P D vwCl [(mo, .inr (6, [.ref qA, .ref qS, .int (nI sm), .ref qE, .ref qT, .int (nI tl), .ref qQ, .int (nI qd), .ref qF, .int (nI fm), .ref qC, .int (nI ap), .int (nI pl), .ref qH, .ref qB])), (qA, .inl (cI, 50, .inl av)), (qQ, .inl (cI, 16, .inl qf)), (qF, .inl (cI, 24, .inl ff)), (qC, .inl (cI, 24, .inl ct)), (qE, .inl (cI, 4, .inl er))] H) (hD : va_D A [(mo, .inr (6, [.ref qA, .ref qS, .int (nI sm), .ref qE, .ref qT, .int (nI tl), .ref qQ, .int (nI qd), .ref qF, .int (nI fm), .ref qC, .int (nI ap), .int (nI pl), .ref qH, .ref qB])), (qA, .inl (cI, 50, .inl av)), (qQ, .inl (cI, 16, .inl qf)), (qF, .inl (cI, 24, .inl ff)), (qC, .inl (cI, 24, .inl ct)), (qE, .inl (cI, 4, .inl er))]) (hS : va_S A s.heap H locs) (ls : Array Slot) (hl : lv_has ls 5 [(0, .ref mo), (1, .long x1), (3, .int (nI r))]), W p l e ({ frames := 4, cells := 0, slots := 0, locals := 91 }) s m args below meth c H locs 0 0 Q (F0 m 69 ls []) := by
    intro fu_69
    induction fu_69 with
    | zero => intro r x1 hr e1 hfu; exact absurd hfu (Nat.not_lt_zero _)
    | succ fu_69 ih_69 =>
      intro r x1 hr e1 hfu_69 H locs hP hD hS ls hl
      refine lv_iload_n hx hb dX6_digest_69 rfl (lv_at hl 2 rfl) ?_
      refine lv_aload_n hx hb dX6_digest_70 rfl (lv_at hl 0 rfl) ?_
      refine va_get (D := D) (ci := 6) (v := .ref qA) (C := RX6) (T := TX6) (N := 15) hx hb hts ilX6_digest_6 hown hG.1 hP 0 rfl rfl 0 (by decide) (hts (.fieldLink RX6 7 "HornEngineModel" "all" "[I") (List.mem_of_getElem? (i := 5) rfl)) (fun _ h9 => h9) rfl dX6_digest_71 ?_
      refine lv_iconst (v := nI 0) hx hb dX6_digest_74 (by decide) ?_
      refine ia_ld hx hb hG hP 1 rfl 0 rfl (by omega) (by decide) dX6_digest_75 ?_
      refine lv_eqi (y := nI n) hM.1 ?_
      refine lv_icmp_ge (tgt := 133) hx hb dX6_digest_76 (by decide) (fun c_7 => ?_) (fun c_7 => ?_)
      · skip
        have c_7 : n ≤ r := (nI_leI (by omega) (by omega)).mp (show nI n ≤ nI r from c_7)
        refine lv_aload_n hx hb dX6_digest_133 rfl (lv_at hl 0 rfl) ?_
        refine pu_V (As := []) (rest := []) ⟨hx, hb, hml, hown, hts⟩ hG hP (k_X6_whole l D cI cB mo qA qS sm qE qT tl qQ qd qF fm qC ap pl qH qB av hs bs n as_ hM hn hH) (cwV 0 hts gX6_digest_X6_whole rfl rfl rfl (by decide +kernel) ⟨(Nat.le_of_ble_eq_true rfl), (Nat.le_of_ble_eq_true rfl)⟩) [0, 1] rfl 0 rfl rfl rfl rfl hl.1 rfl (Nat.le_of_ble_eq_true rfl) dX6_digest_134 ⟨Nat.zero_le _, Nat.zero_le _⟩ ?_
        refine lv_istore_n (lv' := [(3, .int (mdl hs bs n)), (0, .ref mo), (1, .long x1)]) hx hb dX6_digest_137 rfl hl (by decide) rfl (fun ls hl => ?_)
        refine lv_ldc2 (v := 31) hx hb hown (hts (.constantLong RX6 166 (31)) (List.mem_of_getElem? (i := 2) rfl)) dX6_digest_138 ?_
        refine lv_lload_n hx hb dX6_digest_141 rfl (lv_at hl 2 rfl) ?_
        refine lv_lmul hx hb dX6_digest_142 ?_
        refine lv_iload_n hx hb dX6_digest_143 rfl (lv_at hl 0 rfl) ?_
        refine lv_i2l (v := (mdl hs bs n).toInt64) hx hb dX6_digest_144 rfl ?_
        refine lv_ladd hx hb dX6_digest_145 ?_
        refine lv_lstore_n (lv' := [(1, .long ((31 * x1) + ((mdl hs bs n).toInt64))), (3, .int (mdl hs bs n)), (0, .ref mo)]) hx hb dX6_digest_146 rfl hl (by decide) rfl (fun ls hl => ?_)
        refine lv_aload_n hx hb dX6_digest_147 rfl (lv_at hl 2 rfl) ?_
        refine ef_V (As := []) (rest := []) (wr := [(qE, .inl (cI, 4, .inl er))]) ⟨hx, hb, hml, hown, hts⟩ hG hP hD hS hA (k_X6_propagates l D cI cB mo qA qS sm qE qT tl qQ qd qF fm qC ap pl qH qB av hs bs n as_ qf ff ct hM hn hH hB _) (cwV 0 hts gX6_digest_X6_propagates rfl rfl rfl (by decide +kernel) ⟨(Nat.le_of_ble_eq_true rfl), (Nat.le_of_ble_eq_true rfl)⟩) [0, 1, 2, 3, 4] [5] rfl rfl rfl rfl (by decide) 0 rfl rfl rfl rfl hl.1 rfl (Nat.le_of_ble_eq_true rfl) dX6_digest_148 ⟨(Nat.le_of_ble_eq_true rfl), (Nat.le_of_ble_eq_true rfl)⟩ (fun v_8 u_8 H locs w_8 hP hD hS => ?_)
        obtain ⟨qf9_8, qd9_8, ff9_8, fm9_8, ct9_8⟩ := u_8
        obtain ⟨e_8, w_8⟩ := w_8
        have w_8 : prM (runP hs bs n 16) qf9_8 qd9_8 ff9_8 fm9_8 ∧ qd9_8 ≤ 16 ∧ fm9_8 ≤ 24 := w_8
        have e_8 : v_8 = none := e_8
        subst e_8
        have hP : va_P D vwCl [(mo, .inr (6, [.ref qA, .ref qS, .int (nI sm), .ref qE, .ref qT, .int (nI tl), .ref qQ, .int (nI qd9_8), .ref qF, .int (nI fm9_8), .ref qC, .int (nI ap), .int (nI pl), .ref qH, .ref qB])), (qA, .inl (cI, 50, .inl av)), (qQ, .inl (cI, 16, .inl qf9_8)), (qF, .inl (cI, 24, .inl ff9_8)), (qC, .inl (cI, 24, .inl ct9_8)), (qE, .inl (cI, 4, .inl er))] H := hP.sub [1, 2, 3, 4, 5, 0] rfl
        have hD : va_D A [(mo, .inr (6, [.ref qA, .ref qS, .int (nI sm), .ref qE, .ref qT, .int (nI tl), .ref qQ, .int (nI qd9_8), .ref qF, .int (nI fm9_8), .ref qC, .int (nI ap), .int (nI pl), .ref qH, .ref qB])), (qA, .inl (cI, 50, .inl av)), (qQ, .inl (cI, 16, .inl qf9_8)), (qF, .inl (cI, 24, .inl ff9_8)), (qC, .inl (cI, 24, .inl ct9_8)), (qE, .inl (cI, 4, .inl er))] := hD.sub [1, 2, 3, 4, 5, 0] rfl rfl
        refine W.eq (g2 := F0 m 151 ls []) rfl ?_
        have hR3 := w_8.1
        have hq3 := w_8.2.1
        have hf3 := w_8.2.2
        refine lv_iconst (v := nI 0) hx hb dX6_digest_151 (by decide) ?_
        refine lv_istore (lv' := [(4, .int (nI 0)), (1, .long ((31 * x1) + ((mdl hs bs n).toInt64))), (3, .int (mdl hs bs n)), (0, .ref mo)]) hx hb dX6_digest_152 hl (by decide) rfl (fun ls hl => ?_)
        have lp_154_9 : ∀ (fu_154 : Nat) (i1 : Nat) (x2 : Int64) (hi1 : i1 ≤ qd9_8) (e2 : x2 = mfF qf9_8 (mixI x1 (mdl hs bs n)) i1) (hfu_154 : qd9_8 - i1 < fu_154) (H : Heap) (locs : List Loc) (hP : va_P D vwCl [(mo, .inr (6, [.ref qA, .ref qS, .int (nI sm), .ref qE, .ref qT, .int (nI tl), .ref qQ, .int (nI qd9_8), .ref qF, .int (nI fm9_8), .ref qC, .int (nI ap), .int (nI pl), .ref qH, .ref qB])), (qA, .inl (cI, 50, .inl av)), (qQ, .inl (cI, 16, .inl qf9_8)), (qF, .inl (cI, 24, .inl ff9_8)), (qC, .inl (cI, 24, .inl ct9_8)), (qE, .inl (cI, 4, .inl er))] H) (hD : va_D A [(mo, .inr (6, [.ref qA, .ref qS, .int (nI sm), .ref qE, .ref qT, .int (nI tl), .ref qQ, .int (nI qd9_8), .ref qF, .int (nI fm9_8), .ref qC, .int (nI ap), .int (nI pl), .ref qH, .ref qB])), (qA, .inl (cI, 50, .inl av)), (qQ, .inl (cI, 16, .inl qf9_8)), (qF, .inl (cI, 24, .inl ff9_8)), (qC, .inl (cI, 24, .inl ct9_8)), (qE, .inl (cI, 4, .inl er))]) (hS : va_S A s.heap H locs) (ls : Array Slot) (hl : lv_has ls 5 [(0, .ref mo), (1, .long x2), (3, .int (mdl hs bs n)), (4, .int (nI i1))]), W p l e ({ frames := 4, cells := 0, slots := 0, locals := 91 }) s m args below meth c H locs 0 0 Q (F0 m 154 ls []) := by
          intro fu_154
          induction fu_154 with
          | zero => intro i1 x2 hi1 e2 hfu; exact absurd hfu (Nat.not_lt_zero _)
          | succ fu_154 ih_154 =>
            intro i1 x2 hi1 e2 hfu_154 H locs hP hD hS ls hl
            refine lv_iload hx hb dX6_digest_154 (lv_at hl 3 rfl) ?_
            refine lv_aload_n hx hb dX6_digest_156 rfl (lv_at hl 0 rfl) ?_
            refine va_get (D := D) (ci := 6) (v := .int (nI qd9_8)) (C := RX6) (T := TX6) (N := 15) hx hb hts ilX6_digest_6 hown hG.1 hP 0 rfl rfl 7 (by decide) (hts (.fieldLink RX6 93 "HornEngineModel" "queued" "I") (List.mem_of_getElem? (i := 6) rfl)) (fun _ h9 => h9) rfl dX6_digest_157 ?_
            refine lv_icmp_ge (tgt := 184) hx hb dX6_digest_160 (by decide) (fun c_10 => ?_) (fun c_10 => ?_)
            · skip
              have c_10 : qd9_8 ≤ i1 := (nI_leI (by omega) (by omega)).mp (show nI qd9_8 ≤ nI i1 from c_10)
              refine lv_iconst (v := nI 0) hx hb dX6_digest_184 (by decide) ?_
              refine lv_istore (lv' := [(4, .int (nI 0)), (0, .ref mo), (1, .long x2), (3, .int (mdl hs bs n))]) hx hb dX6_digest_185 hl (by decide) rfl (fun ls hl => ?_)
              have lp_187_11 : ∀ (fu_187 : Nat) (i2 : Nat) (x3 : Int64) (hi2 : i2 ≤ fm9_8) (e3 : x3 = mfF ff9_8 x2 i2) (hfu_187 : fm9_8 - i2 < fu_187) (H : Heap) (locs : List Loc) (hP : va_P D vwCl [(mo, .inr (6, [.ref qA, .ref qS, .int (nI sm), .ref qE, .ref qT, .int (nI tl), .ref qQ, .int (nI qd9_8), .ref qF, .int (nI fm9_8), .ref qC, .int (nI ap), .int (nI pl), .ref qH, .ref qB])), (qA, .inl (cI, 50, .inl av)), (qQ, .inl (cI, 16, .inl qf9_8)), (qF, .inl (cI, 24, .inl ff9_8)), (qC, .inl (cI, 24, .inl ct9_8)), (qE, .inl (cI, 4, .inl er))] H) (hD : va_D A [(mo, .inr (6, [.ref qA, .ref qS, .int (nI sm), .ref qE, .ref qT, .int (nI tl), .ref qQ, .int (nI qd9_8), .ref qF, .int (nI fm9_8), .ref qC, .int (nI ap), .int (nI pl), .ref qH, .ref qB])), (qA, .inl (cI, 50, .inl av)), (qQ, .inl (cI, 16, .inl qf9_8)), (qF, .inl (cI, 24, .inl ff9_8)), (qC, .inl (cI, 24, .inl ct9_8)), (qE, .inl (cI, 4, .inl er))]) (hS : va_S A s.heap H locs) (ls : Array Slot) (hl : lv_has ls 5 [(0, .ref mo), (1, .long x3), (3, .int (mdl hs bs n)), (4, .int (nI i2))]), W p l e ({ frames := 4, cells := 0, slots := 0, locals := 91 }) s m args below meth c H locs 0 0 Q (F0 m 187 ls []) := by
                intro fu_187
                induction fu_187 with
                | zero => intro i2 x3 hi2 e3 hfu; exact absurd hfu (Nat.not_lt_zero _)
                | succ fu_187 ih_187 =>
                  intro i2 x3 hi2 e3 hfu_187 H locs hP hD hS ls hl
                  refine lv_iload hx hb dX6_digest_187 (lv_at hl 3 rfl) ?_
                  refine lv_aload_n hx hb dX6_digest_189 rfl (lv_at hl 0 rfl) ?_
                  refine va_get (D := D) (ci := 6) (v := .int (nI fm9_8)) (C := RX6) (T := TX6) (N := 15) hx hb hts ilX6_digest_6 hown hG.1 hP 0 rfl rfl 9 (by decide) (hts (.fieldLink RX6 90 "HornEngineModel" "fireMany" "I") (List.mem_of_getElem? (i := 8) rfl)) (fun _ h9 => h9) rfl dX6_digest_190 ?_
                  refine lv_icmp_ge (tgt := 217) hx hb dX6_digest_193 (by decide) (fun c_12 => ?_) (fun c_12 => ?_)
                  · skip
                    have c_12 : fm9_8 ≤ i2 := (nI_leI (by omega) (by omega)).mp (show nI fm9_8 ≤ nI i2 from c_12)
                    refine lv_iconst (v := nI 0) hx hb dX6_digest_217 (by decide) ?_
                    refine lv_istore (lv' := [(4, .int (nI 0)), (0, .ref mo), (1, .long x3), (3, .int (mdl hs bs n))]) hx hb dX6_digest_218 hl (by decide) rfl (fun ls hl => ?_)
                    have lp_220_13 : ∀ (fu_220 : Nat) (a : Nat) (x4 : Int64) (ha : a ≤ 16) (e4 : x4 = maF hs bs n x3 a) (hfu_220 : 16 - a < fu_220) (H : Heap) (locs : List Loc) (hP : va_P D vwCl [(mo, .inr (6, [.ref qA, .ref qS, .int (nI sm), .ref qE, .ref qT, .int (nI tl), .ref qQ, .int (nI qd9_8), .ref qF, .int (nI fm9_8), .ref qC, .int (nI ap), .int (nI pl), .ref qH, .ref qB])), (qA, .inl (cI, 50, .inl av)), (qQ, .inl (cI, 16, .inl qf9_8)), (qF, .inl (cI, 24, .inl ff9_8)), (qC, .inl (cI, 24, .inl ct9_8)), (qE, .inl (cI, 4, .inl er))] H) (hD : va_D A [(mo, .inr (6, [.ref qA, .ref qS, .int (nI sm), .ref qE, .ref qT, .int (nI tl), .ref qQ, .int (nI qd9_8), .ref qF, .int (nI fm9_8), .ref qC, .int (nI ap), .int (nI pl), .ref qH, .ref qB])), (qA, .inl (cI, 50, .inl av)), (qQ, .inl (cI, 16, .inl qf9_8)), (qF, .inl (cI, 24, .inl ff9_8)), (qC, .inl (cI, 24, .inl ct9_8)), (qE, .inl (cI, 4, .inl er))]) (hS : va_S A s.heap H locs) (ls : Array Slot) (hl : lv_has ls 5 [(0, .ref mo), (1, .long x4), (3, .int (mdl hs bs n)), (4, .int (nI a))]), W p l e ({ frames := 4, cells := 0, slots := 0, locals := 91 }) s m args below meth c H locs 0 0 Q (F0 m 220 ls []) := by
                      intro fu_220
                      induction fu_220 with
                      | zero => intro a x4 ha e4 hfu; exact absurd hfu (Nat.not_lt_zero _)
                      | succ fu_220 ih_220 =>
                        intro a x4 ha e4 hfu_220 H locs hP hD hS ls hl
                        refine lv_iload hx hb dX6_digest_220 (lv_at hl 3 rfl) ?_
                        refine lv_bipush (v := nI 16) hx hb dX6_digest_222 (by decide) ?_
                        refine lv_icmp_ge (tgt := 281) hx hb dX6_digest_224 (by decide) (fun c_14 => ?_) (fun c_14 => ?_)
                        · skip
                          have c_14 : 16 ≤ a := (nI_leI (by omega) (by omega)).mp (show nI 16 ≤ nI a from c_14)
                          refine lv_ldc2 (v := 31) hx hb hown (hts (.constantLong RX6 166 (31)) (List.mem_of_getElem? (i := 2) rfl)) dX6_digest_281 ?_
                          refine lv_ldc2 (v := 31) hx hb hown (hts (.constantLong RX6 166 (31)) (List.mem_of_getElem? (i := 2) rfl)) dX6_digest_284 ?_
                          refine lv_lload_n hx hb dX6_digest_287 rfl (lv_at hl 1 rfl) ?_
                          refine lv_lmul hx hb dX6_digest_288 ?_
                          refine lv_aload_n hx hb dX6_digest_289 rfl (lv_at hl 0 rfl) ?_
                          refine pu_V (As := []) (rest := [.long (31 * x4), .long 31]) ⟨hx, hb, hml, hown, hts⟩ hG hP (k_X6_cyclicAtoms l D cI cB mo qA qS sm qE qT tl qQ qd9_8 qF fm9_8 qC ap pl qH qB av hs bs n as_ hM hn hH hB) (cwV 0 hts gX6_digest_X6_cyclicAtoms rfl rfl rfl (by decide +kernel) ⟨(Nat.le_of_ble_eq_true rfl), (Nat.le_of_ble_eq_true rfl)⟩) [0, 1] rfl 0 rfl rfl rfl rfl hl.1 rfl (Nat.le_of_ble_eq_true rfl) dX6_digest_290 ⟨Nat.zero_le _, Nat.zero_le _⟩ ?_
                          refine lv_i2l (v := (cycF hs bs n 16).toInt64) hx hb dX6_digest_293 rfl ?_
                          refine lv_ladd hx hb dX6_digest_294 ?_
                          refine lv_lmul hx hb dX6_digest_295 ?_
                          refine lv_aload_n hx hb dX6_digest_296 rfl (lv_at hl 0 rfl) ?_
                          refine va_get (D := D) (ci := 6) (v := .int (nI sm)) (C := RX6) (T := TX6) (N := 15) hx hb hts ilX6_digest_6 hown hG.1 hP 0 rfl rfl 2 (by decide) (hts (.fieldLink RX6 37 "HornEngineModel" "savedMany" "I") (List.mem_of_getElem? (i := 10) rfl)) (fun _ h9 => h9) rfl dX6_digest_297 ?_
                          refine lv_i2l (v := (nI sm).toInt64) hx hb dX6_digest_300 rfl ?_
                          refine lv_ladd hx hb dX6_digest_301 ?_
                          exact hret _ (qf9_8, qd9_8, ff9_8, fm9_8, ct9_8) _ _ _ _ (⟨by rw [show digS hs bs n as_ tl sm er = mixI (mixI x4 (cycF hs bs n 16)) (nI sm) from by rw [e4, show a = 16 from by omega, e3, show i2 = fm9_8 from by omega, e2, show i1 = qd9_8 from by omega, e1, show r = n from by omega, mfF_tab ff9_8, mfF_tab qf9_8, hR3.1, hR3.2]; rfl]; rfl, hq3, hf3⟩) (hP) (hD) hS dX6_digest_302
                        · skip
                          have c_14 : ¬ (16 ≤ a) := fun h9 => (show ¬ (nI 16 ≤ nI a) from c_14) ((nI_leI (by omega) (by omega)).mpr h9)
                          refine lv_iload_n hx hb dX6_digest_227 rfl (lv_at hl 2 rfl) ?_
                          refine lv_iload hx hb dX6_digest_228 (lv_at hl 3 rfl) ?_
                          refine lv_ishr hx hb dX6_digest_230 ?_
                          refine lv_iconst (v := nI 1) hx hb dX6_digest_231 (by decide) ?_
                          refine lv_iand hx hb dX6_digest_232 ?_
                          refine lv_iconst (v := nI 1) hx hb dX6_digest_233 (by decide) ?_
                          refine lv_icmp_ne (tgt := 275) hx hb dX6_digest_234 (by decide) (fun c_15 => ?_) (fun c_15 => ?_)
                          · skip
                            have hm : has (mdl hs bs n) (nI a) = false := Bool.eq_false_iff.mpr (fun q => c_15 ((shr_1 (by omega)).mpr q))
                            refine lv_iinc (v := nI (a + 1)) (lv' := [(4, .int (nI (a + 1))), (0, .ref mo), (1, .long x4), (3, .int (mdl hs bs n))]) hx hb dX6_digest_275 hl (k := 3) rfl (nI_s1 a) (by decide) rfl (fun ls hl => ?_)
                            refine lv_goto (tgt := 220) hx hb dX6_digest_278 (by decide) ?_
                            exact ih_220 (a + 1) x4 (by omega) (by subst e4; rw [maF, if_neg (by rw [hm]; decide)]) (by omega) _ _ hP hD hS ls (lv_sub hl [1, 2, 3, 0] rfl)
                          · skip
                            have hm : has (mdl hs bs n) (nI a) = true := (shr_1 (by omega)).mp c_15
                            have hlv := lev_spec (show a < 16 by omega) hm
                            refine lv_ldc2 (v := 31) hx hb hown (hts (.constantLong RX6 166 (31)) (List.mem_of_getElem? (i := 2) rfl)) dX6_digest_237 ?_
                            refine lv_ldc2 (v := 31) hx hb hown (hts (.constantLong RX6 166 (31)) (List.mem_of_getElem? (i := 2) rfl)) dX6_digest_240 ?_
                            refine lv_ldc2 (v := 31) hx hb hown (hts (.constantLong RX6 166 (31)) (List.mem_of_getElem? (i := 2) rfl)) dX6_digest_243 ?_
                            refine lv_lload_n hx hb dX6_digest_246 rfl (lv_at hl 1 rfl) ?_
                            refine lv_lmul hx hb dX6_digest_247 ?_
                            refine lv_aload_n hx hb dX6_digest_248 rfl (lv_at hl 0 rfl) ?_
                            refine lv_iload hx hb dX6_digest_249 (lv_at hl 3 rfl) ?_
                            refine pu_V (As := [.int (nI a)]) (rest := [.long (31 * x4), .long 31, .long 31]) ⟨hx, hb, hml, hown, hts⟩ hG hP (k_X6_levelOf l D cI cB mo qA qS sm qE qT tl qQ qd9_8 qF fm9_8 qC ap pl qH qB av hs bs n as_ a (lev hs bs n a) hM hn (by omega) hlv.1 hlv.2.1 hlv.2.2) (cwV 1 hts gX6_digest_X6_levelOf rfl rfl rfl (by decide +kernel) ⟨(Nat.le_of_ble_eq_true rfl), (Nat.le_of_ble_eq_true rfl)⟩) [0, 1] rfl 0 rfl rfl rfl rfl hl.1 rfl (Nat.le_of_ble_eq_true rfl) dX6_digest_251 ⟨Nat.zero_le _, Nat.zero_le _⟩ ?_
                            refine lv_i2l (v := (nI (lev hs bs n a)).toInt64) hx hb dX6_digest_254 rfl ?_
                            refine lv_ladd hx hb dX6_digest_255 ?_
                            refine lv_lmul hx hb dX6_digest_256 ?_
                            refine lv_aload_n hx hb dX6_digest_257 rfl (lv_at hl 0 rfl) ?_
                            refine lv_iload hx hb dX6_digest_258 (lv_at hl 3 rfl) ?_
                            refine pu_V (As := [.int (nI a)]) (rest := [.long (31 * ((31 * x4) + ((nI (lev hs bs n a)).toInt64))), .long 31]) ⟨hx, hb, hml, hown, hts⟩ hG hP (k_X6_reasonOf l D cI cB mo qA qS sm qE qT tl qQ qd9_8 qF fm9_8 qC ap pl qH qB av hs bs n as_ a hM hn hH (by omega)) (cwV 1 hts gX6_digest_X6_reasonOf rfl rfl rfl (by decide +kernel) ⟨(Nat.le_of_ble_eq_true rfl), (Nat.le_of_ble_eq_true rfl)⟩) [0, 1] rfl 0 rfl rfl rfl rfl hl.1 rfl (Nat.le_of_ble_eq_true rfl) dX6_digest_260 ⟨Nat.zero_le _, Nat.zero_le _⟩ ?_
                            refine lv_i2l (v := (reaF hs bs n a n).toInt64) hx hb dX6_digest_263 rfl ?_
                            refine lv_ladd hx hb dX6_digest_264 ?_
                            refine lv_lmul hx hb dX6_digest_265 ?_
                            refine lv_aload_n hx hb dX6_digest_266 rfl (lv_at hl 0 rfl) ?_
                            refine lv_iload hx hb dX6_digest_267 (lv_at hl 3 rfl) ?_
                            refine pu_V (As := [.int (nI a)]) (rest := [.long (31 * ((31 * ((31 * x4) + ((nI (lev hs bs n a)).toInt64))) + ((reaF hs bs n a n).toInt64)))]) ⟨hx, hb, hml, hown, hts⟩ hG hP (k_X6_necessaryOf l D cI cB mo qA qS sm qE qT tl qQ qd9_8 qF fm9_8 qC ap pl qH qB av hs bs n as_ a hM hn hH (by omega)) (cwV 1 hts gX6_digest_X6_necessaryOf rfl rfl rfl (by decide +kernel) ⟨(Nat.le_of_ble_eq_true rfl), (Nat.le_of_ble_eq_true rfl)⟩) [0, 1] rfl 0 rfl rfl rfl rfl hl.1 rfl (Nat.le_of_ble_eq_true rfl) dX6_digest_269 ⟨Nat.zero_le _, Nat.zero_le _⟩ ?_
                            refine lv_i2l (v := (necF hs bs n a n).toInt64) hx hb dX6_digest_272 rfl ?_
                            refine lv_ladd hx hb dX6_digest_273 ?_
                            refine lv_lstore_n (lv' := [(1, .long ((31 * ((31 * ((31 * x4) + ((nI (lev hs bs n a)).toInt64))) + ((reaF hs bs n a n).toInt64))) + ((necF hs bs n a n).toInt64))), (0, .ref mo), (3, .int (mdl hs bs n)), (4, .int (nI a))]) hx hb dX6_digest_274 rfl hl (by decide) rfl (fun ls hl => ?_)
                            refine lv_iinc (v := nI (a + 1)) (lv' := [(4, .int (nI (a + 1))), (1, .long ((31 * ((31 * ((31 * x4) + ((nI (lev hs bs n a)).toInt64))) + ((reaF hs bs n a n).toInt64))) + ((necF hs bs n a n).toInt64))), (0, .ref mo), (3, .int (mdl hs bs n))]) hx hb dX6_digest_275 hl (k := 3) rfl (nI_s1 a) (by decide) rfl (fun ls hl => ?_)
                            refine lv_goto (tgt := 220) hx hb dX6_digest_278 (by decide) ?_
                            exact ih_220 (a + 1) ((31 * ((31 * ((31 * x4) + ((nI (lev hs bs n a)).toInt64))) + ((reaF hs bs n a n).toInt64))) + ((necF hs bs n a n).toInt64)) (by omega) (by subst e4; rw [maF, if_pos hm]; rfl) (by omega) _ _ hP hD hS ls (lv_sub hl [2, 1, 3, 0] rfl)
                    exact lp_220_13 (16 - 0 + 1) 0 x3 (by omega) rfl (Nat.lt_succ_self _) _ _ hP hD hS ls (lv_sub hl [1, 2, 3, 0] rfl)
                  · skip
                    have c_12 : ¬ (fm9_8 ≤ i2) := fun h9 => (show ¬ (nI fm9_8 ≤ nI i2) from c_12) ((nI_leI (by omega) (by omega)).mpr h9)
                    refine lv_ldc2 (v := 31) hx hb hown (hts (.constantLong RX6 166 (31)) (List.mem_of_getElem? (i := 2) rfl)) dX6_digest_196 ?_
                    refine lv_lload_n hx hb dX6_digest_199 rfl (lv_at hl 1 rfl) ?_
                    refine lv_lmul hx hb dX6_digest_200 ?_
                    refine lv_aload_n hx hb dX6_digest_201 rfl (lv_at hl 0 rfl) ?_
                    refine va_get (D := D) (ci := 6) (v := .ref qF) (C := RX6) (T := TX6) (N := 15) hx hb hts ilX6_digest_6 hown hG.1 hP 0 rfl rfl 8 (by decide) (hts (.fieldLink RX6 25 "HornEngineModel" "fires" "[I") (List.mem_of_getElem? (i := 9) rfl)) (fun _ h9 => h9) rfl dX6_digest_202 ?_
                    refine lv_iload hx hb dX6_digest_205 (lv_at hl 3 rfl) ?_
                    refine ia_ld hx hb hG hP 3 rfl i2 rfl (by omega) (by decide) dX6_digest_207 ?_
                    refine lv_i2l (v := (ff9_8 i2).toInt64) hx hb dX6_digest_208 rfl ?_
                    refine lv_ladd hx hb dX6_digest_209 ?_
                    refine lv_lstore_n (lv' := [(1, .long ((31 * x3) + ((ff9_8 i2).toInt64))), (0, .ref mo), (3, .int (mdl hs bs n)), (4, .int (nI i2))]) hx hb dX6_digest_210 rfl hl (by decide) rfl (fun ls hl => ?_)
                    refine lv_iinc (v := nI (i2 + 1)) (lv' := [(4, .int (nI (i2 + 1))), (1, .long ((31 * x3) + ((ff9_8 i2).toInt64))), (0, .ref mo), (3, .int (mdl hs bs n))]) hx hb dX6_digest_211 hl (k := 3) rfl (nI_s1 i2) (by decide) rfl (fun ls hl => ?_)
                    refine lv_goto (tgt := 187) hx hb dX6_digest_214 (by decide) ?_
                    exact ih_187 (i2 + 1) ((31 * x3) + ((ff9_8 i2).toInt64)) (by omega) (by subst e3; rfl) (by omega) _ _ hP hD hS ls (lv_sub hl [2, 1, 3, 0] rfl)
              exact lp_187_11 (fm9_8 - 0 + 1) 0 x2 (by omega) rfl (Nat.lt_succ_self _) _ _ hP hD hS ls (lv_sub hl [1, 2, 3, 0] rfl)
            · skip
              have c_10 : ¬ (qd9_8 ≤ i1) := fun h9 => (show ¬ (nI qd9_8 ≤ nI i1) from c_10) ((nI_leI (by omega) (by omega)).mpr h9)
              refine lv_ldc2 (v := 31) hx hb hown (hts (.constantLong RX6 166 (31)) (List.mem_of_getElem? (i := 2) rfl)) dX6_digest_163 ?_
              refine lv_lload_n hx hb dX6_digest_166 rfl (lv_at hl 1 rfl) ?_
              refine lv_lmul hx hb dX6_digest_167 ?_
              refine lv_aload_n hx hb dX6_digest_168 rfl (lv_at hl 0 rfl) ?_
              refine va_get (D := D) (ci := 6) (v := .ref qQ) (C := RX6) (T := TX6) (N := 15) hx hb hts ilX6_digest_6 hown hG.1 hP 0 rfl rfl 6 (by decide) (hts (.fieldLink RX6 22 "HornEngineModel" "queue" "[I") (List.mem_of_getElem? (i := 7) rfl)) (fun _ h9 => h9) rfl dX6_digest_169 ?_
              refine lv_iload hx hb dX6_digest_172 (lv_at hl 3 rfl) ?_
              refine ia_ld hx hb hG hP 2 rfl i1 rfl (by omega) (by decide) dX6_digest_174 ?_
              refine lv_i2l (v := (qf9_8 i1).toInt64) hx hb dX6_digest_175 rfl ?_
              refine lv_ladd hx hb dX6_digest_176 ?_
              refine lv_lstore_n (lv' := [(1, .long ((31 * x2) + ((qf9_8 i1).toInt64))), (0, .ref mo), (3, .int (mdl hs bs n)), (4, .int (nI i1))]) hx hb dX6_digest_177 rfl hl (by decide) rfl (fun ls hl => ?_)
              refine lv_iinc (v := nI (i1 + 1)) (lv' := [(4, .int (nI (i1 + 1))), (1, .long ((31 * x2) + ((qf9_8 i1).toInt64))), (0, .ref mo), (3, .int (mdl hs bs n))]) hx hb dX6_digest_178 hl (k := 3) rfl (nI_s1 i1) (by decide) rfl (fun ls hl => ?_)
              refine lv_goto (tgt := 154) hx hb dX6_digest_181 (by decide) ?_
              exact ih_154 (i1 + 1) ((31 * x2) + ((qf9_8 i1).toInt64)) (by omega) (by subst e2; rfl) (by omega) _ _ hP hD hS ls (lv_sub hl [2, 1, 3, 0] rfl)
        exact lp_154_9 (qd9_8 - 0 + 1) 0 ((31 * x1) + ((mdl hs bs n).toInt64)) (by omega) rfl (Nat.lt_succ_self _) _ _ hP hD hS ls (lv_sub hl [3, 1, 2, 0] rfl)
      · skip
        have c_7 : ¬ (n ≤ r) := fun h9 => (show ¬ (nI n ≤ nI r) from c_7) ((nI_leI (by omega) (by omega)).mpr h9)
        refine lv_ldc2 (v := 31) hx hb hown (hts (.constantLong RX6 166 (31)) (List.mem_of_getElem? (i := 2) rfl)) dX6_digest_79 ?_
        refine lv_ldc2 (v := 31) hx hb hown (hts (.constantLong RX6 166 (31)) (List.mem_of_getElem? (i := 2) rfl)) dX6_digest_82 ?_
        refine lv_lload_n hx hb dX6_digest_85 rfl (lv_at hl 1 rfl) ?_
        refine lv_lmul hx hb dX6_digest_86 ?_
        refine lv_aload_n hx hb dX6_digest_87 rfl (lv_at hl 0 rfl) ?_
        refine lv_iload_n hx hb dX6_digest_88 rfl (lv_at hl 2 rfl) ?_
        refine pu_V (As := [.int (nI r)]) (rest := [.long (31 * x1), .long 31]) ⟨hx, hb, hml, hown, hts⟩ hG hP (k_X6_headOf l D cI cB mo qA qS sm qE qT tl qQ qd qF fm qC ap pl qH qB av hs bs n as_ r hM hn (by omega)) (cwV 1 hts gX6_digest_X6_headOf rfl rfl rfl (by decide +kernel) ⟨(Nat.le_of_ble_eq_true rfl), (Nat.le_of_ble_eq_true rfl)⟩) [0, 1] rfl 0 rfl rfl rfl rfl hl.1 rfl (Nat.le_of_ble_eq_true rfl) dX6_digest_89 ⟨Nat.zero_le _, Nat.zero_le _⟩ ?_
        refine lv_i2l (v := (hs r).toInt64) hx hb dX6_digest_92 rfl ?_
        refine lv_ladd hx hb dX6_digest_93 ?_
        refine lv_lmul hx hb dX6_digest_94 ?_
        refine lv_aload_n hx hb dX6_digest_95 rfl (lv_at hl 0 rfl) ?_
        refine lv_iload_n hx hb dX6_digest_96 rfl (lv_at hl 2 rfl) ?_
        refine pu_V (As := [.int (nI r)]) (rest := [.long (31 * ((31 * x1) + ((hs r).toInt64)))]) ⟨hx, hb, hml, hown, hts⟩ hG hP (k_X6_bodyOf l D cI cB mo qA qS sm qE qT tl qQ qd qF fm qC ap pl qH qB av hs bs n as_ r hM hn (by omega)) (cwV 1 hts gX6_digest_X6_bodyOf rfl rfl rfl (by decide +kernel) ⟨(Nat.le_of_ble_eq_true rfl), (Nat.le_of_ble_eq_true rfl)⟩) [0, 1] rfl 0 rfl rfl rfl rfl hl.1 rfl (Nat.le_of_ble_eq_true rfl) dX6_digest_97 ⟨Nat.zero_le _, Nat.zero_le _⟩ ?_
        refine lv_i2l (v := (bs r).toInt64) hx hb dX6_digest_100 rfl ?_
        refine lv_ladd hx hb dX6_digest_101 ?_
        refine lv_lstore_n (lv' := [(1, .long ((31 * ((31 * x1) + ((hs r).toInt64))) + ((bs r).toInt64))), (0, .ref mo), (3, .int (nI r))]) hx hb dX6_digest_102 rfl hl (by decide) rfl (fun ls hl => ?_)
        refine lv_ldc2 (v := 31) hx hb hown (hts (.constantLong RX6 166 (31)) (List.mem_of_getElem? (i := 2) rfl)) dX6_digest_103 ?_
        refine lv_ldc2 (v := 31) hx hb hown (hts (.constantLong RX6 166 (31)) (List.mem_of_getElem? (i := 2) rfl)) dX6_digest_106 ?_
        refine lv_lload_n hx hb dX6_digest_109 rfl (lv_at hl 0 rfl) ?_
        refine lv_lmul hx hb dX6_digest_110 ?_
        refine lv_aload_n hx hb dX6_digest_111 rfl (lv_at hl 1 rfl) ?_
        refine lv_iload_n hx hb dX6_digest_112 rfl (lv_at hl 2 rfl) ?_
        refine pu_V (As := [.int (nI r)]) (rest := [.long (31 * ((31 * ((31 * x1) + ((hs r).toInt64))) + ((bs r).toInt64))), .long 31]) ⟨hx, hb, hml, hown, hts⟩ hG hP (k_X6_overDeletedOf l D cI cB mo qA qS sm qE qT tl qQ qd qF fm qC ap pl qH qB av hs bs n as_ r hM hn hH (by omega)) (cwV 1 hts gX6_digest_X6_overDeletedOf rfl rfl rfl (by decide +kernel) ⟨(Nat.le_of_ble_eq_true rfl), (Nat.le_of_ble_eq_true rfl)⟩) [0, 1] rfl 0 rfl rfl rfl rfl hl.1 rfl (Nat.le_of_ble_eq_true rfl) dX6_digest_113 ⟨Nat.zero_le _, Nat.zero_le _⟩ ?_
        refine lv_i2l (v := (ovd hs bs n r).toInt64) hx hb dX6_digest_116 rfl ?_
        refine lv_ladd hx hb dX6_digest_117 ?_
        refine lv_lmul hx hb dX6_digest_118 ?_
        refine lv_aload_n hx hb dX6_digest_119 rfl (lv_at hl 1 rfl) ?_
        refine lv_iload_n hx hb dX6_digest_120 rfl (lv_at hl 2 rfl) ?_
        refine pu_V (As := [.int (nI r)]) (rest := [.long (31 * ((31 * ((31 * ((31 * x1) + ((hs r).toInt64))) + ((bs r).toInt64))) + ((ovd hs bs n r).toInt64)))]) ⟨hx, hb, hml, hown, hts⟩ hG hP (k_X6_lostOf l D cI cB mo qA qS sm qE qT tl qQ qd qF fm qC ap pl qH qB av hs bs n as_ r hM hn hH (by omega)) (cwV 1 hts gX6_digest_X6_lostOf rfl rfl rfl (by decide +kernel) ⟨(Nat.le_of_ble_eq_true rfl), (Nat.le_of_ble_eq_true rfl)⟩) [0, 1] rfl 0 rfl rfl rfl rfl hl.1 rfl (Nat.le_of_ble_eq_true rfl) dX6_digest_121 ⟨Nat.zero_le _, Nat.zero_le _⟩ ?_
        refine lv_i2l (v := (lst hs bs n r).toInt64) hx hb dX6_digest_124 rfl ?_
        refine lv_ladd hx hb dX6_digest_125 ?_
        refine lv_lstore_n (lv' := [(1, .long ((31 * ((31 * ((31 * ((31 * x1) + ((hs r).toInt64))) + ((bs r).toInt64))) + ((ovd hs bs n r).toInt64))) + ((lst hs bs n r).toInt64))), (0, .ref mo), (3, .int (nI r))]) hx hb dX6_digest_126 rfl hl (by decide) rfl (fun ls hl => ?_)
        refine lv_iinc (v := nI (r + 1)) (lv' := [(3, .int (nI (r + 1))), (1, .long ((31 * ((31 * ((31 * ((31 * x1) + ((hs r).toInt64))) + ((bs r).toInt64))) + ((ovd hs bs n r).toInt64))) + ((lst hs bs n r).toInt64))), (0, .ref mo)]) hx hb dX6_digest_127 hl (k := 2) rfl (nI_s1 r) (by decide) rfl (fun ls hl => ?_)
        refine lv_goto (tgt := 69) hx hb dX6_digest_130 (by decide) ?_
        exact ih_69 (r + 1) ((31 * ((31 * ((31 * ((31 * x1) + ((hs r).toInt64))) + ((bs r).toInt64))) + ((ovd hs bs n r).toInt64))) + ((lst hs bs n r).toInt64)) (by omega) (by subst e1; rfl) (by omega) _ _ hP hD hS ls (lv_sub hl [2, 1, 0] rfl)
  exact lp_69_6 (n - 0 + 1) 0 ((31 * ((31 * ((31 * ((31 * ((31 * ((31 * ((31 * 2719) + ((er 0).toInt64))) + ((er 1).toInt64))) + ((er 2).toInt64))) + ((er 3).toInt64))) + ((nI tl).toInt64))) + as_.toInt64)) + ((nI n).toInt64)) (by omega) rfl (Nat.lt_succ_self _) _ _ hP hD hS ls (lv_sub hl [2, 1, 0] rfl)
