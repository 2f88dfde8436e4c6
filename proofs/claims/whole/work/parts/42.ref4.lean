theorem ilX6_fires_6 : ∀ w ∈ u_ws RX6 TX6 15, w ∈ wsX6_fires := by decide +kernel
theorem ilX6_propagates_6 : ∀ w ∈ u_ws RX6 TX6 15, w ∈ wsX6_propagates := by decide +kernel
theorem ilX6_derived_6 : ∀ w ∈ u_ws RX6 TX6 15, w ∈ wsX6_derived := by decide +kernel
theorem ilX6_fired_6 : ∀ w ∈ u_ws RX6 TX6 15, w ∈ wsX6_fired := by decide +kernel
set_option maxHeartbeats 4000000 in
set_option maxRecDepth 100000 in
theorem k_X6_fires (l : Launch) (D : va_G) (cI cB : ClassId) (mo : Nat) (qA : Nat) (qS : Nat) (sm : Nat) (qE : Nat) (qT : Nat) (tl : Nat) (qQ : Nat) (qd : Nat) (qF : Nat) (fm : Nat) (qC : Nat) (ap : Nat) (pl : Nat) (qH : Nat) (qB : Nat) (av : Nat → Int32) (hs : Nat → Int32) (bs : Nat → Int32) (n : Nat) (as_ : Int32) (qf : Nat → Int32) (ff : Nat → Int32) (r : Nat) (s_ : PS) (hM : mA av hs bs n as_) (hn : n ≤ 24) (hr : r < n) (hR : prM s_ qf qd ff fm) (hqd : qd ≤ 16) (ho : okF s_ (hs r)) (sz : Nat) : Wr l yX6_fires wsX6_fires ({ frames := 1, cells := 0, slots := 0, locals := 21 }) D cI cB [.ref mo, .int (nI r)] [(mo, .inr (6, [.ref qA, .ref qS, .int (nI sm), .ref qE, .ref qT, .int (nI tl), .ref qQ, .int (nI qd), .ref qF, .int (nI fm), .ref qC, .int (nI ap), .int (nI pl), .ref qH, .ref qB])), (qA, .inl (cI, 50, .inl av)), (qQ, .inl (cI, 16, .inl qf)), (qF, .inl (cI, 24, .inl ff))] sz (S := (Nat → Int32) × Nat × (Nat → Int32) × Nat) (fun v u => v = none ∧ (prM (fireP hs r s_) u.1 u.2.1 u.2.2.1 u.2.2.2 ∧ u.2.1 ≤ 16 ∧ u.2.2.2 ≤ 24)) (fun u => [(mo, .inr (6, [.ref qA, .ref qS, .int (nI sm), .ref qE, .ref qT, .int (nI tl), .ref qQ, .int (nI u.2.1), .ref qF, .int (nI u.2.2.2), .ref qC, .int (nI ap), .int (nI pl), .ref qH, .ref qB])), (qA, .inl (cI, 50, .inl av)), (qQ, .inl (cI, 16, .inl u.1)), (qF, .inl (cI, 24, .inl u.2.2.1))]) 0 0 := by
  refine ef_startV (cc := cX6_fires) (maxL := 4) (by decide) rfl (Nat.le_of_ble_eq_true rfl) ?_
  intro p e s m args below meth c Q A hx hb hml hown hts hP hG hD hA hin hret ls hl
  have hown : s.vm.findClass RX6 = some m.cls := hown
  have hl : lv_has ls 4 [(0, .ref mo), (1, .int (nI r))] := hl
  have hS : va_S A s.heap s.heap [] := va_S.rf
  have hfm := prM_nf hR ho
  refine lv_aload_n hx hb dX6_fires_0 rfl (lv_at hl 0 rfl) ?_
  refine va_get (D := D) (ci := 6) (v := .ref qF) (C := RX6) (T := TX6) (N := 15) hx hb hts ilX6_fires_6 hown hG.1 hP 0 rfl rfl 8 (by decide) (hts (.fieldLink RX6 25 "HornEngineModel" "fires" "[I") (List.mem_of_getElem? (i := 1) rfl)) (fun _ h9 => h9) rfl dX6_fires_1 ?_
  refine lv_aload_n hx hb dX6_fires_4 rfl (lv_at hl 0 rfl) ?_
  refine va_get (D := D) (ci := 6) (v := .int (nI fm)) (C := RX6) (T := TX6) (N := 15) hx hb hts ilX6_fires_6 hown hG.1 hP 0 rfl rfl 9 (by decide) (hts (.fieldLink RX6 90 "HornEngineModel" "fireMany" "I") (List.mem_of_getElem? (i := 2) rfl)) (fun _ h9 => h9) rfl dX6_fires_5 ?_
  refine lv_iload_n hx hb dX6_fires_8 rfl (lv_at hl 1 rfl) ?_
  refine ia_st hx hb hG hP hD hS 3 rfl fm rfl (by omega) (by decide) dX6_fires_9 (fun H locs hP hD hS => ?_)
  have hP : va_P D vwCl [(mo, .inr (6, [.ref qA, .ref qS, .int (nI sm), .ref qE, .ref qT, .int (nI tl), .ref qQ, .int (nI qd), .ref qF, .int (nI fm), .ref qC, .int (nI ap), .int (nI pl), .ref qH, .ref qB])), (qA, .inl (cI, 50, .inl av)), (qQ, .inl (cI, 16, .inl qf)), (qF, .inl (cI, 24, .inl (upd ff fm (nI r))))] H := hP
  have hD : va_D A [(mo, .inr (6, [.ref qA, .ref qS, .int (nI sm), .ref qE, .ref qT, .int (nI tl), .ref qQ, .int (nI qd), .ref qF, .int (nI fm), .ref qC, .int (nI ap), .int (nI pl), .ref qH, .ref qB])), (qA, .inl (cI, 50, .inl av)), (qQ, .inl (cI, 16, .inl qf)), (qF, .inl (cI, 24, .inl (upd ff fm (nI r))))] := hD
  refine lv_aload_n hx hb dX6_fires_10 rfl (lv_at hl 0 rfl) ?_
  refine lv_dup hx hb dX6_fires_11 rfl ?_
  refine va_get (D := D) (ci := 6) (v := .int (nI fm)) (C := RX6) (T := TX6) (N := 15) hx hb hts ilX6_fires_6 hown hG.1 hP 0 rfl rfl 9 (by decide) (hts (.fieldLink RX6 90 "HornEngineModel" "fireMany" "I") (List.mem_of_getElem? (i := 2) rfl)) (fun _ h9 => h9) rfl dX6_fires_12 ?_
  refine lv_iconst (v := nI 1) hx hb dX6_fires_15 (by decide) ?_
  refine lv_iadd hx hb dX6_fires_16 ?_
  refine lv_eqi (y := nI (fm + 1)) (nI_add fm 1) ?_
  refine va_put (D := D) (ci := 6) (v := .int (nI (fm + 1))) (ty := .int) (C := RX6) (T := TX6) (N := 15) hx hb hts ilX6_fires_6 tyX6 tyX6_ok nmX6 hown hG.1 hP hD hS 0 rfl rfl 9 (by decide) (hts (.fieldLink RX6 90 "HornEngineModel" "fireMany" "I") (List.mem_of_getElem? (i := 2) rfl)) (fun _ h9 => h9) rfl (by decide +kernel) rfl rfl (Nat.le_of_ble_eq_true rfl) dX6_fires_17 (fun H locs hP hD hS => ?_)
  have hP : va_P D vwCl [(mo, .inr (6, [.ref qA, .ref qS, .int (nI sm), .ref qE, .ref qT, .int (nI tl), .ref qQ, .int (nI qd), .ref qF, .int (nI (fm + 1)), .ref qC, .int (nI ap), .int (nI pl), .ref qH, .ref qB])), (qA, .inl (cI, 50, .inl av)), (qQ, .inl (cI, 16, .inl qf)), (qF, .inl (cI, 24, .inl (upd ff fm (nI r))))] H := hP
  have hD : va_D A [(mo, .inr (6, [.ref qA, .ref qS, .int (nI sm), .ref qE, .ref qT, .int (nI tl), .ref qQ, .int (nI qd), .ref qF, .int (nI (fm + 1)), .ref qC, .int (nI ap), .int (nI pl), .ref qH, .ref qB])), (qA, .inl (cI, 50, .inl av)), (qQ, .inl (cI, 16, .inl qf)), (qF, .inl (cI, 24, .inl (upd ff fm (nI r))))] := hD
  refine lv_iconst (v := nI 0) hx hb dX6_fires_20 (by decide) ?_
  refine lv_istore_n (lv' := [(2, .int (nI 0)), (0, .ref mo), (1, .int (nI r))]) hx hb dX6_fires_21 rfl hl (by decide) rfl (fun ls hl => ?_)
  refine lv_iconst (v := nI 0) hx hb dX6_fires_22 (by decide) ?_
  refine lv_istore_n (lv' := [(3, .int (nI 0)), (2, .int (nI 0)), (0, .ref mo), (1, .int (nI r))]) hx hb dX6_fires_23 rfl hl (by decide) rfl (fun ls hl => ?_)
  have lp_24_1 : ∀ (fu_24 : Nat) (k : Nat) (kb : Bool) (hk : k ≤ qd) (ek : kb = decide (hs r ∈ tab qf k)) (hfu_24 : qd - k < fu_24) (H : Heap) (locs : List Loc) (hP : va_P D vwCl [(mo, .inr (6, [.ref qA, .ref qS, .int (nI sm), .ref qE, .ref qT, .int (nI tl), .ref qQ, .int (nI qd), .ref qF, .int (nI (fm + 1)), .ref qC, .int (nI ap), .int (nI pl), .ref qH, .ref qB])), (qA, .inl (cI, 50, .inl av)), (qQ, .inl (cI, 16, .inl qf)), (qF, .inl (cI, 24, .inl (upd ff fm (nI r))))] H) (hD : va_D A [(mo, .inr (6, [.ref qA, .ref qS, .int (nI sm), .ref qE, .ref qT, .int (nI tl), .ref qQ, .int (nI qd), .ref qF, .int (nI (fm + 1)), .ref qC, .int (nI ap), .int (nI pl), .ref qH, .ref qB])), (qA, .inl (cI, 50, .inl av)), (qQ, .inl (cI, 16, .inl qf)), (qF, .inl (cI, 24, .inl (upd ff fm (nI r))))]) (hS : va_S A s.heap H locs) (ls : Array Slot) (hl : lv_has ls 4 [(0, .ref mo), (1, .int (nI r)), (2, .int (bI kb)), (3, .int (nI k))]), W p l e ({ frames := 1, cells := 0, slots := 0, locals := 21 }) s m args below meth c H locs 0 0 Q (F0 m 24 ls []) := by
    intro fu_24
    induction fu_24 with
    | zero => intro k kb hk ek hfu; exact absurd hfu (Nat.not_lt_zero _)
    | succ fu_24 ih_24 =>
      intro k kb hk ek hfu_24 H locs hP hD hS ls hl
      refine lv_iload_n hx hb dX6_fires_24 rfl (lv_at hl 3 rfl) ?_
      refine lv_aload_n hx hb dX6_fires_25 rfl (lv_at hl 0 rfl) ?_
      refine va_get (D := D) (ci := 6) (v := .int (nI qd)) (C := RX6) (T := TX6) (N := 15) hx hb hts ilX6_fires_6 hown hG.1 hP 0 rfl rfl 7 (by decide) (hts (.fieldLink RX6 93 "HornEngineModel" "queued" "I") (List.mem_of_getElem? (i := 3) rfl)) (fun _ h9 => h9) rfl dX6_fires_26 ?_
      refine lv_icmp_ge (tgt := 62) hx hb dX6_fires_29 (by decide) (fun c_2 => ?_) (fun c_2 => ?_)
      · skip
        have c_2 : qd ≤ k := (nI_leI (by omega) (by omega)).mp (show nI qd ≤ nI k from c_2)
        refine lv_iload_n hx hb dX6_fires_62 rfl (lv_at hl 2 rfl) ?_
        refine lv_if_ne (tgt := 90) hx hb dX6_fires_63 (by decide) (fun c_3 => ?_) (fun c_3 => ?_)
        · skip
          have c_3 : kb = true := bI_t.mp c_3
          have hm : hs r ∈ tab qf qd := by rw [show qd = k from by omega]; exact of_decide_eq_true (ek ▸ c_3)
          exact hret (qf, qd, upd ff fm (nI r), fm + 1) _ _ _ _ (⟨rfl, prM_yes hR hm, hqd, hfm⟩) (hP) (hD) hS dX6_fires_90
        · skip
          have c_3 : kb = false := bI_f.mp c_3
          have hm : ¬ hs r ∈ tab qf qd := by rw [show qd = k from by omega]; exact of_decide_eq_false (ek ▸ c_3)
          have hq16 := prM_nq hR ho hm
          refine lv_aload_n hx hb dX6_fires_66 rfl (lv_at hl 0 rfl) ?_
          refine va_get (D := D) (ci := 6) (v := .ref qQ) (C := RX6) (T := TX6) (N := 15) hx hb hts ilX6_fires_6 hown hG.1 hP 0 rfl rfl 6 (by decide) (hts (.fieldLink RX6 22 "HornEngineModel" "queue" "[I") (List.mem_of_getElem? (i := 4) rfl)) (fun _ h9 => h9) rfl dX6_fires_67 ?_
          refine lv_aload_n hx hb dX6_fires_70 rfl (lv_at hl 0 rfl) ?_
          refine va_get (D := D) (ci := 6) (v := .int (nI qd)) (C := RX6) (T := TX6) (N := 15) hx hb hts ilX6_fires_6 hown hG.1 hP 0 rfl rfl 7 (by decide) (hts (.fieldLink RX6 93 "HornEngineModel" "queued" "I") (List.mem_of_getElem? (i := 3) rfl)) (fun _ h9 => h9) rfl dX6_fires_71 ?_
          refine lv_aload_n hx hb dX6_fires_74 rfl (lv_at hl 0 rfl) ?_
          refine lv_iload_n hx hb dX6_fires_75 rfl (lv_at hl 1 rfl) ?_
          refine pu_V (As := [.int (nI r)]) (rest := [.int (nI qd), .ref qQ]) ⟨hx, hb, hml, hown, hts⟩ hG hP (k_X6_headOf l D cI cB mo qA qS sm qE qT tl qQ qd qF (fm + 1) qC ap pl qH qB av hs bs n as_ r hM hn (by omega)) (cwV 1 hts gX6_fires_X6_headOf rfl rfl rfl (by decide +kernel) ⟨(Nat.le_of_ble_eq_true rfl), (Nat.le_of_ble_eq_true rfl)⟩) [0, 1] rfl 0 rfl rfl rfl rfl hl.1 rfl (Nat.le_of_ble_eq_true rfl) dX6_fires_76 ⟨Nat.zero_le _, Nat.zero_le _⟩ ?_
          refine ia_st hx hb hG hP hD hS 2 rfl qd rfl (by omega) (by decide) dX6_fires_79 (fun H locs hP hD hS => ?_)
          have hP : va_P D vwCl [(mo, .inr (6, [.ref qA, .ref qS, .int (nI sm), .ref qE, .ref qT, .int (nI tl), .ref qQ, .int (nI qd), .ref qF, .int (nI (fm + 1)), .ref qC, .int (nI ap), .int (nI pl), .ref qH, .ref qB])), (qA, .inl (cI, 50, .inl av)), (qQ, .inl (cI, 16, .inl (upd qf qd (hs r)))), (qF, .inl (cI, 24, .inl (upd ff fm (nI r))))] H := hP
          have hD : va_D A [(mo, .inr (6, [.ref qA, .ref qS, .int (nI sm), .ref qE, .ref qT, .int (nI tl), .ref qQ, .int (nI qd), .ref qF, .int (nI (fm + 1)), .ref qC, .int (nI ap), .int (nI pl), .ref qH, .ref qB])), (qA, .inl (cI, 50, .inl av)), (qQ, .inl (cI, 16, .inl (upd qf qd (hs r)))), (qF, .inl (cI, 24, .inl (upd ff fm (nI r))))] := hD
          refine lv_aload_n hx hb dX6_fires_80 rfl (lv_at hl 0 rfl) ?_
          refine lv_dup hx hb dX6_fires_81 rfl ?_
          refine va_get (D := D) (ci := 6) (v := .int (nI qd)) (C := RX6) (T := TX6) (N := 15) hx hb hts ilX6_fires_6 hown hG.1 hP 0 rfl rfl 7 (by decide) (hts (.fieldLink RX6 93 "HornEngineModel" "queued" "I") (List.mem_of_getElem? (i := 3) rfl)) (fun _ h9 => h9) rfl dX6_fires_82 ?_
          refine lv_iconst (v := nI 1) hx hb dX6_fires_85 (by decide) ?_
          refine lv_iadd hx hb dX6_fires_86 ?_
          refine lv_eqi (y := nI (qd + 1)) (nI_add qd 1) ?_
          refine va_put (D := D) (ci := 6) (v := .int (nI (qd + 1))) (ty := .int) (C := RX6) (T := TX6) (N := 15) hx hb hts ilX6_fires_6 tyX6 tyX6_ok nmX6 hown hG.1 hP hD hS 0 rfl rfl 7 (by decide) (hts (.fieldLink RX6 93 "HornEngineModel" "queued" "I") (List.mem_of_getElem? (i := 3) rfl)) (fun _ h9 => h9) rfl (by decide +kernel) rfl rfl (Nat.le_of_ble_eq_true rfl) dX6_fires_87 (fun H locs hP hD hS => ?_)
          have hP : va_P D vwCl [(mo, .inr (6, [.ref qA, .ref qS, .int (nI sm), .ref qE, .ref qT, .int (nI tl), .ref qQ, .int (nI (qd + 1)), .ref qF, .int (nI (fm + 1)), .ref qC, .int (nI ap), .int (nI pl), .ref qH, .ref qB])), (qA, .inl (cI, 50, .inl av)), (qQ, .inl (cI, 16, .inl (upd qf qd (hs r)))), (qF, .inl (cI, 24, .inl (upd ff fm (nI r))))] H := hP
          have hD : va_D A [(mo, .inr (6, [.ref qA, .ref qS, .int (nI sm), .ref qE, .ref qT, .int (nI tl), .ref qQ, .int (nI (qd + 1)), .ref qF, .int (nI (fm + 1)), .ref qC, .int (nI ap), .int (nI pl), .ref qH, .ref qB])), (qA, .inl (cI, 50, .inl av)), (qQ, .inl (cI, 16, .inl (upd qf qd (hs r)))), (qF, .inl (cI, 24, .inl (upd ff fm (nI r))))] := hD
          exact hret (upd qf qd (hs r), qd + 1, upd ff fm (nI r), fm + 1) _ _ _ _ (⟨rfl, prM_no hR hm, hq16, hfm⟩) (hP) (hD) hS dX6_fires_90
      · skip
        have c_2 : ¬ (qd ≤ k) := fun h9 => (show ¬ (nI qd ≤ nI k) from c_2) ((nI_leI (by omega) (by omega)).mpr h9)
        refine lv_iload_n hx hb dX6_fires_32 rfl (lv_at hl 2 rfl) ?_
        refine lv_if_ne (tgt := 50) hx hb dX6_fires_33 (by decide) (fun c_4 => ?_) (fun c_4 => ?_)
        · skip
          have c_4 : kb = true := bI_t.mp c_4
          have hy : kb = true := c_4
          refine lv_iconst (v := nI 1) hx hb dX6_fires_50 (by decide) ?_
          refine lv_goto (tgt := 55) hx hb dX6_fires_51 (by decide) ?_
          refine lv_istore_n (lv' := [(2, .int (nI 1)), (0, .ref mo), (1, .int (nI r)), (3, .int (nI k))]) hx hb dX6_fires_55 rfl hl (by decide) rfl (fun ls hl => ?_)
          refine lv_iinc (v := nI (k + 1)) (lv' := [(3, .int (nI (k + 1))), (2, .int (nI 1)), (0, .ref mo), (1, .int (nI r))]) hx hb dX6_fires_56 hl (k := 3) rfl (nI_s1 k) (by decide) rfl (fun ls hl => ?_)
          refine lv_goto (tgt := 24) hx hb dX6_fires_59 (by decide) ?_
          exact ih_24 (k + 1) true (by omega) ((decide_eq_true (mem_t (of_decide_eq_true (ek ▸ hy)))).symm) (by omega) _ _ hP hD hS ls (lv_sub hl [2, 3, 1, 0] rfl)
        · skip
          have c_4 : kb = false := bI_f.mp c_4
          have hy : kb = false := c_4
          refine lv_aload_n hx hb dX6_fires_36 rfl (lv_at hl 0 rfl) ?_
          refine va_get (D := D) (ci := 6) (v := .ref qQ) (C := RX6) (T := TX6) (N := 15) hx hb hts ilX6_fires_6 hown hG.1 hP 0 rfl rfl 6 (by decide) (hts (.fieldLink RX6 22 "HornEngineModel" "queue" "[I") (List.mem_of_getElem? (i := 4) rfl)) (fun _ h9 => h9) rfl dX6_fires_37 ?_
          refine lv_iload_n hx hb dX6_fires_40 rfl (lv_at hl 3 rfl) ?_
          refine ia_ld hx hb hG hP 2 rfl k rfl (by omega) (by decide) dX6_fires_41 ?_
          refine lv_aload_n hx hb dX6_fires_42 rfl (lv_at hl 0 rfl) ?_
          refine lv_iload_n hx hb dX6_fires_43 rfl (lv_at hl 1 rfl) ?_
          refine pu_V (As := [.int (nI r)]) (rest := [.int (qf k)]) ⟨hx, hb, hml, hown, hts⟩ hG hP (k_X6_headOf l D cI cB mo qA qS sm qE qT tl qQ qd qF (fm + 1) qC ap pl qH qB av hs bs n as_ r hM hn (by omega)) (cwV 1 hts gX6_fires_X6_headOf rfl rfl rfl (by decide +kernel) ⟨(Nat.le_of_ble_eq_true rfl), (Nat.le_of_ble_eq_true rfl)⟩) [0, 1] rfl 0 rfl rfl rfl rfl hl.1 rfl (Nat.le_of_ble_eq_true rfl) dX6_fires_44 ⟨Nat.zero_le _, Nat.zero_le _⟩ ?_
          refine lv_icmp_ne (tgt := 54) hx hb dX6_fires_47 (by decide) (fun c_5 => ?_) (fun c_5 => ?_)
          · skip
            have he := c_5
            refine lv_iconst (v := nI 0) hx hb dX6_fires_54 (by decide) ?_
            refine lv_istore_n (lv' := [(2, .int (nI 0)), (0, .ref mo), (1, .int (nI r)), (3, .int (nI k))]) hx hb dX6_fires_55 rfl hl (by decide) rfl (fun ls hl => ?_)
            refine lv_iinc (v := nI (k + 1)) (lv' := [(3, .int (nI (k + 1))), (2, .int (nI 0)), (0, .ref mo), (1, .int (nI r))]) hx hb dX6_fires_56 hl (k := 3) rfl (nI_s1 k) (by decide) rfl (fun ls hl => ?_)
            refine lv_goto (tgt := 24) hx hb dX6_fires_59 (by decide) ?_
            exact ih_24 (k + 1) false (by omega) ((decide_eq_false (mem_n (of_decide_eq_false (ek ▸ hy)) he)).symm) (by omega) _ _ hP hD hS ls (lv_sub hl [2, 3, 1, 0] rfl)
          · skip
            have he := c_5
            refine lv_iconst (v := nI 1) hx hb dX6_fires_50 (by decide) ?_
            refine lv_goto (tgt := 55) hx hb dX6_fires_51 (by decide) ?_
            refine lv_istore_n (lv' := [(2, .int (nI 1)), (0, .ref mo), (1, .int (nI r)), (3, .int (nI k))]) hx hb dX6_fires_55 rfl hl (by decide) rfl (fun ls hl => ?_)
            refine lv_iinc (v := nI (k + 1)) (lv' := [(3, .int (nI (k + 1))), (2, .int (nI 1)), (0, .ref mo), (1, .int (nI r))]) hx hb dX6_fires_56 hl (k := 3) rfl (nI_s1 k) (by decide) rfl (fun ls hl => ?_)
            refine lv_goto (tgt := 24) hx hb dX6_fires_59 (by decide) ?_
            exact ih_24 (k + 1) true (by omega) ((decide_eq_true (mem_e he)).symm) (by omega) _ _ hP hD hS ls (lv_sub hl [2, 3, 1, 0] rfl)
  exact lp_24_1 (qd - 0 + 1) 0 false (by omega) ((decide_eq_false (by simp [tab])).symm) (Nat.lt_succ_self _) _ _ hP hD hS ls (lv_sub hl [2, 3, 1, 0] rfl)
set_option maxHeartbeats 4000000 in
set_option maxRecDepth 100000 in
theorem k_X6_propagates (l : Launch) (D : va_G) (cI cB : ClassId) (mo : Nat) (qA : Nat) (qS : Nat) (sm : Nat) (qE : Nat) (qT : Nat) (tl : Nat) (qQ : Nat) (qd : Nat) (qF : Nat) (fm : Nat) (qC : Nat) (ap : Nat) (pl : Nat) (qH : Nat) (qB : Nat) (av : Nat → Int32) (hs : Nat → Int32) (bs : Nat → Int32) (n : Nat) (as_ : Int32) (qf : Nat → Int32) (ff : Nat → Int32) (ct : Nat → Int32) (hM : mA av hs bs n as_) (hn : n ≤ 24) (hH : hOK hs n) (hB : bOK bs n) (sz : Nat) : Wr l yX6_propagates wsX6_propagates ({ frames := 2, cells := 0, slots := 0, locals := 44 }) D cI cB [.ref mo] [(mo, .inr (6, [.ref qA, .ref qS, .int (nI sm), .ref qE, .ref qT, .int (nI tl), .ref qQ, .int (nI qd), .ref qF, .int (nI fm), .ref qC, .int (nI ap), .int (nI pl), .ref qH, .ref qB])), (qA, .inl (cI, 50, .inl av)), (qQ, .inl (cI, 16, .inl qf)), (qF, .inl (cI, 24, .inl ff)), (qC, .inl (cI, 24, .inl ct))] sz (S := (Nat → Int32) × Nat × (Nat → Int32) × Nat × (Nat → Int32)) (fun v u => v = none ∧ (prM (runP hs bs n 16) u.1 u.2.1 u.2.2.1 u.2.2.2.1 ∧ u.2.1 ≤ 16 ∧ u.2.2.2.1 ≤ 24)) (fun u => [(mo, .inr (6, [.ref qA, .ref qS, .int (nI sm), .ref qE, .ref qT, .int (nI tl), .ref qQ, .int (nI u.2.1), .ref qF, .int (nI u.2.2.2.1), .ref qC, .int (nI ap), .int (nI pl), .ref qH, .ref qB])), (qA, .inl (cI, 50, .inl av)), (qQ, .inl (cI, 16, .inl u.1)), (qF, .inl (cI, 24, .inl u.2.2.1)), (qC, .inl (cI, 24, .inl u.2.2.2.2))]) 0 0 := by
  refine ef_startV (cc := cX6_propagates) (maxL := 3) (by decide) rfl (Nat.le_of_ble_eq_true rfl) ?_
  intro p e s m args below meth c Q A hx hb hml hown hts hP hG hD hA hin hret ls hl
  have hown : s.vm.findClass RX6 = some m.cls := hown
  have hl : lv_has ls 3 [(0, .ref mo)] := hl
  have hS : va_S A s.heap s.heap [] := va_S.rf
  have hok : okR hs bs n := okR_of hn hH (cOK_of hB)
  refine lv_aload_n hx hb dX6_propagates_0 rfl (lv_at hl 0 rfl) ?_
  refine lv_iconst (v := nI 0) hx hb dX6_propagates_1 (by decide) ?_
  refine va_put (D := D) (ci := 6) (v := .int (nI 0)) (ty := .int) (C := RX6) (T := TX6) (N := 15) hx hb hts ilX6_propagates_6 tyX6 tyX6_ok nmX6 hown hG.1 hP hD hS 0 rfl rfl 7 (by decide) (hts (.fieldLink RX6 93 "HornEngineModel" "queued" "I") (List.mem_of_getElem? (i := 1) rfl)) (fun _ h9 => h9) rfl (by decide +kernel) rfl rfl (Nat.le_of_ble_eq_true rfl) dX6_propagates_2 (fun H locs hP hD hS => ?_)
  have hP : va_P D vwCl [(mo, .inr (6, [.ref qA, .ref qS, .int (nI sm), .ref qE, .ref qT, .int (nI tl), .ref qQ, .int (nI 0), .ref qF, .int (nI fm), .ref qC, .int (nI ap), .int (nI pl), .ref qH, .ref qB])), (qA, .inl (cI, 50, .inl av)), (qQ, .inl (cI, 16, .inl qf)), (qF, .inl (cI, 24, .inl ff)), (qC, .inl (cI, 24, .inl ct))] H := hP
  have hD : va_D A [(mo, .inr (6, [.ref qA, .ref qS, .int (nI sm), .ref qE, .ref qT, .int (nI tl), .ref qQ, .int (nI 0), .ref qF, .int (nI fm), .ref qC, .int (nI ap), .int (nI pl), .ref qH, .ref qB])), (qA, .inl (cI, 50, .inl av)), (qQ, .inl (cI, 16, .inl qf)), (qF, .inl (cI, 24, .inl ff)), (qC, .inl (cI, 24, .inl ct))] := hD
  refine lv_aload_n hx hb dX6_propagates_5 rfl (lv_at hl 0 rfl) ?_
  refine lv_iconst (v := nI 0) hx hb dX6_propagates_6 (by decide) ?_
  refine va_put (D := D) (ci := 6) (v := .int (nI 0)) (ty := .int) (C := RX6) (T := TX6) (N := 15) hx hb hts ilX6_propagates_6 tyX6 tyX6_ok nmX6 hown hG.1 hP hD hS 0 rfl rfl 9 (by decide) (hts (.fieldLink RX6 90 "HornEngineModel" "fireMany" "I") (List.mem_of_getElem? (i := 2) rfl)) (fun _ h9 => h9) rfl (by decide +kernel) rfl rfl (Nat.le_of_ble_eq_true rfl) dX6_propagates_7 (fun H locs hP hD hS => ?_)
  have hP : va_P D vwCl [(mo, .inr (6, [.ref qA, .ref qS, .int (nI sm), .ref qE, .ref qT, .int (nI tl), .ref qQ, .int (nI 0), .ref qF, .int (nI 0), .ref qC, .int (nI ap), .int (nI pl), .ref qH, .ref qB])), (qA, .inl (cI, 50, .inl av)), (qQ, .inl (cI, 16, .inl qf)), (qF, .inl (cI, 24, .inl ff)), (qC, .inl (cI, 24, .inl ct))] H := hP
  have hD : va_D A [(mo, .inr (6, [.ref qA, .ref qS, .int (nI sm), .ref qE, .ref qT, .int (nI tl), .ref qQ, .int (nI 0), .ref qF, .int (nI 0), .ref qC, .int (nI ap), .int (nI pl), .ref qH, .ref qB])), (qA, .inl (cI, 50, .inl av)), (qQ, .inl (cI, 16, .inl qf)), (qF, .inl (cI, 24, .inl ff)), (qC, .inl (cI, 24, .inl ct))] := hD
  refine lv_iconst (v := nI 0) hx hb dX6_propagates_10 (by decide) ?_
  refine lv_istore_n (lv' := [(1, .int (nI 0)), (0, .ref mo)]) hx hb dX6_propagates_11 rfl hl (by decide) rfl (fun ls hl => ?_)
  have lp_12_1 : ∀ (fu_12 : Nat) (r : Nat) (qf1 : Nat → Int32) (qd1 : Nat) (ff1 : Nat → Int32) (fm1 : Nat) (ct1 : Nat → Int32) (hr : r ≤ n) (hR1 : prM (factP hs bs r) qf1 qd1 ff1 fm1) (hqd1 : qd1 ≤ 16) (hfm1 : fm1 ≤ 24) (hc1 : ∀ j, j < r → ct1 j = (factP hs bs r).2.2 j) (hfu_12 : n - r < fu_12) (H : Heap) (locs : List Loc) (hP : va_P D vwCl [(mo, .inr (6, [.ref qA, .ref qS, .int (nI sm), .ref qE, .ref qT, .int (nI tl), .ref qQ, .int (nI qd1), .ref qF, .int (nI fm1), .ref qC, .int (nI ap), .int (nI pl), .ref qH, .ref qB])), (qA, .inl (cI, 50, .inl av)), (qQ, .inl (cI, 16, .inl qf1)), (qF, .inl (cI, 24, .inl ff1)), (qC, .inl (cI, 24, .inl ct1))] H) (hD : va_D A [(mo, .inr (6, [.ref qA, .ref qS, .int (nI sm), .ref qE, .ref qT, .int (nI tl), .ref qQ, .int (nI qd1), .ref qF, .int (nI fm1), .ref qC, .int (nI ap), .int (nI pl), .ref qH, .ref qB])), (qA, .inl (cI, 50, .inl av)), (qQ, .inl (cI, 16, .inl qf1)), (qF, .inl (cI, 24, .inl ff1)), (qC, .inl (cI, 24, .inl ct1))]) (hS : va_S A s.heap H locs) (ls : Array Slot) (hl : lv_has ls 3 [(0, .ref mo), (1, .int (nI r))]), W p l e ({ frames := 2, cells := 0, slots := 0, locals := 44 }) s m args below meth c H locs 0 0 Q (F0 m 12 ls []) := by
    intro fu_12
    induction fu_12 with
    | zero => intro r qf1 qd1 ff1 fm1 ct1 hr hR1 hqd1 hfm1 hc1 hfu; exact absurd hfu (Nat.not_lt_zero _)
    | succ fu_12 ih_12 =>
      intro r qf1 qd1 ff1 fm1 ct1 hr hR1 hqd1 hfm1 hc1 hfu_12 H locs hP hD hS ls hl
      refine lv_iload_n hx hb dX6_propagates_12 rfl (lv_at hl 1 rfl) ?_
      refine lv_aload_n hx hb dX6_propagates_13 rfl (lv_at hl 0 rfl) ?_
      refine va_get (D := D) (ci := 6) (v := .ref qA) (C := RX6) (T := TX6) (N := 15) hx hb hts ilX6_propagates_6 hown hG.1 hP 0 rfl rfl 0 (by decide) (hts (.fieldLink RX6 7 "HornEngineModel" "all" "[I") (List.mem_of_getElem? (i := 3) rfl)) (fun _ h9 => h9) rfl dX6_propagates_14 ?_
      refine lv_iconst (v := nI 0) hx hb dX6_propagates_17 (by decide) ?_
      refine ia_ld hx hb hG hP 1 rfl 0 rfl (by omega) (by decide) dX6_propagates_18 ?_
      refine lv_eqi (y := nI n) hM.1 ?_
      refine lv_icmp_ge (tgt := 56) hx hb dX6_propagates_19 (by decide) (fun c_2 => ?_) (fun c_2 => ?_)
      · skip
        have c_2 : n ≤ r := (nI_leI (by omega) (by omega)).mp (show nI n ≤ nI r from c_2)
        refine lv_iconst (v := nI 0) hx hb dX6_propagates_56 (by decide) ?_
        refine lv_istore_n (lv' := [(1, .int (nI 0)), (0, .ref mo)]) hx hb dX6_propagates_57 rfl hl (by decide) rfl (fun ls hl => ?_)
        have lp_58_3 : ∀ (fu_58 : Nat) (k : Nat) (qf1b : Nat → Int32) (qd1b : Nat) (ff1b : Nat → Int32) (fm1b : Nat) (ct1b : Nat → Int32) (hk : k ≤ 16) (hR1b : prM (runP hs bs n k) qf1b qd1b ff1b fm1b) (hqd1b : qd1b ≤ 16) (hfm1b : fm1b ≤ 24) (hc1b : ∀ j, j < n → ct1b j = (runP hs bs n k).2.2 j) (hfu_58 : 17 - k < fu_58) (H : Heap) (locs : List Loc) (hP : va_P D vwCl [(mo, .inr (6, [.ref qA, .ref qS, .int (nI sm), .ref qE, .ref qT, .int (nI tl), .ref qQ, .int (nI qd1b), .ref qF, .int (nI fm1b), .ref qC, .int (nI ap), .int (nI pl), .ref qH, .ref qB])), (qA, .inl (cI, 50, .inl av)), (qQ, .inl (cI, 16, .inl qf1b)), (qF, .inl (cI, 24, .inl ff1b)), (qC, .inl (cI, 24, .inl ct1b))] H) (hD : va_D A [(mo, .inr (6, [.ref qA, .ref qS, .int (nI sm), .ref qE, .ref qT, .int (nI tl), .ref qQ, .int (nI qd1b), .ref qF, .int (nI fm1b), .ref qC, .int (nI ap), .int (nI pl), .ref qH, .ref qB])), (qA, .inl (cI, 50, .inl av)), (qQ, .inl (cI, 16, .inl qf1b)), (qF, .inl (cI, 24, .inl ff1b)), (qC, .inl (cI, 24, .inl ct1b))]) (hS : va_S A s.heap H locs) (ls : Array Slot) (hl : lv_has ls 3 [(0, .ref mo), (1, .int (nI k))]), W p l e ({ frames := 2, cells := 0, slots := 0, locals := 44 }) s m args below meth c H locs 0 0 Q (F0 m 58 ls []) := by
          intro fu_58
          induction fu_58 with
          | zero => intro k qf1b qd1b ff1b fm1b ct1b hk hR1b hqd1b hfm1b hc1b hfu; exact absurd hfu (Nat.not_lt_zero _)
          | succ fu_58 ih_58 =>
            intro k qf1b qd1b ff1b fm1b ct1b hk hR1b hqd1b hfm1b hc1b hfu_58 H locs hP hD hS ls hl
            refine lv_iload_n hx hb dX6_propagates_58 rfl (lv_at hl 1 rfl) ?_
            refine lv_aload_n hx hb dX6_propagates_59 rfl (lv_at hl 0 rfl) ?_
            refine va_get (D := D) (ci := 6) (v := .int (nI qd1b)) (C := RX6) (T := TX6) (N := 15) hx hb hts ilX6_propagates_6 hown hG.1 hP 0 rfl rfl 7 (by decide) (hts (.fieldLink RX6 93 "HornEngineModel" "queued" "I") (List.mem_of_getElem? (i := 1) rfl)) (fun _ h9 => h9) rfl dX6_propagates_60 ?_
            refine lv_icmp_ge (tgt := 132) hx hb dX6_propagates_63 (by decide) (fun c_4 => ?_) (fun c_4 => ?_)
            · skip
              have c_4 : qd1b ≤ k := (nI_leI (by omega) (by omega)).mp (show nI qd1b ≤ nI k from c_4)
              exact hret (qf1b, qd1b, ff1b, fm1b, ct1b) _ _ _ _ (⟨rfl, by rw [run_end hk (by rw [prM_q hR1b]; omega)]; exact hR1b, hqd1b, hfm1b⟩) (hP) (hD) hS dX6_propagates_132
            · skip
              have c_4 : ¬ (qd1b ≤ k) := fun h9 => (show ¬ (nI qd1b ≤ nI k) from c_4) ((nI_leI (by omega) (by omega)).mpr h9)
              have hkl : k < (runP hs bs n k).1.length := by rw [prM_q hR1b]; omega
              have hxa := run_at hn hH hB hk hkl
              refine lv_iconst (v := nI 0) hx hb dX6_propagates_66 (by decide) ?_
              refine lv_istore_n (lv' := [(2, .int (nI 0)), (0, .ref mo), (1, .int (nI k))]) hx hb dX6_propagates_67 rfl hl (by decide) rfl (fun ls hl => ?_)
              have lp_68_5 : ∀ (fu_68 : Nat) (r2 : Nat) (qf1c : Nat → Int32) (qd1c : Nat) (ff1c : Nat → Int32) (fm1c : Nat) (ct1c : Nat → Int32) (hr2 : r2 ≤ n) (hR1c : prM (cdP hs bs ((runP hs bs n k).1.getD k 0) (runP hs bs n k) r2) qf1c qd1c ff1c fm1c) (hqd1c : qd1c ≤ 16) (hfm1c : fm1c ≤ 24) (hc1c : ∀ j, j < n → ct1c j = (cdP hs bs ((runP hs bs n k).1.getD k 0) (runP hs bs n k) r2).2.2 j) (hfu_68 : n - r2 < fu_68) (H : Heap) (locs : List Loc) (hP : va_P D vwCl [(mo, .inr (6, [.ref qA, .ref qS, .int (nI sm), .ref qE, .ref qT, .int (nI tl), .ref qQ, .int (nI qd1c), .ref qF, .int (nI fm1c), .ref qC, .int (nI ap), .int (nI pl), .ref qH, .ref qB])), (qA, .inl (cI, 50, .inl av)), (qQ, .inl (cI, 16, .inl qf1c)), (qF, .inl (cI, 24, .inl ff1c)), (qC, .inl (cI, 24, .inl ct1c))] H) (hD : va_D A [(mo, .inr (6, [.ref qA, .ref qS, .int (nI sm), .ref qE, .ref qT, .int (nI tl), .ref qQ, .int (nI qd1c), .ref qF, .int (nI fm1c), .ref qC, .int (nI ap), .int (nI pl), .ref qH, .ref qB])), (qA, .inl (cI, 50, .inl av)), (qQ, .inl (cI, 16, .inl qf1c)), (qF, .inl (cI, 24, .inl ff1c)), (qC, .inl (cI, 24, .inl ct1c))]) (hS : va_S A s.heap H locs) (ls : Array Slot) (hl : lv_has ls 3 [(0, .ref mo), (1, .int (nI k)), (2, .int (nI r2))]), W p l e ({ frames := 2, cells := 0, slots := 0, locals := 44 }) s m args below meth c H locs 0 0 Q (F0 m 68 ls []) := by
                intro fu_68
                induction fu_68 with
                | zero => intro r2 qf1c qd1c ff1c fm1c ct1c hr2 hR1c hqd1c hfm1c hc1c hfu; exact absurd hfu (Nat.not_lt_zero _)
                | succ fu_68 ih_68 =>
                  intro r2 qf1c qd1c ff1c fm1c ct1c hr2 hR1c hqd1c hfm1c hc1c hfu_68 H locs hP hD hS ls hl
                  refine lv_iload_n hx hb dX6_propagates_68 rfl (lv_at hl 2 rfl) ?_
                  refine lv_aload_n hx hb dX6_propagates_69 rfl (lv_at hl 0 rfl) ?_
                  refine va_get (D := D) (ci := 6) (v := .ref qA) (C := RX6) (T := TX6) (N := 15) hx hb hts ilX6_propagates_6 hown hG.1 hP 0 rfl rfl 0 (by decide) (hts (.fieldLink RX6 7 "HornEngineModel" "all" "[I") (List.mem_of_getElem? (i := 3) rfl)) (fun _ h9 => h9) rfl dX6_propagates_70 ?_
                  refine lv_iconst (v := nI 0) hx hb dX6_propagates_73 (by decide) ?_
                  refine ia_ld hx hb hG hP 1 rfl 0 rfl (by omega) (by decide) dX6_propagates_74 ?_
                  refine lv_eqi (y := nI n) hM.1 ?_
                  refine lv_icmp_ge (tgt := 126) hx hb dX6_propagates_75 (by decide) (fun c_6 => ?_) (fun c_6 => ?_)
                  · skip
                    have c_6 : n ≤ r2 := (nI_leI (by omega) (by omega)).mp (show nI n ≤ nI r2 from c_6)
                    refine lv_iinc (v := nI (k + 1)) (lv' := [(1, .int (nI (k + 1))), (0, .ref mo), (2, .int (nI r2))]) hx hb dX6_propagates_126 hl (k := 1) rfl (nI_s1 k) (by decide) rfl (fun ls hl => ?_)
                    refine lv_goto (tgt := 58) hx hb dX6_propagates_129 (by decide) ?_
                    exact ih_58 (k + 1) qf1c qd1c ff1c fm1c ct1c (by omega) (by rw [runP, if_pos hkl, show n = r2 from by omega]; rw [show n = r2 from by omega] at hR1c; exact hR1c) (by omega) (by omega) (by rw [runP, if_pos hkl, show n = r2 from by omega]; rw [show n = r2 from by omega] at hc1c; exact hc1c) (by omega) _ _ hP hD hS ls (lv_sub hl [1, 0] rfl)
                  · skip
                    have c_6 : ¬ (n ≤ r2) := fun h9 => (show ¬ (nI n ≤ nI r2) from c_6) ((nI_leI (by omega) (by omega)).mpr h9)
                    refine lv_aload_n hx hb dX6_propagates_78 rfl (lv_at hl 0 rfl) ?_
                    refine lv_iload_n hx hb dX6_propagates_79 rfl (lv_at hl 2 rfl) ?_
                    refine pu_V (As := [.int (nI r2)]) (rest := []) ⟨hx, hb, hml, hown, hts⟩ hG hP (k_X6_bodyOf l D cI cB mo qA qS sm qE qT tl qQ qd1c qF fm1c qC ap pl qH qB av hs bs n as_ r2 hM hn (by omega)) (cwV 1 hts gX6_propagates_X6_bodyOf rfl rfl rfl (by decide +kernel) ⟨(Nat.le_of_ble_eq_true rfl), (Nat.le_of_ble_eq_true rfl)⟩) [0, 1] rfl 0 rfl rfl rfl rfl hl.1 rfl (Nat.le_of_ble_eq_true rfl) dX6_propagates_80 ⟨Nat.zero_le _, Nat.zero_le _⟩ ?_
                    refine lv_aload_n hx hb dX6_propagates_83 rfl (lv_at hl 0 rfl) ?_
                    refine va_get (D := D) (ci := 6) (v := .ref qQ) (C := RX6) (T := TX6) (N := 15) hx hb hts ilX6_propagates_6 hown hG.1 hP 0 rfl rfl 6 (by decide) (hts (.fieldLink RX6 22 "HornEngineModel" "queue" "[I") (List.mem_of_getElem? (i := 5) rfl)) (fun _ h9 => h9) rfl dX6_propagates_84 ?_
                    refine lv_iload_n hx hb dX6_propagates_87 rfl (lv_at hl 1 rfl) ?_
                    refine ia_ld hx hb hG hP 2 rfl k rfl (Nat.lt_of_lt_of_le (cd_it hR1c hkl).2 hqd1c) (by decide) dX6_propagates_88 ?_
                    refine lv_eqi (y := (runP hs bs n k).1.getD k 0) (cd_it hR1c hkl).1 ?_
                    refine lv_ishr hx hb dX6_propagates_89 ?_
                    refine lv_iconst (v := nI 1) hx hb dX6_propagates_90 (by decide) ?_
                    refine lv_iand hx hb dX6_propagates_91 ?_
                    refine lv_iconst (v := nI 1) hx hb dX6_propagates_92 (by decide) ?_
                    refine lv_icmp_ne (tgt := 120) hx hb dX6_propagates_93 (by decide) (fun c_7 => ?_) (fun c_7 => ?_)
                    · skip
                      have hca : has (bs r2) ((runP hs bs n k).1.getD k 0) = false := Bool.eq_false_iff.mpr (fun q => c_7 ((at_shr hxa).mpr q))
                      refine lv_iinc (v := nI (r2 + 1)) (lv' := [(2, .int (nI (r2 + 1))), (0, .ref mo), (1, .int (nI k))]) hx hb dX6_propagates_120 hl (k := 2) rfl (nI_s1 r2) (by decide) rfl (fun ls hl => ?_)
                      refine lv_goto (tgt := 68) hx hb dX6_propagates_123 (by decide) ?_
                      exact ih_68 (r2 + 1) qf1c qd1c ff1c fm1c ct1c (by omega) (by rw [cdP, if_neg (by rw [hca]; decide)]; exact hR1c) (by omega) (by omega) (by rw [cdP, if_neg (by rw [hca]; decide)]; exact hc1c) (by omega) _ _ hP hD hS ls (lv_sub hl [1, 2, 0] rfl)
                    · skip
                      have hca : has (bs r2) ((runP hs bs n k).1.getD k 0) = true := (at_shr hxa).mp c_7
                      refine lv_aload_n hx hb dX6_propagates_96 rfl (lv_at hl 0 rfl) ?_
                      refine va_get (D := D) (ci := 6) (v := .ref qC) (C := RX6) (T := TX6) (N := 15) hx hb hts ilX6_propagates_6 hown hG.1 hP 0 rfl rfl 10 (by decide) (hts (.fieldLink RX6 28 "HornEngineModel" "counters" "[I") (List.mem_of_getElem? (i := 4) rfl)) (fun _ h9 => h9) rfl dX6_propagates_97 ?_
                      refine lv_iload_n hx hb dX6_propagates_100 rfl (lv_at hl 2 rfl) ?_
                      refine lv_dup2_11 hx hb dX6_propagates_101 rfl rfl ?_
                      refine ia_ld hx hb hG hP 4 rfl r2 rfl (by omega) (by decide) dX6_propagates_102 ?_
                      refine lv_eqi (y := (cdP hs bs ((runP hs bs n k).1.getD k 0) (runP hs bs n k) r2).2.2 r2) (hc1c r2 (by omega)) ?_
                      refine lv_iconst (v := nI 1) hx hb dX6_propagates_103 (by decide) ?_
                      refine lv_isub hx hb dX6_propagates_104 ?_
                      refine ia_st hx hb hG hP hD hS 4 rfl r2 rfl (by omega) (by decide) dX6_propagates_105 (fun H locs hP hD hS => ?_)
                      have hP : va_P D vwCl [(mo, .inr (6, [.ref qA, .ref qS, .int (nI sm), .ref qE, .ref qT, .int (nI tl), .ref qQ, .int (nI qd1c), .ref qF, .int (nI fm1c), .ref qC, .int (nI ap), .int (nI pl), .ref qH, .ref qB])), (qA, .inl (cI, 50, .inl av)), (qQ, .inl (cI, 16, .inl qf1c)), (qF, .inl (cI, 24, .inl ff1c)), (qC, .inl (cI, 24, .inl (upd ct1c r2 (((cdP hs bs ((runP hs bs n k).1.getD k 0) (runP hs bs n k) r2).2.2 r2) - (nI 1)))))] H := hP
                      have hD : va_D A [(mo, .inr (6, [.ref qA, .ref qS, .int (nI sm), .ref qE, .ref qT, .int (nI tl), .ref qQ, .int (nI qd1c), .ref qF, .int (nI fm1c), .ref qC, .int (nI ap), .int (nI pl), .ref qH, .ref qB])), (qA, .inl (cI, 50, .inl av)), (qQ, .inl (cI, 16, .inl qf1c)), (qF, .inl (cI, 24, .inl ff1c)), (qC, .inl (cI, 24, .inl (upd ct1c r2 (((cdP hs bs ((runP hs bs n k).1.getD k 0) (runP hs bs n k) r2).2.2 r2) - (nI 1)))))] := hD
                      refine lv_aload_n hx hb dX6_propagates_106 rfl (lv_at hl 0 rfl) ?_
                      refine va_get (D := D) (ci := 6) (v := .ref qC) (C := RX6) (T := TX6) (N := 15) hx hb hts ilX6_propagates_6 hown hG.1 hP 0 rfl rfl 10 (by decide) (hts (.fieldLink RX6 28 "HornEngineModel" "counters" "[I") (List.mem_of_getElem? (i := 4) rfl)) (fun _ h9 => h9) rfl dX6_propagates_107 ?_
                      refine lv_iload_n hx hb dX6_propagates_110 rfl (lv_at hl 2 rfl) ?_
                      refine ia_ld hx hb hG hP 4 rfl r2 rfl (by omega) (by decide) dX6_propagates_111 ?_
                      refine lv_if_ne (tgt := 120) hx hb dX6_propagates_112 (by decide) (fun c_8 => ?_) (fun c_8 => ?_)
                      · skip
                        have hz : ¬ (cdP hs bs ((runP hs bs n k).1.getD k 0) (runP hs bs n k) r2).2.2 r2 - nI 1 = 0 := fun q => c_8 (by simp only [upd, reduceIte]; exact q)
                        refine lv_iinc (v := nI (r2 + 1)) (lv' := [(2, .int (nI (r2 + 1))), (0, .ref mo), (1, .int (nI k))]) hx hb dX6_propagates_120 hl (k := 2) rfl (nI_s1 r2) (by decide) rfl (fun ls hl => ?_)
                        refine lv_goto (tgt := 68) hx hb dX6_propagates_123 (by decide) ?_
                        exact ih_68 (r2 + 1) qf1c qd1c ff1c fm1c (upd ct1c r2 (((cdP hs bs ((runP hs bs n k).1.getD k 0) (runP hs bs n k) r2).2.2 r2) - (nI 1))) (by omega) (by rw [cdP, if_pos hca, if_neg hz]; exact hR1c) (by omega) (by omega) (cd_c hc1c hca) (by omega) _ _ hP hD hS ls (lv_sub hl [1, 2, 0] rfl)
                      · skip
                        have hz : (cdP hs bs ((runP hs bs n k).1.getD k 0) (runP hs bs n k) r2).2.2 r2 - nI 1 = 0 := by simpa only [upd, reduceIte] using c_8
                        refine lv_aload_n hx hb dX6_propagates_115 rfl (lv_at hl 0 rfl) ?_
                        refine lv_iload_n hx hb dX6_propagates_116 rfl (lv_at hl 2 rfl) ?_
                        refine ef_V (As := [.int (nI r2)]) (rest := []) (wr := [(qC, .inl (cI, 24, .inl (upd ct1c r2 (((cdP hs bs ((runP hs bs n k).1.getD k 0) (runP hs bs n k) r2).2.2 r2) - (nI 1)))))]) ⟨hx, hb, hml, hown, hts⟩ hG hP hD hS hA (k_X6_fires l D cI cB mo qA qS sm qE qT tl qQ qd1c qF fm1c qC ap pl qH qB av hs bs n as_ qf1c ff1c r2 (setC (cdP hs bs ((runP hs bs n k).1.getD k 0) (runP hs bs n k) r2) r2 ((cdP hs bs ((runP hs bs n k).1.getD k 0) (runP hs bs n k) r2).2.2 r2 - nI 1)) hM hn (by omega) (prM_set hR1c r2 _) (by omega) (hok.2 k (by omega) hkl r2 (by omega) hca hz) _) (cwV 1 hts gX6_propagates_X6_fires rfl rfl rfl (by decide +kernel) ⟨(Nat.le_of_ble_eq_true rfl), (Nat.le_of_ble_eq_true rfl)⟩) [0, 1, 2, 3] [4] rfl rfl rfl rfl (by decide) 0 rfl rfl rfl rfl hl.1 rfl (Nat.le_of_ble_eq_true rfl) dX6_propagates_117 ⟨(Nat.le_of_ble_eq_true rfl), (Nat.le_of_ble_eq_true rfl)⟩ (fun v_9 u_9 H locs w_9 hP hD hS => ?_)
                        obtain ⟨qf9_9, qd9_9, ff9_9, fm9_9⟩ := u_9
                        obtain ⟨e_9, w_9⟩ := w_9
                        have w_9 : prM (fireP hs r2 (setC (cdP hs bs ((runP hs bs n k).1.getD k 0) (runP hs bs n k) r2) r2 ((cdP hs bs ((runP hs bs n k).1.getD k 0) (runP hs bs n k) r2).2.2 r2 - nI 1))) qf9_9 qd9_9 ff9_9 fm9_9 ∧ qd9_9 ≤ 16 ∧ fm9_9 ≤ 24 := w_9
                        have e_9 : v_9 = none := e_9
                        subst e_9
                        have hP : va_P D vwCl [(mo, .inr (6, [.ref qA, .ref qS, .int (nI sm), .ref qE, .ref qT, .int (nI tl), .ref qQ, .int (nI qd9_9), .ref qF, .int (nI fm9_9), .ref qC, .int (nI ap), .int (nI pl), .ref qH, .ref qB])), (qA, .inl (cI, 50, .inl av)), (qQ, .inl (cI, 16, .inl qf9_9)), (qF, .inl (cI, 24, .inl ff9_9)), (qC, .inl (cI, 24, .inl (upd ct1c r2 (((cdP hs bs ((runP hs bs n k).1.getD k 0) (runP hs bs n k) r2).2.2 r2) - (nI 1)))))] H := hP.sub [1, 2, 3, 4, 0] rfl
                        have hD : va_D A [(mo, .inr (6, [.ref qA, .ref qS, .int (nI sm), .ref qE, .ref qT, .int (nI tl), .ref qQ, .int (nI qd9_9), .ref qF, .int (nI fm9_9), .ref qC, .int (nI ap), .int (nI pl), .ref qH, .ref qB])), (qA, .inl (cI, 50, .inl av)), (qQ, .inl (cI, 16, .inl qf9_9)), (qF, .inl (cI, 24, .inl ff9_9)), (qC, .inl (cI, 24, .inl (upd ct1c r2 (((cdP hs bs ((runP hs bs n k).1.getD k 0) (runP hs bs n k) r2).2.2 r2) - (nI 1)))))] := hD.sub [1, 2, 3, 4, 0] rfl rfl
                        refine W.eq (g2 := F0 m 120 ls []) rfl ?_
                        have hR2 := w_9.1
                        have hq2 := w_9.2.1
                        have hf2 := w_9.2.2
                        refine lv_iinc (v := nI (r2 + 1)) (lv' := [(2, .int (nI (r2 + 1))), (0, .ref mo), (1, .int (nI k))]) hx hb dX6_propagates_120 hl (k := 2) rfl (nI_s1 r2) (by decide) rfl (fun ls hl => ?_)
                        refine lv_goto (tgt := 68) hx hb dX6_propagates_123 (by decide) ?_
                        exact ih_68 (r2 + 1) qf9_9 qd9_9 ff9_9 fm9_9 (upd ct1c r2 (((cdP hs bs ((runP hs bs n k).1.getD k 0) (runP hs bs n k) r2).2.2 r2) - (nI 1))) (by omega) (by rw [cdP, if_pos hca, if_pos hz]; exact hR2) (by omega) (by omega) (cd_c hc1c hca) (by omega) _ _ hP hD hS ls (lv_sub hl [1, 2, 0] rfl)
              exact lp_68_5 (n - 0 + 1) 0 qf1b qd1b ff1b fm1b ct1b (by omega) hR1b (by omega) (by omega) hc1b (Nat.lt_succ_self _) _ _ hP hD hS ls (lv_sub hl [1, 2, 0] rfl)
        exact lp_58_3 (17 - 0 + 1) 0 qf1 qd1 ff1 fm1 ct1 (by omega) (by rw [show n = r from by omega]; exact hR1) (by omega) (by omega) (by rw [show n = r from by omega]; exact hc1) (Nat.lt_succ_self _) _ _ hP hD hS ls (lv_sub hl [1, 0] rfl)
      · skip
        have c_2 : ¬ (n ≤ r) := fun h9 => (show ¬ (nI n ≤ nI r) from c_2) ((nI_leI (by omega) (by omega)).mpr h9)
        refine lv_aload_n hx hb dX6_propagates_22 rfl (lv_at hl 0 rfl) ?_
        refine va_get (D := D) (ci := 6) (v := .ref qC) (C := RX6) (T := TX6) (N := 15) hx hb hts ilX6_propagates_6 hown hG.1 hP 0 rfl rfl 10 (by decide) (hts (.fieldLink RX6 28 "HornEngineModel" "counters" "[I") (List.mem_of_getElem? (i := 4) rfl)) (fun _ h9 => h9) rfl dX6_propagates_23 ?_
        refine lv_iload_n hx hb dX6_propagates_26 rfl (lv_at hl 1 rfl) ?_
        refine lv_aload_n hx hb dX6_propagates_27 rfl (lv_at hl 0 rfl) ?_
        refine lv_iload_n hx hb dX6_propagates_28 rfl (lv_at hl 1 rfl) ?_
        refine pu_V (As := [.int (nI r)]) (rest := [.int (nI r), .ref qC]) ⟨hx, hb, hml, hown, hts⟩ hG hP (k_X6_bodyOf l D cI cB mo qA qS sm qE qT tl qQ qd1 qF fm1 qC ap pl qH qB av hs bs n as_ r hM hn (by omega)) (cwV 1 hts gX6_propagates_X6_bodyOf rfl rfl rfl (by decide +kernel) ⟨(Nat.le_of_ble_eq_true rfl), (Nat.le_of_ble_eq_true rfl)⟩) [0, 1] rfl 0 rfl rfl rfl rfl hl.1 rfl (Nat.le_of_ble_eq_true rfl) dX6_propagates_29 ⟨Nat.zero_le _, Nat.zero_le _⟩ ?_
        refine pu_S (As := [.int (bs r)]) (rest := [.int (nI r), .ref qC]) ⟨hx, hb, hml, hown, hts⟩ hG hP (k_X6_size l D cI cB (bs r) ) (cwS 1 hts gX6_propagates_X6_size rfl rfl rfl (by decide +kernel) ⟨(Nat.le_of_ble_eq_true rfl), (Nat.le_of_ble_eq_true rfl)⟩) [] rfl rfl hl.1 rfl (Nat.le_of_ble_eq_true rfl) dX6_propagates_32 ⟨Nat.zero_le _, Nat.zero_le _⟩ ?_
        refine lv_eqi (y := bc (bs r)) (sz_low (hB r (by omega))) ?_
        refine ia_st hx hb hG hP hD hS 4 rfl r rfl (by omega) (by decide) dX6_propagates_35 (fun H locs hP hD hS => ?_)
        have hP : va_P D vwCl [(mo, .inr (6, [.ref qA, .ref qS, .int (nI sm), .ref qE, .ref qT, .int (nI tl), .ref qQ, .int (nI qd1), .ref qF, .int (nI fm1), .ref qC, .int (nI ap), .int (nI pl), .ref qH, .ref qB])), (qA, .inl (cI, 50, .inl av)), (qQ, .inl (cI, 16, .inl qf1)), (qF, .inl (cI, 24, .inl ff1)), (qC, .inl (cI, 24, .inl (upd ct1 r (bc (bs r)))))] H := hP
        have hD : va_D A [(mo, .inr (6, [.ref qA, .ref qS, .int (nI sm), .ref qE, .ref qT, .int (nI tl), .ref qQ, .int (nI qd1), .ref qF, .int (nI fm1), .ref qC, .int (nI ap), .int (nI pl), .ref qH, .ref qB])), (qA, .inl (cI, 50, .inl av)), (qQ, .inl (cI, 16, .inl qf1)), (qF, .inl (cI, 24, .inl ff1)), (qC, .inl (cI, 24, .inl (upd ct1 r (bc (bs r)))))] := hD
        refine lv_aload_n hx hb dX6_propagates_36 rfl (lv_at hl 0 rfl) ?_
        refine va_get (D := D) (ci := 6) (v := .ref qC) (C := RX6) (T := TX6) (N := 15) hx hb hts ilX6_propagates_6 hown hG.1 hP 0 rfl rfl 10 (by decide) (hts (.fieldLink RX6 28 "HornEngineModel" "counters" "[I") (List.mem_of_getElem? (i := 4) rfl)) (fun _ h9 => h9) rfl dX6_propagates_37 ?_
        refine lv_iload_n hx hb dX6_propagates_40 rfl (lv_at hl 1 rfl) ?_
        refine ia_ld hx hb hG hP 4 rfl r rfl (by omega) (by decide) dX6_propagates_41 ?_
        refine lv_if_ne (tgt := 50) hx hb dX6_propagates_42 (by decide) (fun c_10 => ?_) (fun c_10 => ?_)
        · skip
          have hz : ¬ bc (bs r) = 0 := fun q => c_10 (by simp only [upd, reduceIte]; exact q)
          refine lv_iinc (v := nI (r + 1)) (lv' := [(1, .int (nI (r + 1))), (0, .ref mo)]) hx hb dX6_propagates_50 hl (k := 1) rfl (nI_s1 r) (by decide) rfl (fun ls hl => ?_)
          refine lv_goto (tgt := 12) hx hb dX6_propagates_53 (by decide) ?_
          exact ih_12 (r + 1) qf1 qd1 ff1 fm1 (upd ct1 r (bc (bs r))) (by omega) (by rw [factP, if_neg hz]; exact hR1) (by omega) (by omega) (fact_c hc1) (by omega) _ _ hP hD hS ls (lv_sub hl [1, 0] rfl)
        · skip
          have hz : bc (bs r) = 0 := by simpa only [upd, reduceIte] using c_10
          refine lv_aload_n hx hb dX6_propagates_45 rfl (lv_at hl 0 rfl) ?_
          refine lv_iload_n hx hb dX6_propagates_46 rfl (lv_at hl 1 rfl) ?_
          refine ef_V (As := [.int (nI r)]) (rest := []) (wr := [(qC, .inl (cI, 24, .inl (upd ct1 r (bc (bs r)))))]) ⟨hx, hb, hml, hown, hts⟩ hG hP hD hS hA (k_X6_fires l D cI cB mo qA qS sm qE qT tl qQ qd1 qF fm1 qC ap pl qH qB av hs bs n as_ qf1 ff1 r (setC (factP hs bs r) r (bc (bs r))) hM hn (by omega) (prM_set hR1 r (bc (bs r))) (by omega) (hok.1 r (by omega) hz) _) (cwV 1 hts gX6_propagates_X6_fires rfl rfl rfl (by decide +kernel) ⟨(Nat.le_of_ble_eq_true rfl), (Nat.le_of_ble_eq_true rfl)⟩) [0, 1, 2, 3] [4] rfl rfl rfl rfl (by decide) 0 rfl rfl rfl rfl hl.1 rfl (Nat.le_of_ble_eq_true rfl) dX6_propagates_47 ⟨(Nat.le_of_ble_eq_true rfl), (Nat.le_of_ble_eq_true rfl)⟩ (fun v_11 u_11 H locs w_11 hP hD hS => ?_)
          obtain ⟨qf9_11, qd9_11, ff9_11, fm9_11⟩ := u_11
          obtain ⟨e_11, w_11⟩ := w_11
          have w_11 : prM (fireP hs r (setC (factP hs bs r) r (bc (bs r)))) qf9_11 qd9_11 ff9_11 fm9_11 ∧ qd9_11 ≤ 16 ∧ fm9_11 ≤ 24 := w_11
          have e_11 : v_11 = none := e_11
          subst e_11
          have hP : va_P D vwCl [(mo, .inr (6, [.ref qA, .ref qS, .int (nI sm), .ref qE, .ref qT, .int (nI tl), .ref qQ, .int (nI qd9_11), .ref qF, .int (nI fm9_11), .ref qC, .int (nI ap), .int (nI pl), .ref qH, .ref qB])), (qA, .inl (cI, 50, .inl av)), (qQ, .inl (cI, 16, .inl qf9_11)), (qF, .inl (cI, 24, .inl ff9_11)), (qC, .inl (cI, 24, .inl (upd ct1 r (bc (bs r)))))] H := hP.sub [1, 2, 3, 4, 0] rfl
          have hD : va_D A [(mo, .inr (6, [.ref qA, .ref qS, .int (nI sm), .ref qE, .ref qT, .int (nI tl), .ref qQ, .int (nI qd9_11), .ref qF, .int (nI fm9_11), .ref qC, .int (nI ap), .int (nI pl), .ref qH, .ref qB])), (qA, .inl (cI, 50, .inl av)), (qQ, .inl (cI, 16, .inl qf9_11)), (qF, .inl (cI, 24, .inl ff9_11)), (qC, .inl (cI, 24, .inl (upd ct1 r (bc (bs r)))))] := hD.sub [1, 2, 3, 4, 0] rfl rfl
          refine W.eq (g2 := F0 m 50 ls []) rfl ?_
          have hR2 := w_11.1
          have hq2 := w_11.2.1
          have hf2 := w_11.2.2
          refine lv_iinc (v := nI (r + 1)) (lv' := [(1, .int (nI (r + 1))), (0, .ref mo)]) hx hb dX6_propagates_50 hl (k := 1) rfl (nI_s1 r) (by decide) rfl (fun ls hl => ?_)
          refine lv_goto (tgt := 12) hx hb dX6_propagates_53 (by decide) ?_
          exact ih_12 (r + 1) qf9_11 qd9_11 ff9_11 fm9_11 (upd ct1 r (bc (bs r))) (by omega) (by rw [factP, if_pos hz]; exact hR2) (by omega) (by omega) (fact_c hc1) (by omega) _ _ hP hD hS ls (lv_sub hl [1, 0] rfl)
  exact lp_12_1 (n - 0 + 1) 0 qf 0 ff 0 ct (by omega) (⟨rfl, rfl⟩) (by omega) (by omega) (fun j hj => absurd hj (Nat.not_lt_zero j)) (Nat.lt_succ_self _) _ _ hP hD hS ls (lv_sub hl [1, 0] rfl)
set_option maxHeartbeats 4000000 in
set_option maxRecDepth 100000 in
theorem k_X6_derived (l : Launch) (D : va_G) (cI cB : ClassId) (mo : Nat) (qA : Nat) (qS : Nat) (sm : Nat) (qE : Nat) (qT : Nat) (tl : Nat) (qQ : Nat) (qd : Nat) (qF : Nat) (fm : Nat) (qC : Nat) (ap : Nat) (pl : Nat) (qH : Nat) (qB : Nat) (av : Nat → Int32) (hs : Nat → Int32) (bs : Nat → Int32) (n : Nat) (as_ : Int32) (qf : Nat → Int32) (ff : Nat → Int32) (ct : Nat → Int32) (er : Nat → Int32) (i_ : Int32) (hM : mA av hs bs n as_) (hn : n ≤ 24) (hH : hOK hs n) (hB : bOK bs n) (hqd : qd ≤ 16) (hfm : fm ≤ 24) (sz : Nat) : Wr l yX6_derived wsX6_derived ({ frames := 3, cells := 0, slots := 0, locals := 66 }) D cI cB [.ref mo, .int i_] [(mo, .inr (6, [.ref qA, .ref qS, .int (nI sm), .ref qE, .ref qT, .int (nI tl), .ref qQ, .int (nI qd), .ref qF, .int (nI fm), .ref qC, .int (nI ap), .int (nI pl), .ref qH, .ref qB])), (qA, .inl (cI, 50, .inl av)), (qQ, .inl (cI, 16, .inl qf)), (qF, .inl (cI, 24, .inl ff)), (qC, .inl (cI, 24, .inl ct)), (qE, .inl (cI, 4, .inl er))] sz (S := (Nat → Int32) × Nat × (Nat → Int32) × Nat × (Nat → Int32)) (fun v u => v = some (.int (cond (decide (0 ≤ i_)) (itmL (runP hs bs n 16).1 i_) (-2))) ∧ (u.2.1 ≤ 16 ∧ u.2.2.2.1 ≤ 24)) (fun u => [(mo, .inr (6, [.ref qA, .ref qS, .int (nI sm), .ref qE, .ref qT, .int (nI tl), .ref qQ, .int (nI u.2.1), .ref qF, .int (nI u.2.2.2.1), .ref qC, .int (nI ap), .int (nI pl), .ref qH, .ref qB])), (qA, .inl (cI, 50, .inl av)), (qQ, .inl (cI, 16, .inl u.1)), (qF, .inl (cI, 24, .inl u.2.2.1)), (qC, .inl (cI, 24, .inl u.2.2.2.2)), (qE, .inl (cI, 4, .inl (cond (decide (0 ≤ i_)) er (bad er 0))))]) 0 0 := by
  refine ef_startI (cc := cX6_derived) (maxL := 2) (by decide) rfl (Nat.le_of_ble_eq_true rfl) ?_
  intro p e s m args below meth c Q A hx hb hml hown hts hP hG hD hA hret ls hl
  have hown : s.vm.findClass RX6 = some m.cls := hown
  have hl : lv_has ls 2 [(0, .ref mo), (1, .int i_)] := hl
  have hS : va_S A s.heap s.heap [] := va_S.rf
  refine lv_iload_n hx hb dX6_derived_0 rfl (lv_at hl 1 rfl) ?_
  refine lv_if_ge (tgt := 11) hx hb dX6_derived_1 (by decide) (fun c_1 => ?_) (fun c_1 => ?_)
  · skip
    have hk : decide (0 ≤ i_) = true := decide_eq_true c_1
    have hnn : ¬ i_ < 0 := Int32.not_lt.mpr c_1
    refine lv_aload_n hx hb dX6_derived_11 rfl (lv_at hl 0 rfl) ?_
    refine ef_V (As := []) (rest := []) (wr := [(qE, .inl (cI, 4, .inl er))]) ⟨hx, hb, hml, hown, hts⟩ hG hP hD hS hA (k_X6_propagates l D cI cB mo qA qS sm qE qT tl qQ qd qF fm qC ap pl qH qB av hs bs n as_ qf ff ct hM hn hH hB _) (cwV 0 hts gX6_derived_X6_propagates rfl rfl rfl (by decide +kernel) ⟨(Nat.le_of_ble_eq_true rfl), (Nat.le_of_ble_eq_true rfl)⟩) [0, 1, 2, 3, 4] [5] rfl rfl rfl rfl (by decide) 0 rfl rfl rfl rfl hl.1 rfl (Nat.le_of_ble_eq_true rfl) dX6_derived_12 ⟨(Nat.le_of_ble_eq_true rfl), (Nat.le_of_ble_eq_true rfl)⟩ (fun v_2 u_2 H locs w_2 hP hD hS => ?_)
    obtain ⟨qf9_2, qd9_2, ff9_2, fm9_2, ct9_2⟩ := u_2
    obtain ⟨e_2, w_2⟩ := w_2
    have w_2 : prM (runP hs bs n 16) qf9_2 qd9_2 ff9_2 fm9_2 ∧ qd9_2 ≤ 16 ∧ fm9_2 ≤ 24 := w_2
    have e_2 : v_2 = none := e_2
    subst e_2
    have hP : va_P D vwCl [(mo, .inr (6, [.ref qA, .ref qS, .int (nI sm), .ref qE, .ref qT, .int (nI tl), .ref qQ, .int (nI qd9_2), .ref qF, .int (nI fm9_2), .ref qC, .int (nI ap), .int (nI pl), .ref qH, .ref qB])), (qA, .inl (cI, 50, .inl av)), (qQ, .inl (cI, 16, .inl qf9_2)), (qF, .inl (cI, 24, .inl ff9_2)), (qC, .inl (cI, 24, .inl ct9_2)), (qE, .inl (cI, 4, .inl er))] H := hP.sub [1, 2, 3, 4, 5, 0] rfl
    have hD : va_D A [(mo, .inr (6, [.ref qA, .ref qS, .int (nI sm), .ref qE, .ref qT, .int (nI tl), .ref qQ, .int (nI qd9_2), .ref qF, .int (nI fm9_2), .ref qC, .int (nI ap), .int (nI pl), .ref qH, .ref qB])), (qA, .inl (cI, 50, .inl av)), (qQ, .inl (cI, 16, .inl qf9_2)), (qF, .inl (cI, 24, .inl ff9_2)), (qC, .inl (cI, 24, .inl ct9_2)), (qE, .inl (cI, 4, .inl er))] := hD.sub [1, 2, 3, 4, 5, 0] rfl rfl
    refine W.eq (g2 := F0 m 15 ls []) rfl ?_
    have hR3 := w_2.1
    have hq3 := w_2.2.1
    have hf3 := w_2.2.2
    refine lv_iload_n hx hb dX6_derived_15 rfl (lv_at hl 1 rfl) ?_
    refine lv_aload_n hx hb dX6_derived_16 rfl (lv_at hl 0 rfl) ?_
    refine va_get (D := D) (ci := 6) (v := .int (nI qd9_2)) (C := RX6) (T := TX6) (N := 15) hx hb hts ilX6_derived_6 hown hG.1 hP 0 rfl rfl 7 (by decide) (hts (.fieldLink RX6 93 "HornEngineModel" "queued" "I") (List.mem_of_getElem? (i := 1) rfl)) (fun _ h9 => h9) rfl dX6_derived_17 ?_
    refine lv_icmp_ge (tgt := 32) hx hb dX6_derived_20 (by decide) (fun c_3 => ?_) (fun c_3 => ?_)
    · skip
      have hge := c_3
      refine lv_iconst (v := (-1)) hx hb dX6_derived_32 (by decide) ?_
      exact hret _ (qf9_2, qd9_2, ff9_2, fm9_2, ct9_2) _ _ _ _ (⟨by rw [hk, ← hR3.1, ← itm_L _ (by omega), itm, if_neg (fun q => (of_decide_eq_true q).2 hge)]; rfl, hq3, hf3⟩) (by rw [hk]; exact hP) (by rw [hk]; exact hD) hS dX6_derived_33
    · skip
      have hlt := c_3
      refine lv_aload_n hx hb dX6_derived_23 rfl (lv_at hl 0 rfl) ?_
      refine va_get (D := D) (ci := 6) (v := .ref qQ) (C := RX6) (T := TX6) (N := 15) hx hb hts ilX6_derived_6 hown hG.1 hP 0 rfl rfl 6 (by decide) (hts (.fieldLink RX6 22 "HornEngineModel" "queue" "[I") (List.mem_of_getElem? (i := 2) rfl)) (fun _ h9 => h9) rfl dX6_derived_24 ?_
      refine lv_iload_n hx hb dX6_derived_27 rfl (lv_at hl 1 rfl) ?_
      refine ia_ld hx hb hG hP 2 rfl i_.toNatClampNeg (itm_ix hnn hlt (by omega)).1 (Nat.lt_of_lt_of_le (itm_ix hnn hlt (by omega)).2 (by omega)) (by decide) dX6_derived_28 ?_
      refine lv_goto (tgt := 33) hx hb dX6_derived_29 (by decide) ?_
      exact hret _ (qf9_2, qd9_2, ff9_2, fm9_2, ct9_2) _ _ _ _ (⟨by rw [hk, ← hR3.1, ← itm_L _ (by omega), itm, if_pos (show hasR i_ qd9_2 = true from decide_eq_true ⟨hnn, hlt⟩)]; rfl, hq3, hf3⟩) (by rw [hk]; exact hP) (by rw [hk]; exact hD) hS dX6_derived_33
  · skip
    have hk : decide (0 ≤ i_) = false := decide_eq_false c_1
    refine lv_aload_n hx hb dX6_derived_4 rfl (lv_at hl 0 rfl) ?_
    refine lv_bipush (v := (-2)) hx hb dX6_derived_5 (by decide) ?_
    refine ef_V (As := [.int (-2)]) (rest := []) (wr := [(qA, .inl (cI, 50, .inl av)), (qQ, .inl (cI, 16, .inl qf)), (qF, .inl (cI, 24, .inl ff)), (qC, .inl (cI, 24, .inl ct))]) ⟨hx, hb, hml, hown, hts⟩ hG hP hD hS hA (k_X6_error l D cI cB mo qA qS sm qE qT tl qQ qd qF fm qC ap pl qH qB er (-2) 0 (by decide) (by decide) _) (cwV 1 hts gX6_derived_X6_error rfl rfl rfl (by decide +kernel) ⟨(Nat.le_of_ble_eq_true rfl), (Nat.le_of_ble_eq_true rfl)⟩) [0, 5] [1, 2, 3, 4] rfl rfl rfl rfl (by decide) 0 rfl rfl rfl rfl hl.1 rfl (Nat.le_of_ble_eq_true rfl) dX6_derived_7 ⟨(Nat.le_of_ble_eq_true rfl), (Nat.le_of_ble_eq_true rfl)⟩ (fun v_4 u_4 H locs w_4 hP hD hS => ?_)
    have w_4 : v_4 = some (.int (-2)) := w_4
    subst w_4
    have hP : va_P D vwCl [(mo, .inr (6, [.ref qA, .ref qS, .int (nI sm), .ref qE, .ref qT, .int (nI tl), .ref qQ, .int (nI qd), .ref qF, .int (nI fm), .ref qC, .int (nI ap), .int (nI pl), .ref qH, .ref qB])), (qA, .inl (cI, 50, .inl av)), (qQ, .inl (cI, 16, .inl qf)), (qF, .inl (cI, 24, .inl ff)), (qC, .inl (cI, 24, .inl ct)), (qE, .inl (cI, 4, .inl (bad er 0)))] H := hP.sub [4, 0, 1, 2, 3, 5] rfl
    have hD : va_D A [(mo, .inr (6, [.ref qA, .ref qS, .int (nI sm), .ref qE, .ref qT, .int (nI tl), .ref qQ, .int (nI qd), .ref qF, .int (nI fm), .ref qC, .int (nI ap), .int (nI pl), .ref qH, .ref qB])), (qA, .inl (cI, 50, .inl av)), (qQ, .inl (cI, 16, .inl qf)), (qF, .inl (cI, 24, .inl ff)), (qC, .inl (cI, 24, .inl ct)), (qE, .inl (cI, 4, .inl (bad er 0)))] := hD.sub [4, 0, 1, 2, 3, 5] rfl rfl
    refine W.eq (g2 := F0 m 10 ls [.int (-2)]) rfl ?_
    exact hret _ (qf, qd, ff, fm, ct) _ _ _ _ (⟨by rw [hk]; rfl, hqd, hfm⟩) (by rw [hk]; exact hP) (by rw [hk]; exact hD) hS dX6_derived_10
set_option maxHeartbeats 4000000 in
set_option maxRecDepth 100000 in
theorem k_X6_fired (l : Launch) (D : va_G) (cI cB : ClassId) (mo : Nat) (qA : Nat) (qS : Nat) (sm : Nat) (qE : Nat) (qT : Nat) (tl : Nat) (qQ : Nat) (qd : Nat) (qF : Nat) (fm : Nat) (qC : Nat) (ap : Nat) (pl : Nat) (qH : Nat) (qB : Nat) (av : Nat → Int32) (hs : Nat → Int32) (bs : Nat → Int32) (n : Nat) (as_ : Int32) (qf : Nat → Int32) (ff : Nat → Int32) (ct : Nat → Int32) (er : Nat → Int32) (i_ : Int32) (hM : mA av hs bs n as_) (hn : n ≤ 24) (hH : hOK hs n) (hB : bOK bs n) (hqd : qd ≤ 16) (hfm : fm ≤ 24) (sz : Nat) : Wr l yX6_fired wsX6_fired ({ frames := 3, cells := 0, slots := 0, locals := 66 }) D cI cB [.ref mo, .int i_] [(mo, .inr (6, [.ref qA, .ref qS, .int (nI sm), .ref qE, .ref qT, .int (nI tl), .ref qQ, .int (nI qd), .ref qF, .int (nI fm), .ref qC, .int (nI ap), .int (nI pl), .ref qH, .ref qB])), (qA, .inl (cI, 50, .inl av)), (qQ, .inl (cI, 16, .inl qf)), (qF, .inl (cI, 24, .inl ff)), (qC, .inl (cI, 24, .inl ct)), (qE, .inl (cI, 4, .inl er))] sz (S := (Nat → Int32) × Nat × (Nat → Int32) × Nat × (Nat → Int32)) (fun v u => v = some (.int (cond (decide (0 ≤ i_)) (itmL (runP hs bs n 16).2.1 i_) (-2))) ∧ (u.2.1 ≤ 16 ∧ u.2.2.2.1 ≤ 24)) (fun u => [(mo, .inr (6, [.ref qA, .ref qS, .int (nI sm), .ref qE, .ref qT, .int (nI tl), .ref qQ, .int (nI u.2.1), .ref qF, .int (nI u.2.2.2.1), .ref qC, .int (nI ap), .int (nI pl), .ref qH, .ref qB])), (qA, .inl (cI, 50, .inl av)), (qQ, .inl (cI, 16, .inl u.1)), (qF, .inl (cI, 24, .inl u.2.2.1)), (qC, .inl (cI, 24, .inl u.2.2.2.2)), (qE, .inl (cI, 4, .inl (cond (decide (0 ≤ i_)) er (bad er 0))))]) 0 0 := by
  refine ef_startI (cc := cX6_fired) (maxL := 2) (by decide) rfl (Nat.le_of_ble_eq_true rfl) ?_
  intro p e s m args below meth c Q A hx hb hml hown hts hP hG hD hA hret ls hl
  have hown : s.vm.findClass RX6 = some m.cls := hown
  have hl : lv_has ls 2 [(0, .ref mo), (1, .int i_)] := hl
  have hS : va_S A s.heap s.heap [] := va_S.rf
  refine lv_iload_n hx hb dX6_fired_0 rfl (lv_at hl 1 rfl) ?_
  refine lv_if_ge (tgt := 11) hx hb dX6_fired_1 (by decide) (fun c_1 => ?_) (fun c_1 => ?_)
  · skip
    have hk : decide (0 ≤ i_) = true := decide_eq_true c_1
    have hnn : ¬ i_ < 0 := Int32.not_lt.mpr c_1
    refine lv_aload_n hx hb dX6_fired_11 rfl (lv_at hl 0 rfl) ?_
    refine ef_V (As := []) (rest := []) (wr := [(qE, .inl (cI, 4, .inl er))]) ⟨hx, hb, hml, hown, hts⟩ hG hP hD hS hA (k_X6_propagates l D cI cB mo qA qS sm qE qT tl qQ qd qF fm qC ap pl qH qB av hs bs n as_ qf ff ct hM hn hH hB _) (cwV 0 hts gX6_fired_X6_propagates rfl rfl rfl (by decide +kernel) ⟨(Nat.le_of_ble_eq_true rfl), (Nat.le_of_ble_eq_true rfl)⟩) [0, 1, 2, 3, 4] [5] rfl rfl rfl rfl (by decide) 0 rfl rfl rfl rfl hl.1 rfl (Nat.le_of_ble_eq_true rfl) dX6_fired_12 ⟨(Nat.le_of_ble_eq_true rfl), (Nat.le_of_ble_eq_true rfl)⟩ (fun v_2 u_2 H locs w_2 hP hD hS => ?_)
    obtain ⟨qf9_2, qd9_2, ff9_2, fm9_2, ct9_2⟩ := u_2
    obtain ⟨e_2, w_2⟩ := w_2
    have w_2 : prM (runP hs bs n 16) qf9_2 qd9_2 ff9_2 fm9_2 ∧ qd9_2 ≤ 16 ∧ fm9_2 ≤ 24 := w_2
    have e_2 : v_2 = none := e_2
    subst e_2
    have hP : va_P D vwCl [(mo, .inr (6, [.ref qA, .ref qS, .int (nI sm), .ref qE, .ref qT, .int (nI tl), .ref qQ, .int (nI qd9_2), .ref qF, .int (nI fm9_2), .ref qC, .int (nI ap), .int (nI pl), .ref qH, .ref qB])), (qA, .inl (cI, 50, .inl av)), (qQ, .inl (cI, 16, .inl qf9_2)), (qF, .inl (cI, 24, .inl ff9_2)), (qC, .inl (cI, 24, .inl ct9_2)), (qE, .inl (cI, 4, .inl er))] H := hP.sub [1, 2, 3, 4, 5, 0] rfl
    have hD : va_D A [(mo, .inr (6, [.ref qA, .ref qS, .int (nI sm), .ref qE, .ref qT, .int (nI tl), .ref qQ, .int (nI qd9_2), .ref qF, .int (nI fm9_2), .ref qC, .int (nI ap), .int (nI pl), .ref qH, .ref qB])), (qA, .inl (cI, 50, .inl av)), (qQ, .inl (cI, 16, .inl qf9_2)), (qF, .inl (cI, 24, .inl ff9_2)), (qC, .inl (cI, 24, .inl ct9_2)), (qE, .inl (cI, 4, .inl er))] := hD.sub [1, 2, 3, 4, 5, 0] rfl rfl
    refine W.eq (g2 := F0 m 15 ls []) rfl ?_
    have hR3 := w_2.1
    have hq3 := w_2.2.1
    have hf3 := w_2.2.2
    refine lv_iload_n hx hb dX6_fired_15 rfl (lv_at hl 1 rfl) ?_
    refine lv_aload_n hx hb dX6_fired_16 rfl (lv_at hl 0 rfl) ?_
    refine va_get (D := D) (ci := 6) (v := .int (nI fm9_2)) (C := RX6) (T := TX6) (N := 15) hx hb hts ilX6_fired_6 hown hG.1 hP 0 rfl rfl 9 (by decide) (hts (.fieldLink RX6 90 "HornEngineModel" "fireMany" "I") (List.mem_of_getElem? (i := 1) rfl)) (fun _ h9 => h9) rfl dX6_fired_17 ?_
    refine lv_icmp_ge (tgt := 32) hx hb dX6_fired_20 (by decide) (fun c_3 => ?_) (fun c_3 => ?_)
    · skip
      have hge := c_3
      refine lv_iconst (v := (-1)) hx hb dX6_fired_32 (by decide) ?_
      exact hret _ (qf9_2, qd9_2, ff9_2, fm9_2, ct9_2) _ _ _ _ (⟨by rw [hk, ← hR3.2, ← itm_L _ (by omega), itm, if_neg (fun q => (of_decide_eq_true q).2 hge)]; rfl, hq3, hf3⟩) (by rw [hk]; exact hP) (by rw [hk]; exact hD) hS dX6_fired_33
    · skip
      have hlt := c_3
      refine lv_aload_n hx hb dX6_fired_23 rfl (lv_at hl 0 rfl) ?_
      refine va_get (D := D) (ci := 6) (v := .ref qF) (C := RX6) (T := TX6) (N := 15) hx hb hts ilX6_fired_6 hown hG.1 hP 0 rfl rfl 8 (by decide) (hts (.fieldLink RX6 25 "HornEngineModel" "fires" "[I") (List.mem_of_getElem? (i := 2) rfl)) (fun _ h9 => h9) rfl dX6_fired_24 ?_
      refine lv_iload_n hx hb dX6_fired_27 rfl (lv_at hl 1 rfl) ?_
      refine ia_ld hx hb hG hP 3 rfl i_.toNatClampNeg (itm_ix hnn hlt (by omega)).1 (Nat.lt_of_lt_of_le (itm_ix hnn hlt (by omega)).2 (by omega)) (by decide) dX6_fired_28 ?_
      refine lv_goto (tgt := 33) hx hb dX6_fired_29 (by decide) ?_
      exact hret _ (qf9_2, qd9_2, ff9_2, fm9_2, ct9_2) _ _ _ _ (⟨by rw [hk, ← hR3.2, ← itm_L _ (by omega), itm, if_pos (show hasR i_ fm9_2 = true from decide_eq_true ⟨hnn, hlt⟩)]; rfl, hq3, hf3⟩) (by rw [hk]; exact hP) (by rw [hk]; exact hD) hS dX6_fired_33
  · skip
    have hk : decide (0 ≤ i_) = false := decide_eq_false c_1
    refine lv_aload_n hx hb dX6_fired_4 rfl (lv_at hl 0 rfl) ?_
    refine lv_bipush (v := (-2)) hx hb dX6_fired_5 (by decide) ?_
    refine ef_V (As := [.int (-2)]) (rest := []) (wr := [(qA, .inl (cI, 50, .inl av)), (qQ, .inl (cI, 16, .inl qf)), (qF, .inl (cI, 24, .inl ff)), (qC, .inl (cI, 24, .inl ct))]) ⟨hx, hb, hml, hown, hts⟩ hG hP hD hS hA (k_X6_error l D cI cB mo qA qS sm qE qT tl qQ qd qF fm qC ap pl qH qB er (-2) 0 (by decide) (by decide) _) (cwV 1 hts gX6_fired_X6_error rfl rfl rfl (by decide +kernel) ⟨(Nat.le_of_ble_eq_true rfl), (Nat.le_of_ble_eq_true rfl)⟩) [0, 5] [1, 2, 3, 4] rfl rfl rfl rfl (by decide) 0 rfl rfl rfl rfl hl.1 rfl (Nat.le_of_ble_eq_true rfl) dX6_fired_7 ⟨(Nat.le_of_ble_eq_true rfl), (Nat.le_of_ble_eq_true rfl)⟩ (fun v_4 u_4 H locs w_4 hP hD hS => ?_)
    have w_4 : v_4 = some (.int (-2)) := w_4
    subst w_4
    have hP : va_P D vwCl [(mo, .inr (6, [.ref qA, .ref qS, .int (nI sm), .ref qE, .ref qT, .int (nI tl), .ref qQ, .int (nI qd), .ref qF, .int (nI fm), .ref qC, .int (nI ap), .int (nI pl), .ref qH, .ref qB])), (qA, .inl (cI, 50, .inl av)), (qQ, .inl (cI, 16, .inl qf)), (qF, .inl (cI, 24, .inl ff)), (qC, .inl (cI, 24, .inl ct)), (qE, .inl (cI, 4, .inl (bad er 0)))] H := hP.sub [4, 0, 1, 2, 3, 5] rfl
    have hD : va_D A [(mo, .inr (6, [.ref qA, .ref qS, .int (nI sm), .ref qE, .ref qT, .int (nI tl), .ref qQ, .int (nI qd), .ref qF, .int (nI fm), .ref qC, .int (nI ap), .int (nI pl), .ref qH, .ref qB])), (qA, .inl (cI, 50, .inl av)), (qQ, .inl (cI, 16, .inl qf)), (qF, .inl (cI, 24, .inl ff)), (qC, .inl (cI, 24, .inl ct)), (qE, .inl (cI, 4, .inl (bad er 0)))] := hD.sub [4, 0, 1, 2, 3, 5] rfl rfl
    refine W.eq (g2 := F0 m 10 ls [.int (-2)]) rfl ?_
    exact hret _ (qf, qd, ff, fm, ct) _ _ _ _ (⟨by rw [hk]; rfl, hqd, hfm⟩) (by rw [hk]; exact hP) (by rw [hk]; exact hD) hS dX6_fired_10
