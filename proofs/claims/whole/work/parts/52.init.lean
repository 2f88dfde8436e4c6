theorem ilX4_init_4 : ∀ w ∈ u_ws RX4 TX4 4, w ∈ wsX4_init := by decide +kernel
theorem ilX2_init_2 : ∀ w ∈ u_ws RX2 TX2 2, w ∈ wsX2_init := by decide +kernel
theorem ilX1_init_1 : ∀ w ∈ u_ws RX1 TX1 4, w ∈ wsX1_init := by decide +kernel
theorem ilX1_init_2 : ∀ w ∈ u_ws RX2 TX2 2, w ∈ wsX1_init := by decide +kernel
theorem ilX3_init_3 : ∀ w ∈ u_ws RX3 TX3 3, w ∈ wsX3_init := by decide +kernel
theorem ilX3_init_4 : ∀ w ∈ u_ws RX4 TX4 4, w ∈ wsX3_init := by decide +kernel
set_option maxHeartbeats 4000000 in
set_option maxRecDepth 100000 in
theorem k_X4_init (l : Launch) (D : va_G) (cI cB : ClassId) (b : Nat) (sz : Nat) : Wr l yX4_init wsX4_init ({ frames := 1, cells := 2, slots := 48, locals := 20 }) D cI cB [.ref b] [(b, .inr (4, [.null, .null, .int (nI 0), .int (nI 0)]))] sz (S := Nat × Nat) (fun v u => v = none) (fun u => [(b, .inr (4, [.ref u.1, .ref u.2, .int (nI 0), .int (nI 0)])), (u.1, .inl (cI, 24, .inl (fun _ => 0))), (u.2, .inl (cI, 24, .inl (fun _ => 0)))]) 2 48 := by
  refine ef_startV (cc := cX4_init) (maxL := 1) (by decide) rfl (Nat.le_of_ble_eq_true rfl) ?_
  intro p e s m args below meth c Q A hx hb hml hown hts hP hG hD hA hin hret ls hl
  have hown : s.vm.findClass RX4 = some m.cls := hown
  have hl : lv_has ls 1 [(0, .ref b)] := hl
  have hS : va_S A s.heap s.heap [] := va_S.rf
  refine lv_aload_n hx hb dX4_init_0 rfl (lv_at hl 0 rfl) ?_
  refine W.objInit hx hb hown (hts (.methodLink RX4 3 objectInit) (List.mem_of_getElem? (i := 1) rfl)) (hts (.instanceMethod objectInit) (List.mem_of_getElem? (i := 2) rfl)) (hts (.code objectInit ⟨#[0xb1]⟩ 1 none) (List.mem_of_getElem? (i := 3) rfl)) (g := F0 m 1 ls [.ref b]) rfl (hl.1.trans hml.symm) rfl dX4_init_1 (Nat.le_of_ble_eq_true rfl) (by show 2 * 0 + 0 + 12 ≤ _; exact (Nat.le_of_ble_eq_true rfl)) ?_
  refine W.eq (g2 := F0 m 4 ls []) rfl ?_
  refine lv_aload_n hx hb dX4_init_4 rfl (lv_at hl 0 rfl) ?_
  refine lv_bipush (v := nI 24) hx hb dX4_init_5 (by decide) ?_
  refine ef_newI hx hb (hts (.arrayClass .int) (List.mem_of_getElem? (i := 4) rfl)) hG hP hD hS hA 24 rfl (Nat.le_of_ble_eq_true rfl) (Nat.le_of_ble_eq_true rfl) (Nat.le_of_ble_eq_true rfl) dX4_init_7 (fun qh H hP hD hS => ?_)
  have hP : va_P D vwCl [(b, .inr (4, [.null, .null, .int (nI 0), .int (nI 0)])), (qh, .inl (cI, 24, .inl (fun _ => 0)))] H := hP
  have hD : va_D A [(b, .inr (4, [.null, .null, .int (nI 0), .int (nI 0)])), (qh, .inl (cI, 24, .inl (fun _ => 0)))] := hD
  refine va_putF (D := D) (ci := 4) (v := .ref qh) (ty := .array .int) (C := RX4) (T := TX4) (N := 4) hx hb hts ilX4_init_4 tyX4 tyX4_ok nmX4 hown hG.1 hP hD hS 0 rfl rfl 0 (by decide) (hts (.fieldLink RX4 9 "HornEngine$Rulebook" "heads" "[I") (List.mem_of_getElem? (i := 5) rfl)) (fun _ h9 => h9) rfl hin rfl (by decide +kernel) rfl rfl (Nat.le_of_ble_eq_true rfl) dX4_init_9 (fun H locs hP hD hS => ?_)
  have hP : va_P D vwCl [(b, .inr (4, [.ref qh, .null, .int (nI 0), .int (nI 0)])), (qh, .inl (cI, 24, .inl (fun _ => 0)))] H := hP
  have hD : va_D A [(b, .inr (4, [.ref qh, .null, .int (nI 0), .int (nI 0)])), (qh, .inl (cI, 24, .inl (fun _ => 0)))] := hD
  refine lv_aload_n hx hb dX4_init_12 rfl (lv_at hl 0 rfl) ?_
  refine lv_bipush (v := nI 24) hx hb dX4_init_13 (by decide) ?_
  refine ef_newI hx hb (hts (.arrayClass .int) (List.mem_of_getElem? (i := 4) rfl)) hG hP hD hS hA 24 rfl (Nat.le_of_ble_eq_true rfl) (Nat.le_of_ble_eq_true rfl) (Nat.le_of_ble_eq_true rfl) dX4_init_15 (fun qb H hP hD hS => ?_)
  have hP : va_P D vwCl [(b, .inr (4, [.ref qh, .null, .int (nI 0), .int (nI 0)])), (qh, .inl (cI, 24, .inl (fun _ => 0))), (qb, .inl (cI, 24, .inl (fun _ => 0)))] H := hP
  have hD : va_D A [(b, .inr (4, [.ref qh, .null, .int (nI 0), .int (nI 0)])), (qh, .inl (cI, 24, .inl (fun _ => 0))), (qb, .inl (cI, 24, .inl (fun _ => 0)))] := hD
  refine va_putF (D := D) (ci := 4) (v := .ref qb) (ty := .array .int) (C := RX4) (T := TX4) (N := 4) hx hb hts ilX4_init_4 tyX4 tyX4_ok nmX4 hown hG.1 hP hD hS 0 rfl rfl 1 (by decide) (hts (.fieldLink RX4 15 "HornEngine$Rulebook" "bodies" "[I") (List.mem_of_getElem? (i := 6) rfl)) (fun _ h9 => h9) rfl hin rfl (by decide +kernel) rfl rfl (Nat.le_of_ble_eq_true rfl) dX4_init_17 (fun H locs hP hD hS => ?_)
  have hP : va_P D vwCl [(b, .inr (4, [.ref qh, .ref qb, .int (nI 0), .int (nI 0)])), (qh, .inl (cI, 24, .inl (fun _ => 0))), (qb, .inl (cI, 24, .inl (fun _ => 0)))] H := hP
  have hD : va_D A [(b, .inr (4, [.ref qh, .ref qb, .int (nI 0), .int (nI 0)])), (qh, .inl (cI, 24, .inl (fun _ => 0))), (qb, .inl (cI, 24, .inl (fun _ => 0)))] := hD
  exact hret (qh, qb) _ _ _ _ (rfl) (hP) (hD) hS dX4_init_20
set_option maxHeartbeats 4000000 in
set_option maxRecDepth 100000 in
theorem k_X2_init_16 (l : Launch) (D : va_G) (cI cB : ClassId) (ro : Nat) (sz : Nat) : Wr l yX2_init wsX2_init ({ frames := 1, cells := 1, slots := 16, locals := 20 }) D cI cB [.ref ro, .int (nI 16)] [(ro, .inr (2, [.null, .int (nI 0)]))] sz (S := Nat) (fun v u => v = none) (fun u => [(ro, .inr (2, [.ref u, .int (nI 0)])), (u, .inl (cI, 16, .inl (fun _ => 0)))]) 1 16 := by
  refine ef_startV (cc := cX2_init) (maxL := 2) (by decide) rfl (Nat.le_of_ble_eq_true rfl) ?_
  intro p e s m args below meth c Q A hx hb hml hown hts hP hG hD hA hin hret ls hl
  have hown : s.vm.findClass RX2 = some m.cls := hown
  have hl : lv_has ls 2 [(0, .ref ro), (1, .int (nI 16))] := hl
  have hS : va_S A s.heap s.heap [] := va_S.rf
  refine lv_aload_n hx hb dX2_init_0 rfl (lv_at hl 0 rfl) ?_
  refine W.objInit hx hb hown (hts (.methodLink RX2 3 objectInit) (List.mem_of_getElem? (i := 1) rfl)) (hts (.instanceMethod objectInit) (List.mem_of_getElem? (i := 2) rfl)) (hts (.code objectInit ⟨#[0xb1]⟩ 1 none) (List.mem_of_getElem? (i := 3) rfl)) (g := F0 m 1 ls [.ref ro]) rfl (hl.1.trans hml.symm) rfl dX2_init_1 (Nat.le_of_ble_eq_true rfl) (by show 2 * 0 + 0 + 12 ≤ _; exact (Nat.le_of_ble_eq_true rfl)) ?_
  refine W.eq (g2 := F0 m 4 ls []) rfl ?_
  refine lv_aload_n hx hb dX2_init_4 rfl (lv_at hl 0 rfl) ?_
  refine lv_iload_n hx hb dX2_init_5 rfl (lv_at hl 1 rfl) ?_
  refine lv_if_ge (tgt := 13) hx hb dX2_init_6 (by decide) (fun _ => ?_) (fun c_1 => absurd (by decide) c_1)
  refine lv_iload_n hx hb dX2_init_13 rfl (lv_at hl 1 rfl) ?_
  refine ef_newI hx hb (hts (.arrayClass .int) (List.mem_of_getElem? (i := 4) rfl)) hG hP hD hS hA 16 rfl (Nat.le_of_ble_eq_true rfl) (Nat.le_of_ble_eq_true rfl) (Nat.le_of_ble_eq_true rfl) dX2_init_14 (fun qi H hP hD hS => ?_)
  have hP : va_P D vwCl [(ro, .inr (2, [.null, .int (nI 0)])), (qi, .inl (cI, 16, .inl (fun _ => 0)))] H := hP
  have hD : va_D A [(ro, .inr (2, [.null, .int (nI 0)])), (qi, .inl (cI, 16, .inl (fun _ => 0)))] := hD
  refine va_putF (D := D) (ci := 2) (v := .ref qi) (ty := .array .int) (C := RX2) (T := TX2) (N := 2) hx hb hts ilX2_init_2 tyX2 tyX2_ok nmX2 hown hG.1 hP hD hS 0 rfl rfl 0 (by decide) (hts (.fieldLink RX2 9 "HornEngine$Row" "items" "[I") (List.mem_of_getElem? (i := 5) rfl)) (fun _ h9 => h9) rfl hin rfl (by decide +kernel) rfl rfl (Nat.le_of_ble_eq_true rfl) dX2_init_16 (fun H locs hP hD hS => ?_)
  have hP : va_P D vwCl [(ro, .inr (2, [.ref qi, .int (nI 0)])), (qi, .inl (cI, 16, .inl (fun _ => 0)))] H := hP
  have hD : va_D A [(ro, .inr (2, [.ref qi, .int (nI 0)])), (qi, .inl (cI, 16, .inl (fun _ => 0)))] := hD
  exact hret qi _ _ _ _ (rfl) (hP) (hD) hS dX2_init_19
set_option maxHeartbeats 4000000 in
set_option maxRecDepth 100000 in
theorem k_X2_init_24 (l : Launch) (D : va_G) (cI cB : ClassId) (ro : Nat) (sz : Nat) : Wr l yX2_init wsX2_init ({ frames := 1, cells := 1, slots := 24, locals := 20 }) D cI cB [.ref ro, .int (nI 24)] [(ro, .inr (2, [.null, .int (nI 0)]))] sz (S := Nat) (fun v u => v = none) (fun u => [(ro, .inr (2, [.ref u, .int (nI 0)])), (u, .inl (cI, 24, .inl (fun _ => 0)))]) 1 24 := by
  refine ef_startV (cc := cX2_init) (maxL := 2) (by decide) rfl (Nat.le_of_ble_eq_true rfl) ?_
  intro p e s m args below meth c Q A hx hb hml hown hts hP hG hD hA hin hret ls hl
  have hown : s.vm.findClass RX2 = some m.cls := hown
  have hl : lv_has ls 2 [(0, .ref ro), (1, .int (nI 24))] := hl
  have hS : va_S A s.heap s.heap [] := va_S.rf
  refine lv_aload_n hx hb dX2_init_0 rfl (lv_at hl 0 rfl) ?_
  refine W.objInit hx hb hown (hts (.methodLink RX2 3 objectInit) (List.mem_of_getElem? (i := 1) rfl)) (hts (.instanceMethod objectInit) (List.mem_of_getElem? (i := 2) rfl)) (hts (.code objectInit ⟨#[0xb1]⟩ 1 none) (List.mem_of_getElem? (i := 3) rfl)) (g := F0 m 1 ls [.ref ro]) rfl (hl.1.trans hml.symm) rfl dX2_init_1 (Nat.le_of_ble_eq_true rfl) (by show 2 * 0 + 0 + 12 ≤ _; exact (Nat.le_of_ble_eq_true rfl)) ?_
  refine W.eq (g2 := F0 m 4 ls []) rfl ?_
  refine lv_aload_n hx hb dX2_init_4 rfl (lv_at hl 0 rfl) ?_
  refine lv_iload_n hx hb dX2_init_5 rfl (lv_at hl 1 rfl) ?_
  refine lv_if_ge (tgt := 13) hx hb dX2_init_6 (by decide) (fun _ => ?_) (fun c_1 => absurd (by decide) c_1)
  refine lv_iload_n hx hb dX2_init_13 rfl (lv_at hl 1 rfl) ?_
  refine ef_newI hx hb (hts (.arrayClass .int) (List.mem_of_getElem? (i := 4) rfl)) hG hP hD hS hA 24 rfl (Nat.le_of_ble_eq_true rfl) (Nat.le_of_ble_eq_true rfl) (Nat.le_of_ble_eq_true rfl) dX2_init_14 (fun qi H hP hD hS => ?_)
  have hP : va_P D vwCl [(ro, .inr (2, [.null, .int (nI 0)])), (qi, .inl (cI, 24, .inl (fun _ => 0)))] H := hP
  have hD : va_D A [(ro, .inr (2, [.null, .int (nI 0)])), (qi, .inl (cI, 24, .inl (fun _ => 0)))] := hD
  refine va_putF (D := D) (ci := 2) (v := .ref qi) (ty := .array .int) (C := RX2) (T := TX2) (N := 2) hx hb hts ilX2_init_2 tyX2 tyX2_ok nmX2 hown hG.1 hP hD hS 0 rfl rfl 0 (by decide) (hts (.fieldLink RX2 9 "HornEngine$Row" "items" "[I") (List.mem_of_getElem? (i := 5) rfl)) (fun _ h9 => h9) rfl hin rfl (by decide +kernel) rfl rfl (Nat.le_of_ble_eq_true rfl) dX2_init_16 (fun H locs hP hD hS => ?_)
  have hP : va_P D vwCl [(ro, .inr (2, [.ref qi, .int (nI 0)])), (qi, .inl (cI, 24, .inl (fun _ => 0)))] H := hP
  have hD : va_D A [(ro, .inr (2, [.ref qi, .int (nI 0)])), (qi, .inl (cI, 24, .inl (fun _ => 0)))] := hD
  exact hret qi _ _ _ _ (rfl) (hP) (hD) hS dX2_init_19
set_option maxHeartbeats 4000000 in
set_option maxRecDepth 100000 in
theorem k_X2_init_120 (l : Launch) (D : va_G) (cI cB : ClassId) (ro : Nat) (sz : Nat) : Wr l yX2_init wsX2_init ({ frames := 1, cells := 1, slots := 120, locals := 20 }) D cI cB [.ref ro, .int (nI 120)] [(ro, .inr (2, [.null, .int (nI 0)]))] sz (S := Nat) (fun v u => v = none) (fun u => [(ro, .inr (2, [.ref u, .int (nI 0)])), (u, .inl (cI, 120, .inl (fun _ => 0)))]) 1 120 := by
  refine ef_startV (cc := cX2_init) (maxL := 2) (by decide) rfl (Nat.le_of_ble_eq_true rfl) ?_
  intro p e s m args below meth c Q A hx hb hml hown hts hP hG hD hA hin hret ls hl
  have hown : s.vm.findClass RX2 = some m.cls := hown
  have hl : lv_has ls 2 [(0, .ref ro), (1, .int (nI 120))] := hl
  have hS : va_S A s.heap s.heap [] := va_S.rf
  refine lv_aload_n hx hb dX2_init_0 rfl (lv_at hl 0 rfl) ?_
  refine W.objInit hx hb hown (hts (.methodLink RX2 3 objectInit) (List.mem_of_getElem? (i := 1) rfl)) (hts (.instanceMethod objectInit) (List.mem_of_getElem? (i := 2) rfl)) (hts (.code objectInit ⟨#[0xb1]⟩ 1 none) (List.mem_of_getElem? (i := 3) rfl)) (g := F0 m 1 ls [.ref ro]) rfl (hl.1.trans hml.symm) rfl dX2_init_1 (Nat.le_of_ble_eq_true rfl) (by show 2 * 0 + 0 + 12 ≤ _; exact (Nat.le_of_ble_eq_true rfl)) ?_
  refine W.eq (g2 := F0 m 4 ls []) rfl ?_
  refine lv_aload_n hx hb dX2_init_4 rfl (lv_at hl 0 rfl) ?_
  refine lv_iload_n hx hb dX2_init_5 rfl (lv_at hl 1 rfl) ?_
  refine lv_if_ge (tgt := 13) hx hb dX2_init_6 (by decide) (fun _ => ?_) (fun c_1 => absurd (by decide) c_1)
  refine lv_iload_n hx hb dX2_init_13 rfl (lv_at hl 1 rfl) ?_
  refine ef_newI hx hb (hts (.arrayClass .int) (List.mem_of_getElem? (i := 4) rfl)) hG hP hD hS hA 120 rfl (Nat.le_of_ble_eq_true rfl) (Nat.le_of_ble_eq_true rfl) (Nat.le_of_ble_eq_true rfl) dX2_init_14 (fun qi H hP hD hS => ?_)
  have hP : va_P D vwCl [(ro, .inr (2, [.null, .int (nI 0)])), (qi, .inl (cI, 120, .inl (fun _ => 0)))] H := hP
  have hD : va_D A [(ro, .inr (2, [.null, .int (nI 0)])), (qi, .inl (cI, 120, .inl (fun _ => 0)))] := hD
  refine va_putF (D := D) (ci := 2) (v := .ref qi) (ty := .array .int) (C := RX2) (T := TX2) (N := 2) hx hb hts ilX2_init_2 tyX2 tyX2_ok nmX2 hown hG.1 hP hD hS 0 rfl rfl 0 (by decide) (hts (.fieldLink RX2 9 "HornEngine$Row" "items" "[I") (List.mem_of_getElem? (i := 5) rfl)) (fun _ h9 => h9) rfl hin rfl (by decide +kernel) rfl rfl (Nat.le_of_ble_eq_true rfl) dX2_init_16 (fun H locs hP hD hS => ?_)
  have hP : va_P D vwCl [(ro, .inr (2, [.ref qi, .int (nI 0)])), (qi, .inl (cI, 120, .inl (fun _ => 0)))] H := hP
  have hD : va_D A [(ro, .inr (2, [.ref qi, .int (nI 0)])), (qi, .inl (cI, 120, .inl (fun _ => 0)))] := hD
  exact hret qi _ _ _ _ (rfl) (hP) (hD) hS dX2_init_19
set_option maxHeartbeats 4000000 in
set_option maxRecDepth 100000 in
theorem k_X1_init (l : Launch) (D : va_G) (cI cB : ClassId) (p_ : Nat) (sz : Nat) : Wr l yX1_init wsX1_init ({ frames := 2, cells := 5, slots := 68, locals := 41 }) D cI cB [.ref p_] [(p_, .inr (1, [.null, .null, .null, .int (nI 0)]))] sz (S := Nat × Nat × Nat × Nat × Nat) (fun v u => v = none) (fun u => [(p_, .inr (1, [.ref u.1, .ref u.2.2.1, .ref u.2.2.2.2, .int (nI 0)])), (u.1, .inr (2, [.ref u.2.1, .int (nI 0)])), (u.2.1, .inl (cI, 16, .inl (fun _ => 0))), (u.2.2.1, .inr (2, [.ref u.2.2.2.1, .int (nI 0)])), (u.2.2.2.1, .inl (cI, 24, .inl (fun _ => 0))), (u.2.2.2.2, .inl (cI, 24, .inl (fun _ => 0)))]) 5 68 := by
  refine ef_startV (cc := cX1_init) (maxL := 1) (by decide) rfl (Nat.le_of_ble_eq_true rfl) ?_
  intro p e s m args below meth c Q A hx hb hml hown hts hP hG hD hA hin hret ls hl
  have hown : s.vm.findClass RX1 = some m.cls := hown
  have hl : lv_has ls 1 [(0, .ref p_)] := hl
  have hS : va_S A s.heap s.heap [] := va_S.rf
  refine lv_aload_n hx hb dX1_init_0 rfl (lv_at hl 0 rfl) ?_
  refine W.objInit hx hb hown (hts (.methodLink RX1 3 objectInit) (List.mem_of_getElem? (i := 1) rfl)) (hts (.instanceMethod objectInit) (List.mem_of_getElem? (i := 2) rfl)) (hts (.code objectInit ⟨#[0xb1]⟩ 1 none) (List.mem_of_getElem? (i := 3) rfl)) (g := F0 m 1 ls [.ref p_]) rfl (hl.1.trans hml.symm) rfl dX1_init_1 (Nat.le_of_ble_eq_true rfl) (by show 2 * 0 + 0 + 12 ≤ _; exact (Nat.le_of_ble_eq_true rfl)) ?_
  refine W.eq (g2 := F0 m 4 ls []) rfl ?_
  refine lv_aload_n hx hb dX1_init_4 rfl (lv_at hl 0 rfl) ?_
  refine va_new (D := D) (ci := 2) (fs := [.null, .int (nI 0)]) (C := RX2) (T := TX2) (N := 2) hx hb hts ilX1_init_2 tyX2 tyX2_ok hown (hts (.classLink RX1 9 RX2) (List.mem_of_getElem? (i := 4) rfl)) (hts (.instantiable RX2 2) (List.mem_of_getElem? (i := 5) rfl)) (hts (.initialized RX2) (List.mem_of_getElem? (i := 6) rfl)) hG.1 hP hD hS hA rfl (fun j hj => match j, hj with | 0, _ => rfl | 1, _ => rfl | j + 2, hj => absurd hj (by omega)) (Nat.le_of_ble_eq_true rfl) (Nat.le_of_ble_eq_true rfl) dX1_init_5 (fun rq H hP hD hS => ?_)
  have hP : va_P D vwCl [(p_, .inr (1, [.null, .null, .null, .int (nI 0)])), (rq, .inr (2, [.null, .int (nI 0)]))] H := hP
  have hD : va_D A [(p_, .inr (1, [.null, .null, .null, .int (nI 0)])), (rq, .inr (2, [.null, .int (nI 0)]))] := hD
  refine lv_dup hx hb dX1_init_8 rfl ?_
  refine lv_bipush (v := nI 16) hx hb dX1_init_9 (by decide) ?_
  refine ef_I (As := [.int (nI 16)]) (rest := [.ref rq, .ref p_]) (wr := [(p_, .inr (1, [.null, .null, .null, .int (nI 0)]))]) ⟨hx, hb, hml, hown, hts⟩ hG hP hD hS hA (k_X2_init_16 l D cI cB rq  _) (cwI 1 hts gX1_init_X2_init rfl rfl rfl (hts (.initialized RX2) (List.mem_of_getElem? (i := 6) rfl)) (hts (.methodLink RX1 11 yX2_init) (List.mem_of_getElem? (i := 11) rfl)) (hts (.instanceMethod yX2_init) (List.mem_of_getElem? (i := 12) rfl)) rfl (by decide +kernel) ⟨(Nat.le_of_ble_eq_true rfl), (Nat.le_of_ble_eq_true rfl)⟩) [1] [0] rfl rfl rfl rfl (by decide) rfl hl.1 rfl (Nat.le_of_ble_eq_true rfl) dX1_init_11 ⟨(Nat.le_of_ble_eq_true rfl), (Nat.le_of_ble_eq_true rfl)⟩ (fun v_1 u_1 H locs w_1 hP hD hS => ?_)
  obtain ⟨qi_1, rfl⟩ : ∃ z, z = u_1 := ⟨_, rfl⟩
  have w_1 : v_1 = none := w_1
  subst w_1
  have hP : va_P D vwCl [(p_, .inr (1, [.null, .null, .null, .int (nI 0)])), (rq, .inr (2, [.ref qi_1, .int (nI 0)])), (qi_1, .inl (cI, 16, .inl (fun _ => 0)))] H := hP.sub [0, 1, 2] rfl
  have hD : va_D A [(p_, .inr (1, [.null, .null, .null, .int (nI 0)])), (rq, .inr (2, [.ref qi_1, .int (nI 0)])), (qi_1, .inl (cI, 16, .inl (fun _ => 0)))] := hD.sub [0, 1, 2] rfl rfl
  refine W.eq (g2 := F0 m 14 ls [.ref rq, .ref p_]) rfl ?_
  refine va_putF (D := D) (ci := 1) (v := .ref rq) (ty := .object "HornEngine$Row") (C := RX1) (T := TX1) (N := 4) hx hb hts ilX1_init_1 tyX1 tyX1_ok nmX1 hown hG.1 hP hD hS 0 rfl rfl 0 (by decide) (hts (.fieldLink RX1 14 "HornEngine$Propagation" "queue" "LHornEngine$Row;") (List.mem_of_getElem? (i := 7) rfl)) (fun _ h9 => h9) rfl hin rfl (by decide +kernel) rfl rfl (Nat.le_of_ble_eq_true rfl) dX1_init_14 (fun H locs hP hD hS => ?_)
  have hP : va_P D vwCl [(p_, .inr (1, [.ref rq, .null, .null, .int (nI 0)])), (rq, .inr (2, [.ref qi_1, .int (nI 0)])), (qi_1, .inl (cI, 16, .inl (fun _ => 0)))] H := hP
  have hD : va_D A [(p_, .inr (1, [.ref rq, .null, .null, .int (nI 0)])), (rq, .inr (2, [.ref qi_1, .int (nI 0)])), (qi_1, .inl (cI, 16, .inl (fun _ => 0)))] := hD
  refine lv_aload_n hx hb dX1_init_17 rfl (lv_at hl 0 rfl) ?_
  refine va_new (D := D) (ci := 2) (fs := [.null, .int (nI 0)]) (C := RX2) (T := TX2) (N := 2) hx hb hts ilX1_init_2 tyX2 tyX2_ok hown (hts (.classLink RX1 9 RX2) (List.mem_of_getElem? (i := 4) rfl)) (hts (.instantiable RX2 2) (List.mem_of_getElem? (i := 5) rfl)) (hts (.initialized RX2) (List.mem_of_getElem? (i := 6) rfl)) hG.1 hP hD hS hA rfl (fun j hj => match j, hj with | 0, _ => rfl | 1, _ => rfl | j + 2, hj => absurd hj (by omega)) (Nat.le_of_ble_eq_true rfl) (Nat.le_of_ble_eq_true rfl) dX1_init_18 (fun rf H hP hD hS => ?_)
  have hP : va_P D vwCl [(p_, .inr (1, [.ref rq, .null, .null, .int (nI 0)])), (rq, .inr (2, [.ref qi_1, .int (nI 0)])), (qi_1, .inl (cI, 16, .inl (fun _ => 0))), (rf, .inr (2, [.null, .int (nI 0)]))] H := hP
  have hD : va_D A [(p_, .inr (1, [.ref rq, .null, .null, .int (nI 0)])), (rq, .inr (2, [.ref qi_1, .int (nI 0)])), (qi_1, .inl (cI, 16, .inl (fun _ => 0))), (rf, .inr (2, [.null, .int (nI 0)]))] := hD
  refine lv_dup hx hb dX1_init_21 rfl ?_
  refine lv_bipush (v := nI 24) hx hb dX1_init_22 (by decide) ?_
  refine ef_I (As := [.int (nI 24)]) (rest := [.ref rf, .ref p_]) (wr := [(p_, .inr (1, [.ref rq, .null, .null, .int (nI 0)])), (rq, .inr (2, [.ref qi_1, .int (nI 0)])), (qi_1, .inl (cI, 16, .inl (fun _ => 0)))]) ⟨hx, hb, hml, hown, hts⟩ hG hP hD hS hA (k_X2_init_24 l D cI cB rf  _) (cwI 1 hts gX1_init_X2_init rfl rfl rfl (hts (.initialized RX2) (List.mem_of_getElem? (i := 6) rfl)) (hts (.methodLink RX1 11 yX2_init) (List.mem_of_getElem? (i := 11) rfl)) (hts (.instanceMethod yX2_init) (List.mem_of_getElem? (i := 12) rfl)) rfl (by decide +kernel) ⟨(Nat.le_of_ble_eq_true rfl), (Nat.le_of_ble_eq_true rfl)⟩) [3] [0, 1, 2] rfl rfl rfl rfl (by decide) rfl hl.1 rfl (Nat.le_of_ble_eq_true rfl) dX1_init_24 ⟨(Nat.le_of_ble_eq_true rfl), (Nat.le_of_ble_eq_true rfl)⟩ (fun v_2 u_2 H locs w_2 hP hD hS => ?_)
  obtain ⟨qi_2, rfl⟩ : ∃ z, z = u_2 := ⟨_, rfl⟩
  have w_2 : v_2 = none := w_2
  subst w_2
  have hP : va_P D vwCl [(p_, .inr (1, [.ref rq, .null, .null, .int (nI 0)])), (rq, .inr (2, [.ref qi_1, .int (nI 0)])), (qi_1, .inl (cI, 16, .inl (fun _ => 0))), (rf, .inr (2, [.ref qi_2, .int (nI 0)])), (qi_2, .inl (cI, 24, .inl (fun _ => 0)))] H := hP.sub [0, 1, 2, 3, 4] rfl
  have hD : va_D A [(p_, .inr (1, [.ref rq, .null, .null, .int (nI 0)])), (rq, .inr (2, [.ref qi_1, .int (nI 0)])), (qi_1, .inl (cI, 16, .inl (fun _ => 0))), (rf, .inr (2, [.ref qi_2, .int (nI 0)])), (qi_2, .inl (cI, 24, .inl (fun _ => 0)))] := hD.sub [0, 1, 2, 3, 4] rfl rfl
  refine W.eq (g2 := F0 m 27 ls [.ref rf, .ref p_]) rfl ?_
  refine va_putF (D := D) (ci := 1) (v := .ref rf) (ty := .object "HornEngine$Row") (C := RX1) (T := TX1) (N := 4) hx hb hts ilX1_init_1 tyX1 tyX1_ok nmX1 hown hG.1 hP hD hS 0 rfl rfl 1 (by decide) (hts (.fieldLink RX1 20 "HornEngine$Propagation" "firedRules" "LHornEngine$Row;") (List.mem_of_getElem? (i := 8) rfl)) (fun _ h9 => h9) rfl hin rfl (by decide +kernel) rfl rfl (Nat.le_of_ble_eq_true rfl) dX1_init_27 (fun H locs hP hD hS => ?_)
  have hP : va_P D vwCl [(p_, .inr (1, [.ref rq, .ref rf, .null, .int (nI 0)])), (rq, .inr (2, [.ref qi_1, .int (nI 0)])), (qi_1, .inl (cI, 16, .inl (fun _ => 0))), (rf, .inr (2, [.ref qi_2, .int (nI 0)])), (qi_2, .inl (cI, 24, .inl (fun _ => 0)))] H := hP
  have hD : va_D A [(p_, .inr (1, [.ref rq, .ref rf, .null, .int (nI 0)])), (rq, .inr (2, [.ref qi_1, .int (nI 0)])), (qi_1, .inl (cI, 16, .inl (fun _ => 0))), (rf, .inr (2, [.ref qi_2, .int (nI 0)])), (qi_2, .inl (cI, 24, .inl (fun _ => 0)))] := hD
  refine lv_aload_n hx hb dX1_init_30 rfl (lv_at hl 0 rfl) ?_
  refine lv_bipush (v := nI 24) hx hb dX1_init_31 (by decide) ?_
  refine ef_newI hx hb (hts (.arrayClass .int) (List.mem_of_getElem? (i := 9) rfl)) hG hP hD hS hA 24 rfl (Nat.le_of_ble_eq_true rfl) (Nat.le_of_ble_eq_true rfl) (Nat.le_of_ble_eq_true rfl) dX1_init_33 (fun qc H hP hD hS => ?_)
  have hP : va_P D vwCl [(p_, .inr (1, [.ref rq, .ref rf, .null, .int (nI 0)])), (rq, .inr (2, [.ref qi_1, .int (nI 0)])), (qi_1, .inl (cI, 16, .inl (fun _ => 0))), (rf, .inr (2, [.ref qi_2, .int (nI 0)])), (qi_2, .inl (cI, 24, .inl (fun _ => 0))), (qc, .inl (cI, 24, .inl (fun _ => 0)))] H := hP
  have hD : va_D A [(p_, .inr (1, [.ref rq, .ref rf, .null, .int (nI 0)])), (rq, .inr (2, [.ref qi_1, .int (nI 0)])), (qi_1, .inl (cI, 16, .inl (fun _ => 0))), (rf, .inr (2, [.ref qi_2, .int (nI 0)])), (qi_2, .inl (cI, 24, .inl (fun _ => 0))), (qc, .inl (cI, 24, .inl (fun _ => 0)))] := hD
  refine va_putF (D := D) (ci := 1) (v := .ref qc) (ty := .array .int) (C := RX1) (T := TX1) (N := 4) hx hb hts ilX1_init_1 tyX1 tyX1_ok nmX1 hown hG.1 hP hD hS 0 rfl rfl 2 (by decide) (hts (.fieldLink RX1 23 "HornEngine$Propagation" "counters" "[I") (List.mem_of_getElem? (i := 10) rfl)) (fun _ h9 => h9) rfl hin rfl (by decide +kernel) rfl rfl (Nat.le_of_ble_eq_true rfl) dX1_init_35 (fun H locs hP hD hS => ?_)
  have hP : va_P D vwCl [(p_, .inr (1, [.ref rq, .ref rf, .ref qc, .int (nI 0)])), (rq, .inr (2, [.ref qi_1, .int (nI 0)])), (qi_1, .inl (cI, 16, .inl (fun _ => 0))), (rf, .inr (2, [.ref qi_2, .int (nI 0)])), (qi_2, .inl (cI, 24, .inl (fun _ => 0))), (qc, .inl (cI, 24, .inl (fun _ => 0)))] H := hP
  have hD : va_D A [(p_, .inr (1, [.ref rq, .ref rf, .ref qc, .int (nI 0)])), (rq, .inr (2, [.ref qi_1, .int (nI 0)])), (qi_1, .inl (cI, 16, .inl (fun _ => 0))), (rf, .inr (2, [.ref qi_2, .int (nI 0)])), (qi_2, .inl (cI, 24, .inl (fun _ => 0))), (qc, .inl (cI, 24, .inl (fun _ => 0)))] := hD
  exact hret (rq, qi_1, rf, qi_2, qc) _ _ _ _ (rfl) (hP) (hD) hS dX1_init_38
set_option maxHeartbeats 4000000 in
set_option maxRecDepth 100000 in
theorem k_X3_init (l : Launch) (D : va_G) (cI cB : ClassId) (rr : Nat) (sz : Nat) : Wr l yX3_init wsX3_init ({ frames := 2, cells := 3, slots := 52, locals := 40 }) D cI cB [.ref rr] [(rr, .inr (3, [.null, .int (nI 0), .int (nI 0)]))] sz (S := Nat × Nat × Nat) (fun v u => v = none) (fun u => [(rr, .inr (3, [.ref u.1, .int (nI 0), .int (nI 0)])), (u.1, .inr (4, [.ref u.2.1, .ref u.2.2, .int (nI 0), .int (nI 0)])), (u.2.1, .inl (cI, 24, .inl (fun _ => 0))), (u.2.2, .inl (cI, 24, .inl (fun _ => 0)))]) 3 52 := by
  refine ef_startV (cc := cX3_init) (maxL := 1) (by decide) rfl (Nat.le_of_ble_eq_true rfl) ?_
  intro p e s m args below meth c Q A hx hb hml hown hts hP hG hD hA hin hret ls hl
  have hown : s.vm.findClass RX3 = some m.cls := hown
  have hl : lv_has ls 1 [(0, .ref rr)] := hl
  have hS : va_S A s.heap s.heap [] := va_S.rf
  refine lv_aload_n hx hb dX3_init_0 rfl (lv_at hl 0 rfl) ?_
  refine W.objInit hx hb hown (hts (.methodLink RX3 3 objectInit) (List.mem_of_getElem? (i := 1) rfl)) (hts (.instanceMethod objectInit) (List.mem_of_getElem? (i := 2) rfl)) (hts (.code objectInit ⟨#[0xb1]⟩ 1 none) (List.mem_of_getElem? (i := 3) rfl)) (g := F0 m 1 ls [.ref rr]) rfl (hl.1.trans hml.symm) rfl dX3_init_1 (Nat.le_of_ble_eq_true rfl) (by show 2 * 0 + 0 + 12 ≤ _; exact (Nat.le_of_ble_eq_true rfl)) ?_
  refine W.eq (g2 := F0 m 4 ls []) rfl ?_
  refine lv_aload_n hx hb dX3_init_4 rfl (lv_at hl 0 rfl) ?_
  refine va_new (D := D) (ci := 4) (fs := [.null, .null, .int (nI 0), .int (nI 0)]) (C := RX4) (T := TX4) (N := 4) hx hb hts ilX3_init_4 tyX4 tyX4_ok hown (hts (.classLink RX3 9 RX4) (List.mem_of_getElem? (i := 4) rfl)) (hts (.instantiable RX4 4) (List.mem_of_getElem? (i := 5) rfl)) (hts (.initialized RX4) (List.mem_of_getElem? (i := 6) rfl)) hG.1 hP hD hS hA rfl (fun j hj => match j, hj with | 0, _ => rfl | 1, _ => rfl | 2, _ => rfl | 3, _ => rfl | j + 4, hj => absurd hj (by omega)) (Nat.le_of_ble_eq_true rfl) (Nat.le_of_ble_eq_true rfl) dX3_init_5 (fun dr H hP hD hS => ?_)
  have hP : va_P D vwCl [(rr, .inr (3, [.null, .int (nI 0), .int (nI 0)])), (dr, .inr (4, [.null, .null, .int (nI 0), .int (nI 0)]))] H := hP
  have hD : va_D A [(rr, .inr (3, [.null, .int (nI 0), .int (nI 0)])), (dr, .inr (4, [.null, .null, .int (nI 0), .int (nI 0)]))] := hD
  refine lv_dup hx hb dX3_init_8 rfl ?_
  refine ef_IN (As := []) (rest := [.ref dr, .ref rr]) (wr := [(rr, .inr (3, [.null, .int (nI 0), .int (nI 0)]))]) ⟨hx, hb, hml, hown, hts⟩ hG hP hD hS hA (k_X4_init l D cI cB dr  _) ⟨va_cnB 0 hts gX3_init_X4_init_n11 rfl rfl rfl (hG.2 _ (List.mem_of_getElem? (i := 4) rfl)) (hts (.initialized RX4) (List.mem_of_getElem? (i := 6) rfl)) (by decide +kernel) ⟨(Nat.le_of_ble_eq_true rfl), (Nat.le_of_ble_eq_true rfl)⟩, rfl, (hts (.instanceMethod yX4_init) (List.mem_of_getElem? (i := 8) rfl))⟩ [1] [0] rfl rfl rfl rfl (by decide) rfl hl.1 rfl (Nat.le_of_ble_eq_true rfl) dX3_init_9 ⟨(Nat.le_of_ble_eq_true rfl), (Nat.le_of_ble_eq_true rfl)⟩ (fun v_1 u_1 H locs w_1 hP hD hS => ?_)
  obtain ⟨qh_1, qb_1⟩ := u_1
  have w_1 : v_1 = none := w_1
  subst w_1
  have hP : va_P D vwCl [(rr, .inr (3, [.null, .int (nI 0), .int (nI 0)])), (dr, .inr (4, [.ref qh_1, .ref qb_1, .int (nI 0), .int (nI 0)])), (qh_1, .inl (cI, 24, .inl (fun _ => 0))), (qb_1, .inl (cI, 24, .inl (fun _ => 0)))] H := hP.sub [0, 1, 2, 3] rfl
  have hD : va_D A [(rr, .inr (3, [.null, .int (nI 0), .int (nI 0)])), (dr, .inr (4, [.ref qh_1, .ref qb_1, .int (nI 0), .int (nI 0)])), (qh_1, .inl (cI, 24, .inl (fun _ => 0))), (qb_1, .inl (cI, 24, .inl (fun _ => 0)))] := hD.sub [0, 1, 2, 3] rfl rfl
  refine W.eq (g2 := F0 m 12 ls [.ref dr, .ref rr]) rfl ?_
  refine va_putF (D := D) (ci := 3) (v := .ref dr) (ty := .object "HornEngine$Rulebook") (C := RX3) (T := TX3) (N := 3) hx hb hts ilX3_init_3 tyX3 tyX3_ok nmX3 hown hG.1 hP hD hS 0 rfl rfl 0 (by decide) (hts (.fieldLink RX3 12 "HornEngine$RuleReader" "draft" "LHornEngine$Rulebook;") (List.mem_of_getElem? (i := 7) rfl)) (fun _ h9 => h9) rfl hin rfl (by decide +kernel) rfl rfl (Nat.le_of_ble_eq_true rfl) dX3_init_12 (fun H locs hP hD hS => ?_)
  have hP : va_P D vwCl [(rr, .inr (3, [.ref dr, .int (nI 0), .int (nI 0)])), (dr, .inr (4, [.ref qh_1, .ref qb_1, .int (nI 0), .int (nI 0)])), (qh_1, .inl (cI, 24, .inl (fun _ => 0))), (qb_1, .inl (cI, 24, .inl (fun _ => 0)))] H := hP
  have hD : va_D A [(rr, .inr (3, [.ref dr, .int (nI 0), .int (nI 0)])), (dr, .inr (4, [.ref qh_1, .ref qb_1, .int (nI 0), .int (nI 0)])), (qh_1, .inl (cI, 24, .inl (fun _ => 0))), (qb_1, .inl (cI, 24, .inl (fun _ => 0)))] := hD
  exact hret (dr, qh_1, qb_1) _ _ _ _ (rfl) (hP) (hD) hS dX3_init_15
