
set_option maxHeartbeats 4000000 in
set_option maxRecDepth 100000 in
theorem k_Jxf58ca_isNaN_12338 (l : Launch) (D : va_G) (cI cB : ClassId) (fb : UInt32) (hne : Op.cmpValue (FP.fcmp fb fb) .l = nI 0) : Rd l yJxf58ca_isNaN_12338 wsJxf58ca_isNaN_12338 ({ frames := 0, cells := 0, slots := 0, locals := 0 }) D cI cB [.float fb] [] (.int (bI false)) := by
  refine pu_startZF (cc := cJxf58ca_isNaN_12338) (maxL := 1) (by decide +kernel) rfl (Nat.le_of_ble_eq_true rfl) ?_
  intro p e s m args below meth c Q hx hb hml hown hts hP hG hret ls hl
  have hown : s.vm.findClass RJxf58ca = some m.cls := hown
  have hl : lv_has ls 1 [(0, .float fb)] := hl
  refine lv_fload_n hx hb dJxf58ca_isNaN_12338_0 rfl (lv_at hl 0 rfl) ?_
  refine lv_fload_n hx hb dJxf58ca_isNaN_12338_1 rfl (lv_at hl 0 rfl) ?_
  refine lv_fcmp hx hb dJxf58ca_isNaN_12338_2 ?_
  refine lv_eqi (y := nI 0) hne ?_
  refine lv_if_eq (tgt := 10) hx hb dJxf58ca_isNaN_12338_3 (by decide) (fun _ => ?_) (fun c_1 => absurd (by decide) c_1)
  refine lv_iconst (v := nI 0) hx hb dJxf58ca_isNaN_12338_10 (by decide) ?_
  exact hret _ _ _ (bI_0 rfl) dJxf58ca_isNaN_12338_11
set_option maxHeartbeats 4000000 in
set_option maxRecDepth 100000 in
theorem k_Jxf58ca_floatToIntBits_5c35a (l : Launch) (D : va_G) (cI cB : ClassId) (k : Nat) (hk : k < 17) : Rd l yJxf58ca_floatToIntBits_5c35a wsJxf58ca_floatToIntBits_5c35a ({ frames := 1, cells := 0, slots := 0, locals := 23 }) D cI cB [.float (f16 k)] [] (.int (bosF (nI k) 5)) := by
  refine pu_startIF (cc := cJxf58ca_floatToIntBits_5c35a) (maxL := 1) (by decide +kernel) rfl (Nat.le_of_ble_eq_true rfl) ?_
  intro p e s m args below meth c Q hx hb hml hown hts hP hG hret ls hl
  have hown : s.vm.findClass RJxf58ca = some m.cls := hown
  have hl : lv_has ls 1 [(0, .float (f16 k))] := hl
  refine lv_fload_n hx hb dJxf58ca_floatToIntBits_5c35a_0 rfl (lv_at hl 0 rfl) ?_
  refine pu_S (As := [.float (f16 k)]) (rest := []) ⟨hx, hb, hml, hown, hts⟩ hG hP (k_Jxf58ca_isNaN_12338 l D cI cB (f16 k) (f16_c k hk)) (cwS 1 hts gJxf58ca_floatToIntBits_5c35a_Jxf58ca_isNaN_12338 rfl rfl rfl (by decide +kernel) ⟨(Nat.le_of_ble_eq_true rfl), (Nat.le_of_ble_eq_true rfl)⟩) [] rfl rfl hl.1 rfl (Nat.le_of_ble_eq_true rfl) dJxf58ca_floatToIntBits_5c35a_1 ⟨Nat.zero_le _, Nat.zero_le _⟩ ?_
  refine lv_if_ne (tgt := 12) hx hb dJxf58ca_floatToIntBits_5c35a_4 (by decide) (fun c_1 => ?_) (fun c_1 => ?_)
  · skip
    have c_1 : false = true := bI_t.mp c_1
    exact absurd c_1 (by decide)
  · skip
    have c_1 : false = false := bI_f.mp c_1
    refine lv_fload_n hx hb dJxf58ca_floatToIntBits_5c35a_7 rfl (lv_at hl 0 rfl) ?_
    refine vn_f2i hx hb (hml.trans hl.1.symm) hown (hts (.methodLink RJxf58ca 74 ⟨"java/lang/Float", "floatToRawIntBits", "(F)I"⟩) (List.mem_of_getElem? (i := 1) rfl)) (hts (.native ⟨"java/lang/Float", "floatToRawIntBits", "(F)I"⟩) (List.mem_of_getElem? (i := 2) rfl)) (hts (.static ⟨"java/lang/Float", "floatToRawIntBits", "(F)I"⟩) (List.mem_of_getElem? (i := 3) rfl)) (hts (.initialized "java/lang/Float") (List.mem_of_getElem? (i := 4) rfl)) (Nat.le_of_ble_eq_true rfl) (Nat.le_of_ble_eq_true rfl) dJxf58ca_floatToIntBits_5c35a_8 ?_
    refine lv_eqi (y := bosF (nI k) 5) (f16_b k hk) ?_
    exact hret _ _ _ rfl dJxf58ca_floatToIntBits_5c35a_11
set_option maxHeartbeats 4000000 in
set_option maxRecDepth 100000 in
theorem k_X6_modelShareBits (l : Launch) (D : va_G) (cI cB : ClassId) (mo : Nat) (qA : Nat) (qS : Nat) (sm : Nat) (qE : Nat) (qT : Nat) (tl : Nat) (qQ : Nat) (qd : Nat) (qF : Nat) (fm : Nat) (qC : Nat) (ap : Nat) (pl : Nat) (qH : Nat) (qB : Nat) (av : Nat → Int32) (hs : Nat → Int32) (bs : Nat → Int32) (n : Nat) (as_ : Int32) (hM : mA av hs bs n as_) (hn : n ≤ 24) (hH : hOK hs n) : Rd l yX6_modelShareBits wsX6_modelShareBits ({ frames := 3, cells := 0, slots := 0, locals := 66 }) D cI cB [.ref mo] [(mo, .inr (6, [.ref qA, .ref qS, .int (nI sm), .ref qE, .ref qT, .int (nI tl), .ref qQ, .int (nI qd), .ref qF, .int (nI fm), .ref qC, .int (nI ap), .int (nI pl), .ref qH, .ref qB])), (qA, .inl (cI, 50, .inl av))] (.int (bosF (bc (mdl hs bs n)) 5)) := by
  refine pu_startI (cc := cX6_modelShareBits) (maxL := 2) (by decide) rfl (Nat.le_of_ble_eq_true rfl) ?_
  intro p e s m args below meth c Q hx hb hml hown hts hP hG hret ls hl
  have hown : s.vm.findClass RX6 = some m.cls := hown
  have hl : lv_has ls 2 [(0, .ref mo)] := hl
  have h17 : card (mdl hs bs n) < 17 := Nat.lt_succ_of_le (card_le _)
  refine lv_aload_n hx hb dX6_modelShareBits_0 rfl (lv_at hl 0 rfl) ?_
  refine pu_V (As := []) (rest := []) ⟨hx, hb, hml, hown, hts⟩ hG hP (k_X6_whole l D cI cB mo qA qS sm qE qT tl qQ qd qF fm qC ap pl qH qB av hs bs n as_ hM hn hH) (cwV 0 hts gX6_modelShareBits_X6_whole rfl rfl rfl (by decide +kernel) ⟨(Nat.le_of_ble_eq_true rfl), (Nat.le_of_ble_eq_true rfl)⟩) [0, 1] rfl 0 rfl rfl rfl rfl hl.1 rfl (Nat.le_of_ble_eq_true rfl) dX6_modelShareBits_1 ⟨Nat.zero_le _, Nat.zero_le _⟩ ?_
  refine pu_S (As := [.int (mdl hs bs n)]) (rest := []) ⟨hx, hb, hml, hown, hts⟩ hG hP (k_X6_size l D cI cB (mdl hs bs n) ) (cwS 1 hts gX6_modelShareBits_X6_size rfl rfl rfl (by decide +kernel) ⟨(Nat.le_of_ble_eq_true rfl), (Nat.le_of_ble_eq_true rfl)⟩) [] rfl rfl hl.1 rfl (Nat.le_of_ble_eq_true rfl) dX6_modelShareBits_4 ⟨Nat.zero_le _, Nat.zero_le _⟩ ?_
  refine lv_eqi (y := nI (card (mdl hs bs n))) (szF_cnt _ 16 (by decide)) ?_
  refine lv_i2f hx hb dX6_modelShareBits_7 ?_
  refine lv_fstore_n (lv' := [(1, .float (FP.i2f (nI (card (mdl hs bs n))))), (0, .ref mo)]) hx hb dX6_modelShareBits_8 rfl hl (by decide) rfl (fun ls hl => ?_)
  refine lv_fload_n hx hb dX6_modelShareBits_9 rfl (lv_at hl 0 rfl) ?_
  refine lv_ldcf (v := 1098907648) hx hb hown (hts (.constantFloat RX6 111 (1098907648)) (List.mem_of_getElem? (i := 1) rfl)) dX6_modelShareBits_10 ?_
  refine lv_fdiv hx hb dX6_modelShareBits_12 (f16_n _ h17) ?_
  refine pu_S (As := [.float (f16 (card (mdl hs bs n)))]) (rest := []) ⟨hx, hb, hml, hown, hts⟩ hG hP (k_Jxf58ca_floatToIntBits_5c35a l D cI cB (card (mdl hs bs n)) h17) (va_cwS 1 hts gX6_modelShareBits_Jxf58ca_floatToIntBits_5c35a rfl rfl rfl (by decide +kernel) ⟨(Nat.le_of_ble_eq_true rfl), (Nat.le_of_ble_eq_true rfl)⟩) [] rfl rfl hl.1 rfl (Nat.le_of_ble_eq_true rfl) dX6_modelShareBits_13 ⟨Nat.zero_le _, Nat.zero_le _⟩ ?_
  exact hret _ _ _ (by rw [bc_card (mdl_low hH)]) dX6_modelShareBits_16
