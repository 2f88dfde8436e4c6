section LA
variable {p : Program} {l : Launch} {e : Env} {s : State} {m : MethodId} {args : Array Value} {below : List Frame} {meth : Method} {c : Code} {H : Heap} {locs : List Loc} {Q : State → Prop}
variable {D : va_G} {cI cB : ClassId} {A : Nat → Prop} {sb L ob mo : Nat} {xs : Nat → Int32} {ls : Array Slot}
set_option maxHeartbeats 4000000 in
set_option maxRecDepth 100000 in
theorem la_rules (K0 : LC p s m args c D cI cB A sb L xs) {i : Nat} (hi : i + 3 ≤ L) (hl : lv_has ls 4 [(3, .int (nI i)), (2, .ref mo), (1, .ref ob), (0, .ref sb)]) (hI : Lv D cI cB A s.heap ob mo H locs) (kk : ∀ (H1 : Heap) (locs1 : List Loc), Lv D cI cB A s.heap ob mo H1 locs1 → W p l e room_1 s m args below meth c H1 locs1 50 1100 Q (F0 m 691 ls [])) : W p l e room_1 s m args below meth c H locs 50 1100 Q (F0 m 208 ls []) := by
  obtain ⟨hx, hb, hml, hown, hts, hG, hA, hX, hbl, hbA, hL⟩ := K0
  obtain ⟨b, qh, qb, p_, rq, qq, rf, qr, qc, h, qs, ro, qi, rr, dr, dqh, dqb, qe, qA, qS, qE, qT, qQ, qF, qC, qH, qB, hs, bs, n, as_, qf, qn, ff, fn, ct, qa, k, bA, bH, bB, BH, BB, Bn, Ba, it, cn, pos, err, dh, db, dn, das, er, av, sv, qf2, qd, ff2, fm, ct2, ap, pl, dh2, db2, hR, hP, hD, hS⟩ := hI
  obtain ⟨hn, hk, hBn, hcn, hqn, hfn, hqd, hfm, hM, hsv, hhv, hTX, hvR, hvA, hvS⟩ := id hR
  have hH := vR_h hvR
  have hBO := vR_b hvR
  refine lv_aload_n hx hb dL_law_208 rfl (lv_at hl 2 rfl) ?_
  refine pu_V (As := []) (rest := []) ⟨hx, hb, hml, hown, hts⟩ hG hP (k_X5_rules l D cI cB ob p_ h ro rr qe b qh qb hs bs n as_ hn) (cwV 0 hts gL_law_X5_rules rfl rfl rfl (by decide +kernel) ⟨Nat.le_of_ble_eq_true rfl, Nat.le_of_ble_eq_true rfl⟩) [0, 1, 2, 3] rfl 0 rfl rfl rfl rfl hl.1 rfl (Nat.le_of_ble_eq_true rfl) dL_law_209 ⟨Nat.le_of_ble_eq_true rfl, Nat.le_of_ble_eq_true rfl⟩ ?_
  refine lv_aload_n hx hb dL_law_212 rfl (lv_at hl 1 rfl) ?_
  refine pu_V (As := []) (rest := [.int (nI n)]) ⟨hx, hb, hml, hown, hts⟩ hG hP (k_X6_rules l D cI cB mo qA qS k qE qT cn qQ qd qF fm qC ap pl qH qB av hs bs n as_ hM hn) (cwV 0 hts gL_law_X6_rules rfl rfl rfl (by decide +kernel) ⟨Nat.le_of_ble_eq_true rfl, Nat.le_of_ble_eq_true rfl⟩) [31, 32] rfl 31 rfl rfl rfl rfl hl.1 rfl (Nat.le_of_ble_eq_true rfl) dL_law_213 ⟨Nat.le_of_ble_eq_true rfl, Nat.le_of_ble_eq_true rfl⟩ ?_
  refine lv_icmp_eq (tgt := 691) hx hb dL_law_216 (by decide) (fun _ => kk H locs (Lv_mk hR hP hD hS)) (fun c_1 => absurd rfl c_1)
set_option maxHeartbeats 4000000 in
set_option maxRecDepth 100000 in
theorem la_model (K0 : LC p s m args c D cI cB A sb L xs) {i : Nat} (hi : i + 3 ≤ L) (hl : lv_has ls 4 [(3, .int (nI i)), (2, .ref mo), (1, .ref ob), (0, .ref sb)]) (hI : Lv D cI cB A s.heap ob mo H locs) (kk : ∀ (H1 : Heap) (locs1 : List Loc), Lv D cI cB A s.heap ob mo H1 locs1 → W p l e room_1 s m args below meth c H1 locs1 50 1100 Q (F0 m 691 ls [])) : W p l e room_1 s m args below meth c H locs 50 1100 Q (F0 m 267 ls []) := by
  obtain ⟨hx, hb, hml, hown, hts, hG, hA, hX, hbl, hbA, hL⟩ := K0
  obtain ⟨b, qh, qb, p_, rq, qq, rf, qr, qc, h, qs, ro, qi, rr, dr, dqh, dqb, qe, qA, qS, qE, qT, qQ, qF, qC, qH, qB, hs, bs, n, as_, qf, qn, ff, fn, ct, qa, k, bA, bH, bB, BH, BB, Bn, Ba, it, cn, pos, err, dh, db, dn, das, er, av, sv, qf2, qd, ff2, fm, ct2, ap, pl, dh2, db2, hR, hP, hD, hS⟩ := hI
  obtain ⟨hn, hk, hBn, hcn, hqn, hfn, hqd, hfm, hM, hsv, hhv, hTX, hvR, hvA, hvS⟩ := id hR
  have hH := vR_h hvR
  have hBO := vR_b hvR
  refine lv_aload_n hx hb dL_law_267 rfl (lv_at hl 2 rfl) ?_
  refine pu_V (As := []) (rest := []) ⟨hx, hb, hml, hown, hts⟩ hG hP (k_X5_model l D cI cB ob p_ h ro rr qe b qh qb hs bs n as_ hn) (cwV 0 hts gL_law_X5_model rfl rfl rfl (by decide +kernel) ⟨Nat.le_of_ble_eq_true rfl, Nat.le_of_ble_eq_true rfl⟩) [0, 1, 2, 3] rfl 0 rfl rfl rfl rfl hl.1 rfl (Nat.le_of_ble_eq_true rfl) dL_law_268 ⟨Nat.le_of_ble_eq_true rfl, Nat.le_of_ble_eq_true rfl⟩ ?_
  refine lv_aload_n hx hb dL_law_271 rfl (lv_at hl 1 rfl) ?_
  refine pu_V (As := []) (rest := [.int (mdl hs bs n)]) ⟨hx, hb, hml, hown, hts⟩ hG hP (k_X6_model l D cI cB mo qA qS k qE qT cn qQ qd qF fm qC ap pl qH qB av hs bs n as_ hM hn hH) (cwV 0 hts gL_law_X6_model rfl rfl rfl (by decide +kernel) ⟨Nat.le_of_ble_eq_true rfl, Nat.le_of_ble_eq_true rfl⟩) [31, 32] rfl 31 rfl rfl rfl rfl hl.1 rfl (Nat.le_of_ble_eq_true rfl) dL_law_272 ⟨Nat.le_of_ble_eq_true rfl, Nat.le_of_ble_eq_true rfl⟩ ?_
  refine lv_icmp_eq (tgt := 691) hx hb dL_law_275 (by decide) (fun _ => kk H locs (Lv_mk hR hP hD hS)) (fun c_1 => absurd rfl c_1)
set_option maxHeartbeats 4000000 in
set_option maxRecDepth 100000 in
theorem la_modelShareBits (K0 : LC p s m args c D cI cB A sb L xs) {i : Nat} (hi : i + 3 ≤ L) (hl : lv_has ls 4 [(3, .int (nI i)), (2, .ref mo), (1, .ref ob), (0, .ref sb)]) (hI : Lv D cI cB A s.heap ob mo H locs) (kk : ∀ (H1 : Heap) (locs1 : List Loc), Lv D cI cB A s.heap ob mo H1 locs1 → W p l e room_1 s m args below meth c H1 locs1 50 1100 Q (F0 m 691 ls [])) : W p l e room_1 s m args below meth c H locs 50 1100 Q (F0 m 349 ls []) := by
  obtain ⟨hx, hb, hml, hown, hts, hG, hA, hX, hbl, hbA, hL⟩ := K0
  obtain ⟨b, qh, qb, p_, rq, qq, rf, qr, qc, h, qs, ro, qi, rr, dr, dqh, dqb, qe, qA, qS, qE, qT, qQ, qF, qC, qH, qB, hs, bs, n, as_, qf, qn, ff, fn, ct, qa, k, bA, bH, bB, BH, BB, Bn, Ba, it, cn, pos, err, dh, db, dn, das, er, av, sv, qf2, qd, ff2, fm, ct2, ap, pl, dh2, db2, hR, hP, hD, hS⟩ := hI
  obtain ⟨hn, hk, hBn, hcn, hqn, hfn, hqd, hfm, hM, hsv, hhv, hTX, hvR, hvA, hvS⟩ := id hR
  have hH := vR_h hvR
  have hBO := vR_b hvR
  refine lv_aload_n hx hb dL_law_349 rfl (lv_at hl 2 rfl) ?_
  refine pu_V (As := []) (rest := []) ⟨hx, hb, hml, hown, hts⟩ hG hP (k_X5_modelShareBits l D cI cB ob p_ h ro rr qe b qh qb hs bs n as_ hn) (cwV 0 hts gL_law_X5_modelShareBits rfl rfl rfl (by decide +kernel) ⟨Nat.le_of_ble_eq_true rfl, Nat.le_of_ble_eq_true rfl⟩) [0, 1, 2, 3] rfl 0 rfl rfl rfl rfl hl.1 rfl (Nat.le_of_ble_eq_true rfl) dL_law_350 ⟨Nat.le_of_ble_eq_true rfl, Nat.le_of_ble_eq_true rfl⟩ ?_
  refine lv_aload_n hx hb dL_law_353 rfl (lv_at hl 1 rfl) ?_
  refine pu_V (As := []) (rest := [.int (bosF (bc (mdl hs bs n)) 5)]) ⟨hx, hb, hml, hown, hts⟩ hG hP (k_X6_modelShareBits l D cI cB mo qA qS k qE qT cn qQ qd qF fm qC ap pl qH qB av hs bs n as_ hM hn hH) (cwV 0 hts gL_law_X6_modelShareBits rfl rfl rfl (by decide +kernel) ⟨Nat.le_of_ble_eq_true rfl, Nat.le_of_ble_eq_true rfl⟩) [31, 32] rfl 31 rfl rfl rfl rfl hl.1 rfl (Nat.le_of_ble_eq_true rfl) dL_law_354 ⟨Nat.le_of_ble_eq_true rfl, Nat.le_of_ble_eq_true rfl⟩ ?_
  refine lv_icmp_eq (tgt := 691) hx hb dL_law_357 (by decide) (fun _ => kk H locs (Lv_mk hR hP hD hS)) (fun c_1 => absurd rfl c_1)
set_option maxHeartbeats 4000000 in
set_option maxRecDepth 100000 in
theorem la_cyclicAtoms (K0 : LC p s m args c D cI cB A sb L xs) {i : Nat} (hi : i + 3 ≤ L) (hl : lv_has ls 4 [(3, .int (nI i)), (2, .ref mo), (1, .ref ob), (0, .ref sb)]) (hI : Lv D cI cB A s.heap ob mo H locs) (kk : ∀ (H1 : Heap) (locs1 : List Loc), Lv D cI cB A s.heap ob mo H1 locs1 → W p l e room_1 s m args below meth c H1 locs1 50 1100 Q (F0 m 691 ls [])) : W p l e room_1 s m args below meth c H locs 50 1100 Q (F0 m 454 ls []) := by
  obtain ⟨hx, hb, hml, hown, hts, hG, hA, hX, hbl, hbA, hL⟩ := K0
  obtain ⟨b, qh, qb, p_, rq, qq, rf, qr, qc, h, qs, ro, qi, rr, dr, dqh, dqb, qe, qA, qS, qE, qT, qQ, qF, qC, qH, qB, hs, bs, n, as_, qf, qn, ff, fn, ct, qa, k, bA, bH, bB, BH, BB, Bn, Ba, it, cn, pos, err, dh, db, dn, das, er, av, sv, qf2, qd, ff2, fm, ct2, ap, pl, dh2, db2, hR, hP, hD, hS⟩ := hI
  obtain ⟨hn, hk, hBn, hcn, hqn, hfn, hqd, hfm, hM, hsv, hhv, hTX, hvR, hvA, hvS⟩ := id hR
  have hH := vR_h hvR
  have hBO := vR_b hvR
  refine lv_aload_n hx hb dL_law_454 rfl (lv_at hl 2 rfl) ?_
  refine pu_V (As := []) (rest := []) ⟨hx, hb, hml, hown, hts⟩ hG hP (k_X5_cyclicAtoms l D cI cB ob p_ h ro rr qe b qh qb hs bs n as_ hn) (cwV 0 hts gL_law_X5_cyclicAtoms rfl rfl rfl (by decide +kernel) ⟨Nat.le_of_ble_eq_true rfl, Nat.le_of_ble_eq_true rfl⟩) [0, 1, 2, 3] rfl 0 rfl rfl rfl rfl hl.1 rfl (Nat.le_of_ble_eq_true rfl) dL_law_455 ⟨Nat.le_of_ble_eq_true rfl, Nat.le_of_ble_eq_true rfl⟩ ?_
  refine lv_aload_n hx hb dL_law_458 rfl (lv_at hl 1 rfl) ?_
  refine pu_V (As := []) (rest := [.int (cycF hs bs n 16)]) ⟨hx, hb, hml, hown, hts⟩ hG hP (k_X6_cyclicAtoms l D cI cB mo qA qS k qE qT cn qQ qd qF fm qC ap pl qH qB av hs bs n as_ hM hn hH hBO) (cwV 0 hts gL_law_X6_cyclicAtoms rfl rfl rfl (by decide +kernel) ⟨Nat.le_of_ble_eq_true rfl, Nat.le_of_ble_eq_true rfl⟩) [31, 32] rfl 31 rfl rfl rfl rfl hl.1 rfl (Nat.le_of_ble_eq_true rfl) dL_law_459 ⟨Nat.le_of_ble_eq_true rfl, Nat.le_of_ble_eq_true rfl⟩ ?_
  refine lv_icmp_eq (tgt := 691) hx hb dL_law_462 (by decide) (fun _ => kk H locs (Lv_mk hR hP hD hS)) (fun c_1 => absurd rfl c_1)
end LA
