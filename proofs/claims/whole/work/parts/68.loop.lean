theorem Lv_S {D : va_G} {cI cB : ClassId} {A : Nat → Prop} {H0 : Heap} {ob mo : Nat} {H : Heap} {locs : List Loc} (h : Lv D cI cB A H0 ob mo H locs) : va_S A H0 H locs := by
  obtain ⟨_, _, _, _, _, _, _, _, _, _, _, _, _, _, _, _, _, _, _, _, _, _, _, _, _, _, _, _, _, _, _, _, _, _, _, _, _, _, _, _, _, _, _, _, _, _, _, _, _, _, _, _, _, _, _, _, _, _, _, _, _, _, _, _, _, -, -, -, hS⟩ := h
  exact hS
theorem and31 (x : Int32) : ∃ j, j < 32 ∧ x &&& 31 = nI j := by
  refine ⟨(x &&& 31).toBitVec.toNat, ?_, ?_⟩
  · have h : (x &&& 31).toBitVec.toNat = x.toBitVec.toNat &&& 31 := by
      rw [Int32.toBitVec_and, BitVec.toNat_and]
      rfl
    rw [h]
    exact Nat.lt_of_le_of_lt Nat.and_le_right (by decide)
  · apply Int32.toBitVec_inj.1
    show (x &&& 31).toBitVec = BitVec.ofNat 32 (x &&& 31).toBitVec.toNat
    simp
theorem lw_more {i L : Nat} (h1 : i ≤ L) (hL : L ≤ 1536) (h : ¬ nI L - nI 3 < nI i) : i + 3 ≤ L := by
  rcases Nat.lt_or_ge L 3 with q | q
  · have key : ∀ L, L < 3 → ∀ i, i < 3 → nI L - nI 3 < nI i := by decide +kernel
    exact absurd (key L q i (by omega)) h
  · have h2 : nI L - nI 3 = nI (L - 3) := by
      have := nI_sub_add 3 (L - 3)
      rw [show 3 + (L - 3) = L by omega] at this
      exact this
    rw [h2] at h
    have h3 : ¬ L - 3 < i := fun z => h (nI_lt z (by omega))
    omega
section LB
variable {p : Program} {l : Launch} {e : Env} {s : State} {m : MethodId} {args : Array Value} {below : List Frame} {meth : Method} {c : Code} {H : Heap} {locs : List Loc} {Q : State → Prop}
variable {D : va_G} {cI cB : ClassId} {A : Nat → Prop} {sb L ob mo : Nat} {xs : Nat → Int32} {ls : Array Slot}
set_option maxHeartbeats 4000000 in
set_option maxRecDepth 100000 in
/-- one call: the switch -/
theorem la_switch (K0 : LC p s m args c D cI cB A sb L xs) {i : Nat} (hi : i + 3 ≤ L) (hl : lv_has ls 4 [(3, .int (nI i)), (2, .ref mo), (1, .ref ob), (0, .ref sb)]) (hI : Lv D cI cB A s.heap ob mo H locs) (kk : ∀ (H1 : Heap) (locs1 : List Loc), Lv D cI cB A s.heap ob mo H1 locs1 → W p l e room_1 s m args below meth c H1 locs1 50 1100 Q (F0 m 691 ls [])) : ∀ j : Nat, j < 32 → W p l e room_1 s m args below meth c H locs 50 1100 Q (F0 m 32 ls [.int (nI j)]) := by
  have hx := K0.1
  have hb := K0.2.1
  intro j hj
  match j, hj with
  | 0, _ => exact lv_tableIn (tgt := 152) hx hb dL_law_32 (by decide) (by decide) rfl rfl (la_addRule K0 hi hl hI kk)
  | 1, _ => exact lv_tableIn (tgt := 185) hx hb dL_law_32 (by decide) (by decide) rfl rfl (la_removeRule K0 hi hl hI kk)
  | 2, _ => exact lv_tableIn (tgt := 208) hx hb dL_law_32 (by decide) (by decide) rfl rfl (la_rules K0 hi hl hI kk)
  | 3, _ => exact lv_tableIn (tgt := 221) hx hb dL_law_32 (by decide) (by decide) rfl rfl (la_head K0 hi hl hI kk)
  | 4, _ => exact lv_tableIn (tgt := 244) hx hb dL_law_32 (by decide) (by decide) rfl rfl (la_body K0 hi hl hI kk)
  | 5, _ => exact lv_tableIn (tgt := 267) hx hb dL_law_32 (by decide) (by decide) rfl rfl (la_model K0 hi hl hI kk)
  | 6, _ => exact lv_tableIn (tgt := 280) hx hb dL_law_32 (by decide) (by decide) rfl rfl (la_derived K0 hi hl hI kk)
  | 7, _ => exact lv_tableIn (tgt := 303) hx hb dL_law_32 (by decide) (by decide) rfl rfl (la_fired K0 hi hl hI kk)
  | 8, _ => exact lv_tableIn (tgt := 326) hx hb dL_law_32 (by decide) (by decide) rfl rfl (la_level K0 hi hl hI kk)
  | 9, _ => exact lv_tableIn (tgt := 349) hx hb dL_law_32 (by decide) (by decide) rfl rfl (la_modelShareBits K0 hi hl hI kk)
  | 10, _ => exact lv_tableIn (tgt := 362) hx hb dL_law_32 (by decide) (by decide) rfl rfl (la_supports K0 hi hl hI kk)
  | 11, _ => exact lv_tableIn (tgt := 385) hx hb dL_law_32 (by decide) (by decide) rfl rfl (la_reason K0 hi hl hI kk)
  | 12, _ => exact lv_tableIn (tgt := 408) hx hb dL_law_32 (by decide) (by decide) rfl rfl (la_necessary K0 hi hl hI kk)
  | 13, _ => exact lv_tableIn (tgt := 431) hx hb dL_law_32 (by decide) (by decide) rfl rfl (la_dependencies K0 hi hl hI kk)
  | 14, _ => exact lv_tableIn (tgt := 454) hx hb dL_law_32 (by decide) (by decide) rfl rfl (la_cyclicAtoms K0 hi hl hI kk)
  | 15, _ => exact lv_tableIn (tgt := 467) hx hb dL_law_32 (by decide) (by decide) rfl rfl (la_overDeleted K0 hi hl hI kk)
  | 16, _ => exact lv_tableIn (tgt := 490) hx hb dL_law_32 (by decide) (by decide) rfl rfl (la_lost K0 hi hl hI kk)
  | 17, _ => exact lv_tableIn (tgt := 513) hx hb dL_law_32 (by decide) (by decide) rfl rfl (la_gained K0 hi hl hI kk)
  | 18, _ => exact lv_tableIn (tgt := 546) hx hb dL_law_32 (by decide) (by decide) rfl rfl (la_setAssumable K0 hi hl hI kk)
  | 19, _ => exact lv_tableIn (tgt := 569) hx hb dL_law_32 (by decide) (by decide) rfl rfl (la_explanation K0 hi hl hI kk)
  | 20, _ => exact lv_tableIn (tgt := 592) hx hb dL_law_32 (by decide) (by decide) rfl rfl (la_append K0 hi hl hI kk)
  | 21, _ => exact lv_tableIn (tgt := 615) hx hb dL_law_32 (by decide) (by decide) rfl rfl (la_clearText K0 hi hl hI kk)
  | 22, _ => exact lv_tableIn (tgt := 628) hx hb dL_law_32 (by decide) (by decide) rfl rfl (la_parse K0 hi hl hI kk)
  | 23, _ => exact lv_tableIn (tgt := 641) hx hb dL_law_32 (by decide) (by decide) rfl rfl (la_undo K0 hi hl hI kk)
  | 24, _ => exact lv_tableIn (tgt := 654) hx hb dL_law_32 (by decide) (by decide) rfl rfl (la_errorCount K0 hi hl hI kk)
  | 25, _ => exact lv_tableIn (tgt := 677) hx hb dL_law_32 (by decide) (by decide) rfl rfl (la_digest K0 hi hl hI kk)
  | 26, _ => exact lv_tableOut (tgt := 691) hx hb dL_law_32 (Or.inr (by decide)) rfl (kk H locs hI)
  | 27, _ => exact lv_tableOut (tgt := 691) hx hb dL_law_32 (Or.inr (by decide)) rfl (kk H locs hI)
  | 28, _ => exact lv_tableOut (tgt := 691) hx hb dL_law_32 (Or.inr (by decide)) rfl (kk H locs hI)
  | 29, _ => exact lv_tableOut (tgt := 691) hx hb dL_law_32 (Or.inr (by decide)) rfl (kk H locs hI)
  | 30, _ => exact lv_tableOut (tgt := 691) hx hb dL_law_32 (Or.inr (by decide)) rfl (kk H locs hI)
  | 31, _ => exact lv_tableOut (tgt := 691) hx hb dL_law_32 (Or.inr (by decide)) rfl (kk H locs hI)
  | j + 32, h => exact absurd h (by omega)
set_option maxHeartbeats 4000000 in
set_option maxRecDepth 100000 in
/-- the law's loop -/
theorem la_loop (K0 : LC p s m args c D cI cB A sb L xs) (hend : ∀ (H : Heap) (locs : List Loc) (ls : Array Slot), va_S A s.heap H locs → W p l e room_1 s m args below meth c H locs 50 1100 Q (F0 m 697 ls [])) : ∀ (f i : Nat), i ≤ L → L < i + f → ∀ (H : Heap) (locs : List Loc) (ls : Array Slot), Lv D cI cB A s.heap ob mo H locs → lv_has ls 4 [(3, .int (nI i)), (2, .ref mo), (1, .ref ob), (0, .ref sb)] → W p l e room_1 s m args below meth c H locs 50 1100 Q (F0 m 18 ls []) := by
  intro f
  induction f with
  | zero => intro i h1 h2; omega
  | succ f ih =>
    intro i h1 h2 H locs ls hI hl
    obtain ⟨hx, hb, hml, hown, hts, hG, hA, hX, hbl, hbA, hL⟩ := id K0
    have hS := Lv_S hI
    refine lv_iload_n hx hb dL_law_18 rfl (lv_at hl 0 rfl) ?_
    refine lv_aload_n hx hb dL_law_19 rfl (lv_at hl 3 rfl) ?_
    refine va_slen hx hb hX hbl hbA hS dL_law_20 ?_
    refine lv_iconst (v := nI 3) hx hb dL_law_21 (by decide) ?_
    refine lv_isub hx hb dL_law_22 ?_
    refine lv_icmp_gt (tgt := 697) hx hb dL_law_23 (by decide) (fun _ => hend H locs ls hS) (fun c_1 => ?_)
    have hi : i + 3 ≤ L := lw_more h1 hL c_1
    refine lv_aload_n hx hb dL_law_26 rfl (lv_at hl 3 rfl) ?_
    refine lv_iload_n hx hb dL_law_27 rfl (lv_at hl 0 rfl) ?_
    refine va_sld hx hb hX hbl hbA hS (vp_in_nI (by omega) (by omega)) dL_law_28 ?_
    refine lv_bipush (v := 31) hx hb dL_law_29 (by decide) ?_
    refine lv_iand hx hb dL_law_31 ?_
    obtain ⟨j, hj, hj2⟩ := and31 (xs (nI i).toNatClampNeg)
    refine lv_eqi (y := nI j) hj2 ?_
    refine la_switch K0 hi hl hI (fun H1 locs1 hI1 => ?_) j hj
    refine lv_iinc (v := nI (i + 3)) (lv' := [(3, .int (nI (i + 3))), (2, .ref mo), (1, .ref ob), (0, .ref sb)]) hx hb dL_law_691 hl (k := 0) rfl (nI_add i 3) (by decide) rfl (fun ls hl => ?_)
    refine lv_goto (tgt := 18) hx hb dL_law_694 (by decide) ?_
    exact ih (i + 3) hi (by omega) _ _ _ hI1 hl
end LB
