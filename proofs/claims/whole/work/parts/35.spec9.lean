/-! the reference: one row 'all' holds how many rules, the assumable atoms, heads, bodies -/
def mA (av hs bs : Nat → Int32) (n : Nat) (as_ : Int32) : Prop := av 0 = nI n ∧ av 1 = as_ ∧ (∀ j, j < n → av (2 + j) = hs j) ∧ ∀ j, j < n → av (26 + j) = bs j
def inJ (v lo hi : Int64) : Bool := decide (¬ lg_cmp v lo < 0 ∧ ¬ 0 < lg_cmp v hi)
theorem cmp_lt (x y : Int64) : lg_cmp x y < 0 ↔ x.toInt < y.toInt := by
  unfold lg_cmp
  by_cases h1 : x > y
  · rw [if_pos h1]
    have h2 : y.toInt < x.toInt := Int64.lt_iff_toInt_lt.mp h1
    exact ⟨fun q => absurd q (by decide), fun q => by omega⟩
  · rw [if_neg h1]
    have h2 : ¬ y.toInt < x.toInt := fun q => h1 (Int64.lt_iff_toInt_lt.mpr q)
    by_cases h3 : x = y
    · rw [if_pos h3, h3]
      exact ⟨fun q => absurd q (by decide), fun q => by omega⟩
    · rw [if_neg h3]
      have h4 : ¬ x.toInt = y.toInt := fun q => h3 (Int64.toInt_inj.mp q)
      exact ⟨fun _ => by omega, fun _ => by decide⟩
theorem cmp_gt (x y : Int64) : 0 < lg_cmp x y ↔ y.toInt < x.toInt := by
  unfold lg_cmp
  by_cases h1 : x > y
  · rw [if_pos h1]
    have h2 : y.toInt < x.toInt := Int64.lt_iff_toInt_lt.mp h1
    exact ⟨fun _ => h2, fun _ => by decide⟩
  · rw [if_neg h1]
    have h2 : ¬ y.toInt < x.toInt := fun q => h1 (Int64.lt_iff_toInt_lt.mpr q)
    by_cases h3 : x = y
    · rw [if_pos h3]
      exact ⟨fun q => absurd q (by decide), fun q => absurd q h2⟩
    · rw [if_neg h3]
      exact ⟨fun q => absurd q (by decide), fun q => absurd q h2⟩
theorem inJ_int {v lo hi : Int64} : inJ v lo hi = decide (lo.toInt ≤ v.toInt ∧ v.toInt ≤ hi.toInt) := by
  unfold inJ
  refine decide_eq_decide.mpr ?_
  rw [cmp_lt, cmp_gt]
  omega
theorem isA_int (a : Int32) : isA a = decide (0 ≤ a.toInt ∧ a.toInt ≤ 15) := by
  unfold isA
  refine decide_eq_decide.mpr ?_
  rw [Int32.lt_iff_toInt_lt, Int32.le_iff_toInt_le]
  have e0 : (0 : Int32).toInt = 0 := by decide
  have e1 : (nI 16).toInt = 16 := by decide
  omega
theorem inJ_A (a : Int32) : inJ a.toInt64 0 15 = isA a := by
  rw [inJ_int, isA_int, Int32.toInt_toInt64]
  rfl
theorem inJ_R (r : Int32) {n : Nat} (hn : n ≤ 24) : inJ r.toInt64 0 (nI n - nI 1).toInt64 = hasR r n := by
  rw [inJ_int, Int32.toInt_toInt64, Int32.toInt_toInt64]
  unfold hasR
  refine decide_eq_decide.mpr ?_
  rw [Int32.lt_iff_toInt_lt, Int32.le_iff_toInt_le]
  have e0 : (0 : Int32).toInt = 0 := by decide
  have e00 : (0 : Int64).toInt = 0 := by decide
  have e1 : (nI n).toInt = n := nI_toInt (by omega)
  have e2 : (nI n - nI 1).toInt = n - 1 := by
    rw [Int32.toInt_sub, e1]
    have e3 : (nI 1).toInt = 1 := by decide
    rw [e3]
    exact Int.bmod_eq_of_le (by omega) (by omega)
  omega
theorem inJ_E (c : Int32) : inJ c.toInt64 (-5) (-2) = isE c := by
  rw [inJ_int, Int32.toInt_toInt64]
  unfold isE
  refine decide_eq_decide.mpr ?_
  rw [Int32.lt_iff_toInt_lt, Int32.lt_iff_toInt_lt]
  have e5 : (-5 : Int32).toInt = -5 := by decide
  have e2 : (-2 : Int32).toInt = -2 := by decide
  have f5 : (-5 : Int64).toInt = -5 := by decide
  have f2 : (-2 : Int64).toInt = -2 := by decide
  omega
theorem inJ_B (v : Int32) : inJ v.toInt64 0 127 = isB v := by
  rw [inJ_int, Int32.toInt_toInt64]
  unfold isB
  refine decide_eq_decide.mpr ?_
  rw [Int32.lt_iff_toInt_lt, Int32.lt_iff_toInt_lt]
  have e0 : (0 : Int32).toInt = 0 := by decide
  have e1 : (nI 127).toInt = 127 := by decide
  have f0 : (0 : Int64).toInt = 0 := by decide
  have f1 : (127 : Int64).toInt = 127 := by decide
  omega
theorem inJ_D (c : Int32) : inJ c.toInt64 48 57 = isD c := by
  rw [inJ_int, Int32.toInt_toInt64]
  unfold isD
  refine decide_eq_decide.mpr ?_
  rw [Int32.lt_iff_toInt_lt, Int32.lt_iff_toInt_lt]
  have e0 : (nI 48).toInt = 48 := by decide
  have e1 : (nI 57).toInt = 57 := by decide
  have f0 : (48 : Int64).toInt = 48 := by decide
  have f1 : (57 : Int64).toInt = 57 := by decide
  omega
/-- the range of a set of atoms -/
def inW (x : Int32) : Prop := ¬ x < 0 ∧ ¬ nI 65535 < x
theorem inJ_W (x : Int32) : inJ x.toInt64 0 65535 = true ↔ inW x := by
  rw [inJ_int, Int32.toInt_toInt64, decide_eq_true_iff]
  unfold inW
  rw [Int32.lt_iff_toInt_lt, Int32.lt_iff_toInt_lt]
  have e0 : (0 : Int32).toInt = 0 := by decide
  have e1 : (nI 65535).toInt = 65535 := by decide
  have f0 : (0 : Int64).toInt = 0 := by decide
  have f1 : (65535 : Int64).toInt = 65535 := by decide
  omega
theorem inW_low {x : Int32} (h : inW x) : low16 x := by
  obtain ⟨j, hj, rfl⟩ := nI_of h.1
  have h2 : ¬ 65535 < j := fun q => h.2 ((nI_ltI (by omega) hj).mpr q)
  exact low16_nI (by omega)
theorem sz_bc {x : Int32} (h : inW x) : szF x 16 = bc x := by rw [szF_cnt x 16 (by decide), bc_card (inW_low h)]; rfl
theorem isS_t {x lim : Int32} (h : inJ x.toInt64 0 65535 = true) (h2 : ¬ lim < szF x 16) : isS x lim = true := by
  have hw := (inJ_W x).mp h
  rw [sz_bc hw] at h2
  exact decide_eq_true ⟨hw.1, hw.2, h2⟩
theorem isS_f1 {x lim : Int32} (h : inJ x.toInt64 0 65535 = false) : isS x lim = false := decide_eq_false fun q => by
  have := (inJ_W x).mpr ⟨q.1, q.2.1⟩
  rw [h] at this; cases this
theorem isS_f2 {x lim : Int32} (h : inJ x.toInt64 0 65535 = true) (h2 : lim < szF x 16) : isS x lim = false := decide_eq_false fun q => by
  rw [sz_bc ((inJ_W x).mp h)] at h2
  exact q.2.2 h2
theorem isS_low {x lim : Int32} (h : isS x lim = true) : low16 x := by
  have q := of_decide_eq_true h
  exact inW_low ⟨q.1, q.2.1⟩
theorem or_0 (x : Int32) : x ||| nI 0 = x := b_ext fun i _ => by rw [b_or, show bt (nI 0) i = false from b_0 i, Bool.or_false]
