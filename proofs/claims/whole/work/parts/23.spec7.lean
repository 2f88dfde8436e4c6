/-! the engine's answers and its state as values: R the rules, a the assumable atoms, H the saved states, er the error counters -/
def isE (c : Int32) : Bool := decide (¬ c < (-5) ∧ ¬ (-2) < c)
theorem i32_ss (x y : Int32) : x - (x - y) = y := by
  apply Int32.toBitVec_inj.1
  rw [Int32.toBitVec_sub, Int32.toBitVec_sub]
  bv_omega
theorem cd_ix (j : Nat) : (-2) - ((-2) - nI j) = nI j := by
  exact i32_ss (-2) (nI j)
theorem isE_cd : ∀ j, j < 4 → isE ((-2) - nI j) = true := by decide +kernel
theorem isE_ix {c : Int32} (h : isE c = true) : ∃ j, j < 4 ∧ c = (-2) - nI j := by
  have h := of_decide_eq_true h
  have hx : ¬ (-2 - c) < 0 ∧ ¬ nI 4 ≤ (-2 - c) := by
    have e : (-2 - c).toInt = -2 - c.toInt := by
      rw [Int32.toInt_sub]
      have h1 : -5 ≤ c.toInt := by
        have := h.1
        rw [Int32.lt_iff_toInt_lt] at this
        have e5 : (-5 : Int32).toInt = -5 := by decide
        omega
      have h2 : c.toInt ≤ -2 := by
        have := h.2
        rw [Int32.lt_iff_toInt_lt] at this
        have e2 : (-2 : Int32).toInt = -2 := by decide
        omega
      have e2 : (-2 : Int32).toInt = -2 := by decide
      rw [e2]
      exact Int.bmod_eq_of_le (by omega) (by omega)
    have h1 : -5 ≤ c.toInt := by
      have := h.1
      rw [Int32.lt_iff_toInt_lt] at this
      have e5 : (-5 : Int32).toInt = -5 := by decide
      omega
    have h2 : c.toInt ≤ -2 := by
      have := h.2
      rw [Int32.lt_iff_toInt_lt] at this
      have e2 : (-2 : Int32).toInt = -2 := by decide
      omega
    rw [Int32.lt_iff_toInt_lt, Int32.le_iff_toInt_le, e]
    have e0 : (0 : Int32).toInt = 0 := by decide
    have e4 : (nI 4).toInt = 4 := by decide
    omega
  obtain ⟨j, hj, e⟩ := hasR_nat (r := -2 - c) (n := 4) (by decide) (decide_eq_true hx)
  refine ⟨j, hj, ?_⟩
  rw [← e]
  exact (i32_ss (-2) c).symm
/-- an error of code -2 - j is counted -/
def bad (er : Nat → Int32) (j : Nat) : Nat → Int32 := upd er j (er j + nI 1)
def itmL (l : List Int32) (i : Int32) : Int32 := if hasR i l.length = true then l.getD i.toNatClampNeg 0 else -1
theorem itm_L (f : Nat → Int32) {c : Nat} (hc : c < 2 ^ 31) (i : Int32) : itm f c i = itmL (tab f c) i := by
  unfold itm itmL
  rw [tab_len]
  by_cases h : hasR i c = true
  · rw [if_pos h, if_pos h]
    obtain ⟨j, hj, rfl⟩ := hasR_nat hc h
    rw [nI_clamp (by omega), tab_get _ hj]
  · rw [if_neg h, if_neg h]
/-- the first i from a start on with g -/
def fst1 (g : Nat → Bool) : Nat → Nat → Nat
  | 0, i => i
  | f + 1, i => if g i = true then i else fst1 g f (i + 1)
theorem fst1_spec (g : Nat → Bool) : ∀ (f i j : Nat), i ≤ j → j < i + f → g j = true → i ≤ fst1 g f i ∧ fst1 g f i ≤ j ∧ g (fst1 g f i) = true ∧ ∀ k, i ≤ k → k < fst1 g f i → g k = false
  | 0, i, j, h1, h2, _ => by omega
  | f + 1, i, j, h1, h2, h3 => by
    rw [fst1]
    split
    · exact ⟨Nat.le_refl _, h1, by assumption, fun k q1 q2 => by omega⟩
    · rename_i hg
      have hij : i ≠ j := fun e => hg (by rw [e]; exact h3)
      obtain ⟨a, b, c, d⟩ := fst1_spec g f (i + 1) j (by omega) (by omega) h3
      refine ⟨by omega, b, c, fun k q1 q2 => ?_⟩
      by_cases e : k = i
      · rw [e]; exact Bool.eq_false_iff.mpr hg
      · exact d k (by omega) q2
def lev (hs bs : Nat → Int32) (n a : Nat) : Nat := fst1 (fun i => has (pw (fun K => rnd hs bs (evr n) K n) (i + 1) (nI 0)) (nI a)) 16 0
theorem lev_spec {hs bs : Nat → Int32} {n a : Nat} (ha : a < 16) (h : has (mdl hs bs n) (nI a) = true) : lev hs bs n a < 16 ∧ (∀ i, i < lev hs bs n a → has (pw (fun K => rnd hs bs (evr n) K n) (i + 1) (nI 0)) (nI a) = false) ∧ has (pw (fun K => rnd hs bs (evr n) K n) (lev hs bs n a + 1) (nI 0)) (nI a) = true := by
  obtain ⟨-, h2, h3, h4⟩ := fst1_spec (fun i => has (pw (fun K => rnd hs bs (evr n) K n) (i + 1) (nI 0)) (nI a)) 16 0 15 (by decide) (by decide) h
  exact ⟨Nat.lt_of_le_of_lt h2 (by decide), fun i hi => h4 i (Nat.zero_le _) hi, h3⟩
def mixI (h : Int64) (v : Int32) : Int64 := 31 * h + v.toInt64
def mrF (hs bs : Nat → Int32) (n : Nat) (h : Int64) : Nat → Int64
  | 0 => mixI h (nI n)
  | r + 1 => mixI (mixI (mixI (mixI (mrF hs bs n h r) (hs r)) (bs r)) (ovd hs bs n r)) (lst hs bs n r)
def mfF (f : Nat → Int32) (h : Int64) : Nat → Int64
  | 0 => h
  | i + 1 => mixI (mfF f h i) (f i)
theorem mfF_tab (f : Nat → Int32) (h : Int64) : ∀ n, mfF f h n = (tab f n).foldl mixI h
  | 0 => rfl
  | n + 1 => by
    rw [mfF, mfF_tab f h n]
    unfold tab
    rw [List.range_succ, List.map_append, List.foldl_append]
    rfl
def maF (hs bs : Nat → Int32) (n : Nat) (h : Int64) : Nat → Int64
  | 0 => h
  | a + 1 => if has (mdl hs bs n) (nI a) = true then mixI (mixI (mixI (maF hs bs n h a) (nI (lev hs bs n a))) (reaF hs bs n a n)) (necF hs bs n a n) else maF hs bs n h a
def mpS (hs bs : Nat → Int32) (n : Nat) (h : Int64) : Int64 := ((runP hs bs n 16).2.1).foldl mixI (((runP hs bs n 16).1).foldl mixI (mixI h (mdl hs bs n)))
def digS (hs bs : Nat → Int32) (n : Nat) (a : Int32) (tn k : Nat) (er : Nat → Int32) : Int64 :=
  mixI (mixI (maF hs bs n (mpS hs bs n (mrF hs bs n (mixI (mixI (mfF er 2719 4) (nI tn)) a) n)) 16) (cycF hs bs n 16)) (nI k)
def isB (v : Int32) : Bool := decide (¬ v < 0 ∧ ¬ nI 127 < v)
def expS (hs bs : Nat → Int32) (n : Nat) (as_ : Int32) (a ct : Nat) : Int32 := (exB hs bs n as_ a ct).1
abbrev SS : Type := List (Int32 × Int32) × Int32
/-- answer, rules, saved states, counters -/
def addS (h y : Int32) (R : List (Int32 × Int32)) (a : Int32) (H : List SS) (er : Nat → Int32) : Int32 × List (Int32 × Int32) × List SS × (Nat → Int32) :=
  if (isA h && isS y (nI 4)) = true then (if 24 ≤ R.length then (-4, R, H, bad er 2) else (nI R.length, R ++ [(h, y)], svP H (R, a), er)) else (-2, R, H, bad er 0)
def remS (r : Int32) (R : List (Int32 × Int32)) (a : Int32) (H : List SS) (er : Nat → Int32) : Int32 × List (Int32 × Int32) × List SS × (Nat → Int32) :=
  if hasR r R.length = true then (nI (R.length - 1), R.eraseIdx r.toNatClampNeg, svP H (R, a), er) else (-2, R, H, bad er 0)
def asmS (x : Int32) (R : List (Int32 × Int32)) (a : Int32) (H : List SS) (er : Nat → Int32) : Int32 × Int32 × List SS × (Nat → Int32) :=
  if isS x (nI 8) = true then (a, x, svP H (R, a), er) else (-2, a, H, bad er 0)
def parS (it : Nat → Int32) (cn : Nat) (R : List (Int32 × Int32)) (a : Int32) (H : List SS) : Int32 × List (Int32 × Int32) × List SS := match rdL it cn R.length with
  | .inl e => ((-10) - nI e, R, H)
  | .inr l => (nI l.length, R ++ l, svP H (R, a))
/-- the last saved state comes back -/
def undS (R : List (Int32 × Int32)) (a : Int32) (H : List SS) (er : Nat → Int32) : Int32 × SS × List SS × (Nat → Int32) := match H.getLast? with
  | none => (-5, (R, a), H, bad er 3)
  | some x => (nI (H.length - 1), x, H.dropLast, er)
theorem snap_tab (hs bs : Nat → Int32) (n : Nat) (a : Int32) : snap hs bs n a = (tab2 hs bs n, a) := rfl
theorem tab2_rm (hs bs : Nat → Int32) {r n : Nat} (h : r < n) : tab2 (rmF hs r n) (rmF bs r n) (n - 1) = (tab2 hs bs n).eraseIdx r := by
  refine List.ext_getElem? fun i => ?_
  rw [List.getElem?_eraseIdx]
  unfold tab2
  simp only [List.getElem?_map]
  by_cases h1 : i < r
  · rw [if_pos h1, List.getElem?_range (by omega), List.getElem?_range (by omega)]
    simp [rmF, show ¬ r ≤ i by omega]
  · rw [if_neg h1]
    by_cases h2 : i + 1 < n
    · rw [List.getElem?_range (by omega), List.getElem?_range h2]
      simp [rmF, show r ≤ i by omega, h2]
    · rw [List.getElem?_eq_none (by simp; omega), List.getElem?_eq_none (by simp; omega)]
      rfl
theorem hsv_last (BH BB : Nat → Nat → Int32) (Bn : Nat → Nat) (Ba : Nat → Int32) {k : Nat} (h : 0 < k) : (hsv BH BB Bn Ba k).getLast? = some (snap (BH (k - 1)) (BB (k - 1)) (Bn (k - 1)) (Ba (k - 1))) := by
  obtain ⟨j, rfl⟩ : ∃ j, k = j + 1 := ⟨k - 1, by omega⟩
  unfold hsv
  rw [List.range_succ, List.map_append]
  simp
theorem hsv_drop (BH BB : Nat → Nat → Int32) (Bn : Nat → Nat) (Ba : Nat → Int32) {k : Nat} (h : 0 < k) : (hsv BH BB Bn Ba k).dropLast = hsv BH BB Bn Ba (k - 1) := by
  obtain ⟨j, rfl⟩ : ∃ j, k = j + 1 := ⟨k - 1, by omega⟩
  unfold hsv
  rw [List.range_succ, List.map_append]
  simp
