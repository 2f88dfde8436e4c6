theorem sh_ct {x y : Int32} {c : Nat} (h : x = y) (h2 : nI 1 <<< (y &&& 31) = nI c) : nI 1 <<< (x &&& 31) = nI c := by rw [h]; exact h2
def isS (x lim : Int32) : Bool := decide (¬ x < 0 ∧ ¬ nI 65535 < x ∧ ¬ lim < bc x)
/-- a row's item, -1 behind its end -/
def itm (f : Nat → Int32) (c : Nat) (i : Int32) : Int32 := if hasR i c = true then f i.toNatClampNeg else -1
theorem itm_ix {i : Int32} {c : Nat} (h1 : ¬ i < 0) (h2 : ¬ nI c ≤ i) (hc : c < 2 ^ 31) : i = nI i.toNatClampNeg ∧ i.toNatClampNeg < c := by
  obtain ⟨j, hj, rfl⟩ := nI_of h1
  rw [nI_clamp hj]
  exact ⟨rfl, Nat.not_le.mp fun q => h2 ((nI_leI hc hj).mpr q)⟩
theorem nI_sub1 {k : Nat} (h : 0 < k) : nI k - nI 1 = nI (k - 1) := by
  obtain ⟨i, rfl⟩ : ∃ i, k = i + 1 := ⟨k - 1, by omega⟩
  exact nI_pred i
/-- row f with the places from r on moved down by one, as far as place k has been read -/
def rmF (f : Nat → Int32) (r k : Nat) : Nat → Int32 := fun j => if r ≤ j ∧ j + 1 < k then f (j + 1) else f j
theorem rmF_0 (f : Nat → Int32) (r : Nat) : rmF f r (r + 1) = f := by
  funext j
  unfold rmF
  rw [if_neg (by omega)]
theorem rmF_at (f : Nat → Int32) (r k : Nat) : rmF f r k k = f k := by
  unfold rmF
  rw [if_neg (by omega)]
theorem rmF_st (f : Nat → Int32) {r k : Nat} (h : r < k) : upd (rmF f r k) (k - 1) (f k) = rmF f r (k + 1) := by
  funext j
  unfold upd rmF
  by_cases hj : j = k - 1
  · subst hj
    rw [if_pos rfl, if_pos (by omega), show k - 1 + 1 = k from by omega]
  · rw [if_neg hj]
    by_cases h2 : r ≤ j ∧ j + 1 < k
    · rw [if_pos h2, if_pos (by omega)]
    · rw [if_neg h2, if_neg (by omega)]
/-- f's first k places over g -/
def cpF (f g : Nat → Int32) (k : Nat) : Nat → Int32 := fun j => if j < k then f j else g j
theorem cpF_0 (f g : Nat → Int32) : cpF f g 0 = g := by
  funext j
  unfold cpF
  rw [if_neg (by omega)]
theorem cpF_st (f g : Nat → Int32) (k : Nat) : upd (cpF f g k) k (f k) = cpF f g (k + 1) := by
  funext j
  unfold upd cpF
  by_cases hj : j = k
  · subst hj
    rw [if_pos rfl, if_pos (by omega)]
  · rw [if_neg hj]
    by_cases h2 : j < k
    · rw [if_pos h2, if_pos (by omega)]
    · rw [if_neg h2, if_neg (by omega)]
def bosF (x : Int32) : Nat → Int32
  | 0 => nI 0
  | j + 1 => if has x (nI j) = true then ((nI 127 + nI j - nI 4) <<< (nI 23 &&& 31)) ||| ((x <<< ((nI 23 - nI j) &&& 31)) &&& nI 8388607) else bosF x j
