/-! reading rule text, as functions: an error's place (inl), or what was read and the place behind it (inr) -/
/-- the byte at a place, -1 behind the end -/
def tc (it : Nat → Int32) (cn p : Nat) : Int32 := if p < cn then it p else -1
theorem itm_tc (it : Nat → Int32) {cn p : Nat} (hc : cn < 2 ^ 31) (hp : p < 2 ^ 31) : itm it cn (nI p) = tc it cn p := by
  unfold itm tc
  by_cases h : p < cn
  · rw [if_pos h, if_pos (hasR_of h hc), nI_clamp hp]
  · rw [if_neg h, if_neg]
    intro q
    obtain ⟨j, hj, e⟩ := hasR_nat hc q
    rw [nI_eq hp (by omega)] at e
    omega
def isD (c : Int32) : Bool := decide (¬ c < nI 48 ∧ ¬ nI 57 < c)
theorem isD_lt {it : Nat → Int32} {cn p : Nat} (h : isD (tc it cn p) = true) : p < cn := by
  rcases Nat.lt_or_ge p cn with q | q
  · exact q
  · rw [tc, if_neg (by omega)] at h
    exact absurd h (by decide)
def skpF (it : Nat → Int32) (cn : Nat) : Nat → Nat → Nat
  | 0, p => p
  | f + 1, p => if p < cn ∧ it p = nI 32 then skpF it cn f (p + 1) else p
/-- the first place from p on that is no space -/
def skp (it : Nat → Int32) (cn p : Nat) : Nat := skpF it cn (cn - p) p
theorem skp_go {it : Nat → Int32} {cn p : Nat} (h : p < cn) (h2 : it p = nI 32) : skp it cn p = skp it cn (p + 1) := by
  unfold skp
  rw [show cn - p = (cn - (p + 1)) + 1 from by omega, skpF, if_pos ⟨h, h2⟩]
theorem skp_stop {it : Nat → Int32} {cn p : Nat} (h : ¬ (p < cn ∧ it p = nI 32)) : skp it cn p = p := by
  unfold skp
  cases hf : cn - p with
  | zero => rfl
  | succ f => rw [skpF, if_neg h]
theorem skpF_le (it : Nat → Int32) (cn : Nat) : ∀ (f p : Nat), p ≤ cn → skpF it cn f p ≤ cn ∧ p ≤ skpF it cn f p
  | 0, p, h => ⟨h, Nat.le_refl _⟩
  | f + 1, p, h => by
    rw [skpF]
    split
    · rename_i q
      have := skpF_le it cn f (p + 1) q.1
      exact ⟨this.1, by omega⟩
    · exact ⟨h, Nat.le_refl _⟩
theorem skp_le {it : Nat → Int32} {cn p : Nat} (h : p ≤ cn) : skp it cn p ≤ cn := (skpF_le it cn _ p h).1
theorem skp_ge {it : Nat → Int32} {cn p : Nat} (h : p ≤ cn) : p ≤ skp it cn p := (skpF_le it cn _ p h).2
def num1 (it : Nat → Int32) (cn p : Nat) : Int32 := tc it cn p - nI 48
def num2 (it : Nat → Int32) (cn p : Nat) : Int32 := (tc it cn p - nI 48) * nI 10 + tc it cn (p + 1) - nI 48
def rdA (it : Nat → Int32) (cn p : Nat) : Nat ⊕ (Int32 × Nat) :=
  if isD (tc it cn p) = true then
    if isD (tc it cn (p + 1)) = true then
      if isD (tc it cn (p + 1 + 1)) = true then .inl (p + 1 + 1)
      else if isA (num2 it cn p) = true then .inr (num2 it cn p, p + 1 + 1) else .inl p
    else if isA (num1 it cn p) = true then .inr (num1 it cn p, p + 1) else .inl p
  else .inl p
/-- what comes back of a reading: -1 and the error's place, or the value and the place behind it -/
def rdR (x : Nat ⊕ (Int32 × Nat)) (rv : Int32) (pos : Nat) (err : Int32) : Prop := match x with
  | .inl e => rv = -1 ∧ err = nI e
  | .inr (v, q) => rv = v ∧ pos = q
theorem isA_ne {v : Int32} (h : isA v = true) : ¬ v = -1 := fun e => by rw [e] at h; exact absurd h (by decide)
theorem isA_nat {v : Int32} (h : isA v = true) : ∃ a, a < 16 ∧ v = nI a := hasR_nat (n := 16) (by decide) h
theorem isA_of {a : Nat} (h : a < 16) : isA (nI a) = true := hasR_of (n := 16) h (by decide)
theorem rdA_isA {it : Nat → Int32} {cn p : Nat} {v : Int32} {q : Nat} (h : rdA it cn p = .inr (v, q)) : isA v = true ∧ q ≤ cn ∧ p < q := by
  unfold rdA at h
  split at h
  · rename_i h1
    have l1 := isD_lt h1
    split at h
    · rename_i h2
      have l2 := isD_lt h2
      split at h
      · cases h
      · split at h
        · cases h; exact ⟨by assumption, by omega, by omega⟩
        · cases h
    · split at h
      · cases h; exact ⟨by assumption, by omega, by omega⟩
      · cases h
  · cases h
theorem rdA_err {it : Nat → Int32} {cn p : Nat} {rv : Int32} {pos : Nat} {err : Int32} (h : rdR (rdA it cn p) rv pos err) (e : rv = -1) : ∃ z, rdA it cn p = .inl z ∧ err = nI z := by
  cases hx : rdA it cn p with
  | inl z => rw [hx] at h; exact ⟨z, rfl, h.2⟩
  | inr x =>
    obtain ⟨v, q⟩ := x
    rw [hx] at h
    exact absurd (h.1.symm.trans e) (isA_ne (rdA_isA hx).1)
theorem rdA_ok {it : Nat → Int32} {cn p : Nat} {rv : Int32} {pos : Nat} {err : Int32} (h : rdR (rdA it cn p) rv pos err) (e : ¬ rv = -1) : rdA it cn p = .inr (rv, pos) ∧ isA rv = true ∧ pos ≤ cn := by
  cases hx : rdA it cn p with
  | inl z => rw [hx] at h; exact absurd h.1 e
  | inr x =>
    obtain ⟨v, q⟩ := x
    rw [hx] at h
    obtain ⟨h1, h2⟩ := h
    subst h1; subst h2
    exact ⟨rfl, (rdA_isA hx).1, (rdA_isA hx).2.1⟩
def rdBL (it : Nat → Int32) (cn : Nat) : Nat → Int32 → Nat → Nat ⊕ (Int32 × Nat)
  | 0, _, p => .inl p
  | k + 1, at_, p => match rdA it cn p with
    | .inl e => .inl e
    | .inr (v, q) => if has at_ v = true then .inl p else if tc it cn (skp it cn q) = nI 44 then rdBL it cn k (at_ ||| (nI 1 <<< (v &&& 31))) (skp it cn (skp it cn q + 1)) else .inr (at_ ||| (nI 1 <<< (v &&& 31)), skp it cn q)
def rdB (it : Nat → Int32) (cn p : Nat) : Nat ⊕ (Int32 × Nat) := if tc it cn (skp it cn p) = nI 59 then .inr (nI 0, skp it cn p) else rdBL it cn 4 (nI 0) (skp it cn p)
/-- a rule, where n rules are there already -/
def rdU (it : Nat → Int32) (cn n p : Nat) : Nat ⊕ ((Int32 × Int32) × Nat) :=
  if 24 ≤ n then .inl p else match rdA it cn p with
    | .inl e => .inl e
    | .inr (h, q) => if ¬ tc it cn (skp it cn q) = nI 58 then .inl (skp it cn q) else match rdB it cn (skp it cn q + 1) with
      | .inl e => .inl e
      | .inr (b, q2) => if ¬ tc it cn (skp it cn q2) = nI 59 then .inl (skp it cn q2) else .inr ((h, b), skp it cn q2 + 1)
def rdLF (it : Nat → Int32) (cn : Nat) : Nat → Nat → Nat → Nat ⊕ List (Int32 × Int32)
  | 0, _, p => .inl p
  | f + 1, n, p => if p < cn then match rdU it cn n p with
      | .inl e => .inl e
      | .inr (x, q) => match rdLF it cn f (n + 1) (skp it cn q) with
        | .inl e => .inl e
        | .inr l => .inr (x :: l)
    else .inr []
def rdL (it : Nat → Int32) (cn n : Nat) : Nat ⊕ List (Int32 × Int32) := rdLF it cn (25 - n) n (skp it cn 0)
/-- small bodies: bits 0 to 15 alone -/
def sml (x : Int32) : Prop := ¬ x = -1
theorem tc_lt {it : Nat → Int32} {cn p : Nat} {c : Nat} (h : tc it cn p = nI c) (hc : c < 128) : p < cn := by
  rcases Nat.lt_or_ge p cn with q | q
  · exact q
  · rw [tc, if_neg (by omega)] at h
    have : ∀ c, c < 128 → ¬ (-1 : Int32) = nI c := by decide +kernel
    exact absurd h (this c hc)
