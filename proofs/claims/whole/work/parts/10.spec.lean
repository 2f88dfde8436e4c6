/-! What the methods answer, as functions. hs, bs: the heads' and bodies' rows; n: how many rules. -/
def has (x e : Int32) : Bool := decide (¬ (x &&& (nI 1 <<< (e &&& 31))) = 0)
def sbs (a b : Int32) : Bool := decide ((a &&& (b ^^^ (-1))) = 0)
def isA (a : Int32) : Bool := decide (¬ a < 0 ∧ ¬ nI 16 ≤ a)
def hasR (r : Int32) (n : Nat) : Bool := decide (¬ r < 0 ∧ ¬ nI n ≤ r)
theorem hasR_nat {r : Int32} {n : Nat} (hn : n < 2 ^ 31) (h : hasR r n = true) : ∃ j, j < n ∧ r = nI j := by
  have h := of_decide_eq_true h
  obtain ⟨j, hj, rfl⟩ := nI_of h.1
  exact ⟨j, Nat.not_le.mp fun q => h.2 ((nI_leI hn hj).mpr q), rfl⟩
theorem hasR_of {r n : Nat} (h : r < n) (hn : n < 2 ^ 31) : hasR (nI r) n = true := decide_eq_true ⟨nI_pos (Nat.lt_trans h hn), fun q => absurd ((nI_leI hn (Nat.lt_trans h hn)).mp q) (Nat.not_le.mpr h)⟩
def sh1 (e : Int32) : Int32 := nI 1 <<< (e &&& 31)
def pw (f : Int32 → Int32) : Nat → Int32 → Int32
  | 0, x => x
  | k + 1, x => f (pw f k x)
theorem pw_fix {f : Int32 → Int32} {x : Int32} {k : Nat} (h : f (pw f k x) = pw f k x) : ∀ d, pw f (k + d) x = pw f k x
  | 0 => rfl
  | d + 1 => by
    show f (pw f (k + d) x) = _
    rw [pw_fix h d, h]
/-- all rules -/
def evr (n : Nat) : Int32 := (nI 1 <<< (nI n &&& 31)) - nI 1
/-- one round of the rules in R over what is known, up to rule r -/
def rnd (hs bs : Nat → Int32) (R K : Int32) : Nat → Int32
  | 0 => K
  | r + 1 => if has R (nI r) = true ∧ sbs (bs r) K = true then rnd hs bs R K r ||| (nI 1 <<< (hs r &&& 31)) else rnd hs bs R K r
/-- the model of the rules in R with the facts F -/
def clo (hs bs : Nat → Int32) (n : Nat) (R F : Int32) : Int32 := pw (fun K => rnd hs bs R K n) 16 F
