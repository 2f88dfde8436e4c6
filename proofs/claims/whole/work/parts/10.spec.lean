/-! What the methods answer, as functions. hs, bs: the heads' and bodies' rows; n: how many rules. -/
theorem bI_1 {b : Bool} (h : b = true) : nI 1 = bI b := by rw [h]; rfl
theorem bI_0 {b : Bool} (h : b = false) : nI 0 = bI b := by rw [h]; rfl
def has (x e : Int32) : Bool := decide (¬ (x &&& (nI 1 <<< (e &&& 31))) = 0)
def sbs (a b : Int32) : Bool := decide ((a &&& (b ^^^ (-1))) = 0)
def isA (a : Int32) : Bool := decide (¬ a < 0 ∧ ¬ nI 16 ≤ a)
def hasR (r : Int32) (n : Nat) : Bool := decide (¬ r < 0 ∧ ¬ nI n ≤ r)
theorem hasR_nat {r : Int32} {n : Nat} (hn : n < 2 ^ 31) (h : hasR r n = true) : ∃ j, j < n ∧ r = nI j := by
  have h := of_decide_eq_true h
  obtain ⟨j, hj, rfl⟩ := nI_of h.1
  exact ⟨j, Nat.not_le.mp fun q => h.2 ((nI_leI hn hj).mpr q), rfl⟩
theorem hasR_of {r n : Nat} (h : r < n) (hn : n < 2 ^ 31) : hasR (nI r) n = true := decide_eq_true ⟨nI_pos (Nat.lt_trans h hn), fun q => absurd ((nI_leI hn (Nat.lt_trans h hn)).mp q) (Nat.not_le.mpr h)⟩
def sh1 (e : Int32) : Int32 := nI 1 <<< (e &&& 31)
def pw (f : Int32 → Int32) : Nat → Int32 → Int32
  | 0, x => x
  | k + 1, x => f (pw f k x)
theorem pw_fix {f : Int32 → Int32} {x : Int32} {k : Nat} (h : f (pw f k x) = pw f k x) : ∀ d, pw f (k + d) x = pw f k x
  | 0 => rfl
  | d + 1 => by
    show f (pw f (k + d) x) = _
    rw [pw_fix h d, h]
/-- all rules -/
def evr (n : Nat) : Int32 := (nI 1 <<< (nI n &&& 31)) - nI 1
/-- one round of the rules in R over what is known, up to rule r -/
def rnd (hs bs : Nat → Int32) (R K : Int32) : Nat → Int32
  | 0 => K
  | r + 1 => if has R (nI r) = true ∧ sbs (bs r) K = true then rnd hs bs R K r ||| (nI 1 <<< (hs r &&& 31)) else rnd hs bs R K r
/-- the model of the rules in R with the facts F -/
def clo (hs bs : Nat → Int32) (n : Nat) (R F : Int32) : Int32 := pw (fun K => rnd hs bs R K n) 16 F
theorem nI_m1 (i : Nat) : nI i + Int32.ofInt (-1) = nI i - nI 1 := by
  rw [Int32.sub_eq_add_neg]; rfl
theorem nI_dn {j : Nat} (h : nI j - nI 1 < 0) (hj : j < 2 ^ 31) : j = 0 := by
  cases j with
  | zero => rfl
  | succ i =>
    have e : nI (i + 1) - nI 1 = nI i := nI_pred i
    rw [e] at h
    exact absurd h (nI_pos (by omega))
theorem nI_up {j : Nat} (h : ¬ nI j - nI 1 < 0) : ∃ i, j = i + 1 := by
  cases j with
  | zero => exact absurd (by decide) h
  | succ i => exact ⟨i, rfl⟩
def supF (hs bs : Nat → Int32) (M : Int32) (a : Nat) : Nat → Int32
  | 0 => nI 0
  | r + 1 => if hs r = nI a ∧ sbs (bs r) M = true then supF hs bs M a r ||| (nI 1 <<< (nI r &&& 31)) else supF hs bs M a r
def less (X : Int32) (r : Nat) : Int32 := X &&& ((nI 1 <<< (nI r &&& 31)) ^^^ (-1))
/-- the reason: i rules are still to be looked at -/
def reaF (hs bs : Nat → Int32) (n a : Nat) : Nat → Int32
  | 0 => evr n
  | t + 1 => if has (clo hs bs n (less (reaF hs bs n a t) (n - 1 - t)) (nI 0)) (nI a) = true then less (reaF hs bs n a t) (n - 1 - t) else reaF hs bs n a t
def necF (hs bs : Nat → Int32) (n a : Nat) : Nat → Int32
  | 0 => nI 0
  | r + 1 => if has (clo hs bs n (less (evr n) r) (nI 0)) (nI a) = true then necF hs bs n a r else necF hs bs n a r ||| (nI 1 <<< (nI r &&& 31))
def bunF (hs bs : Nat → Int32) (X : Int32) : Nat → Int32
  | 0 => nI 0
  | r + 1 => if has X (hs r) = true then bunF hs bs X r ||| bs r else bunF hs bs X r
def depS (hs bs : Nat → Int32) (n a : Nat) : Int32 := pw (fun x => x ||| bunF hs bs x n) 16 (bunF hs bs (nI 1 <<< (nI a &&& 31)) n)
def cycF (hs bs : Nat → Int32) (n : Nat) : Nat → Int32
  | 0 => nI 0
  | a + 1 => cycF hs bs n a ||| (depS hs bs n a &&& (nI 1 <<< (nI a &&& 31)))
def ovdF (hs bs : Nat → Int32) (M : Int32) (d : Nat) (x : Int32) : Nat → Int32
  | 0 => x
  | r + 1 => if ¬ r = d ∧ sbs (bs r) M = true ∧ ¬ (bs r &&& ovdF hs bs M d x r) = 0 then ovdF hs bs M d x r ||| (nI 1 <<< (hs r &&& 31)) else ovdF hs bs M d x r
def mdl (hs bs : Nat → Int32) (n : Nat) : Int32 := clo hs bs n (evr n) (nI 0)
def ovd (hs bs : Nat → Int32) (n d : Nat) : Int32 := if sbs (bs d) (mdl hs bs n) = true then pw (fun x => ovdF hs bs (mdl hs bs n) d x n) 16 (nI 1 <<< (hs d &&& 31)) else nI 0
def lst (hs bs : Nat → Int32) (n r : Nat) : Int32 := mdl hs bs n &&& (clo hs bs n (less (evr n) r) (nI 0) ^^^ (-1))
def gnd (hs bs : Nat → Int32) (n : Nat) (h b : Int32) : Int32 := if sbs b (mdl hs bs n) = true then clo hs bs n (evr n) (nI 1 <<< (h &&& 31)) &&& (mdl hs bs n ^^^ (-1)) else nI 0
/-- Integer.bitCount -/
def ush (x : Int32) (k : Nat) : Int32 := (x.toUInt32 >>> ((nI k).toUInt32 &&& Int32.toUInt32 31)).toInt32
def bc (x : Int32) : Int32 :=
  let a := x - (ush x 1 &&& nI 1431655765)
  let b := (a &&& nI 858993459) + (ush a 2 &&& nI 858993459)
  let c := (b + ush b 4) &&& nI 252645135
  let d := c + ush c 8
  (d + ush d 16) &&& nI 63
/-- the search of an explanation: best, its size, the set that comes next -/
def exB (hs bs : Nat → Int32) (n : Nat) (as_ : Int32) (a : Nat) : Nat → Int32 × Int32 × Int32
  | 0 => (-1, nI 9, nI 0)
  | k + 1 =>
    let t := exB hs bs n as_ a k
    if ¬ t.2.1 ≤ bc t.2.2 ∧ has (clo hs bs n (evr n) t.2.2) (nI a) = true then (t.2.2, bc t.2.2, (t.2.2 - as_) &&& as_) else (t.1, t.2.1, (t.2.2 - as_) &&& as_)
