/-! the saved states as values -/
def tab (f : Nat → Int32) (n : Nat) : List Int32 := (List.range n).map f
def snap (hs bs : Nat → Int32) (n : Nat) (as_ : Int32) : List (Int32 × Int32) × Int32 := ((List.range n).map (fun j => (hs j, bs j)), as_)
theorem snap_cp (f f2 g g2 : Nat → Int32) (n : Nat) (x : Int32) : snap (cpF f g n) (cpF f2 g2 n) n x = snap f f2 n x := by
  unfold snap
  refine Prod.ext ?_ rfl
  refine List.map_congr_left fun j hj => ?_
  have hj := List.mem_range.mp hj
  show (cpF f g n j, cpF f2 g2 n j) = (f j, f2 j)
  unfold cpF
  rw [if_pos hj, if_pos hj]
def hsv (BH BB : Nat → Nat → Int32) (Bn : Nat → Nat) (Ba : Nat → Int32) (k : Nat) : List (List (Int32 × Int32) × Int32) := (List.range k).map (fun i => snap (BH i) (BB i) (Bn i) (Ba i))
/-- one state more is saved, at most four -/
def svP (hv : List (List (Int32 × Int32) × Int32)) (x : List (Int32 × Int32) × Int32) : List (List (Int32 × Int32) × Int32) := (if hv.length < 4 then hv else hv.drop 1) ++ [x]
/-- the addresses of the saved states in the array -/
def svF (bA : Nat → Nat) : Nat → Option Nat := fun j => if j < 4 then some (bA j) else none
def rot {α : Type} (f : Nat → α) : Nat → α := fun j => if j < 3 then f (j + 1) else f 0
theorem svF_rot (bA : Nat → Nat) : va_up (va_up (va_up (va_up (svF bA) 0 (some (bA 1))) 1 (some (bA 2))) 2 (some (bA 3))) 3 (some (bA 0)) = svF (rot bA) := by
  funext j
  match j with
  | 0 => rfl
  | 1 => rfl
  | 2 => rfl
  | 3 => rfl
  | j + 4 =>
    have h0 : ¬ j + 4 < 4 := by omega
    simp [va_up, svF, h0]
theorem hsv_len (BH BB : Nat → Nat → Int32) (Bn : Nat → Nat) (Ba : Nat → Int32) (k : Nat) : (hsv BH BB Bn Ba k).length = k := by simp [hsv]
/-- book k is written anew, behind the others -/
theorem hsv_put (BH BB : Nat → Nat → Int32) (Bn : Nat → Nat) (Ba : Nat → Int32) {k : Nat} (hk : k < 4) (hs bs : Nat → Int32) (n : Nat) (as_ : Int32) :
    hsv (va_up BH k (cpF hs (BH k) n)) (va_up BB k (cpF bs (BB k) n)) (va_up Bn k n) (va_up Ba k as_) (k + 1) = svP (hsv BH BB Bn Ba k) (snap hs bs n as_) := by
  unfold svP
  rw [if_pos (by rw [hsv_len]; exact hk)]
  unfold hsv
  rw [List.range_succ, List.map_append]
  congr 1
  · refine List.map_congr_left fun j hj => ?_
    have hj : j ≠ k := Nat.ne_of_lt (List.mem_range.mp hj)
    simp [va_up, hj]
  · show [snap _ _ _ _] = _
    simp only [va_up, reduceIte]
    rw [snap_cp]
theorem hsv_rot (BH BB : Nat → Nat → Int32) (Bn : Nat → Nat) (Ba : Nat → Int32) (hs bs : Nat → Int32) (n : Nat) (as_ : Int32) :
    hsv (va_up (rot BH) 3 (cpF hs (BH 0) n)) (va_up (rot BB) 3 (cpF bs (BB 0) n)) (va_up (rot Bn) 3 n) (va_up (rot Ba) 3 as_) 4 = svP (hsv BH BB Bn Ba 4) (snap hs bs n as_) := by
  unfold svP
  rw [if_neg (by rw [hsv_len]; decide)]
  show [snap _ _ _ _, snap _ _ _ _, snap _ _ _ _, snap (cpF hs (BH 0) n) (cpF bs (BB 0) n) n as_] = [snap _ _ _ _, snap _ _ _ _, snap _ _ _ _] ++ [snap hs bs n as_]
  rw [snap_cp]
  rfl
