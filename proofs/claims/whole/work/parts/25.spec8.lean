theorem itm_at (f : Nat → Int32) {i c : Nat} (h : i < c) (hc : c < 2 ^ 31) : itm f c (nI i) = f i := by rw [itm, if_pos (hasR_of h hc), nI_clamp (by omega)]
theorem rl_f {X : Nat ⊕ List (Int32 × Int32)} {hs bs : Nat → Int32} {n : Nat} {rb : Bool} {err : Int32} {dh db : Nat → Int32} {dn : Nat} (h : rlR X hs bs n rb err dh db dn) (hb : rb = false) : ∃ e, X = .inl e ∧ err = nI e := by
  cases X with
  | inl e => exact ⟨e, rfl, h.2⟩
  | inr l => rw [hb] at h; cases h.1
theorem rl_t {X : Nat ⊕ List (Int32 × Int32)} {hs bs : Nat → Int32} {n : Nat} {rb : Bool} {err : Int32} {dh db : Nat → Int32} {dn : Nat} (h : rlR X hs bs n rb err dh db dn) (hb : rb = true) : ∃ l, X = .inr l ∧ dn = n + l.length ∧ dn ≤ 24 ∧ tab2 dh db dn = tab2 hs bs n ++ l := by
  cases X with
  | inl e => rw [hb] at h; cases h.1
  | inr l => exact ⟨l, rfl, h.2⟩
theorem nI_sub_add (n m : Nat) : nI (n + m) - nI n = nI m := by
  rw [← nI_add]
  apply Int32.toBitVec_inj.1
  rw [Int32.toBitVec_sub, Int32.toBitVec_add]
  bv_omega
theorem parS_f {it : Nat → Int32} {cn : Nat} {R : List (Int32 × Int32)} {a : Int32} {H : List SS} {e : Nat} (h : rdL it cn R.length = .inl e) : parS it cn R a H = ((-10) - nI e, R, H) := by rw [parS, h]
theorem parS_t {it : Nat → Int32} {cn : Nat} {R : List (Int32 × Int32)} {a : Int32} {H : List SS} {l : List (Int32 × Int32)} (h : rdL it cn R.length = .inr l) : parS it cn R a H = (nI l.length, R ++ l, svP H (R, a)) := by rw [parS, h]
theorem undS_0 {R : List (Int32 × Int32)} {a : Int32} {er : Nat → Int32} : undS R a [] er = (-5, (R, a), [], bad er 3) := rfl
theorem undS_1 {R : List (Int32 × Int32)} {a : Int32} {H : List SS} {er : Nat → Int32} {x : SS} (h : H.getLast? = some x) : undS R a H er = (nI (H.length - 1), x, H.dropLast, er) := by rw [undS, h]
