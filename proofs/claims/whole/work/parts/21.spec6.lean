def low16 (x : Int32) : Prop := ∀ i, 16 ≤ i → i < 32 → bt x i = false
theorem low16_ne {x : Int32} (h : low16 x) : ¬ x = -1 := fun e => by
  have h1 := h 31 (by decide) (by decide)
  rw [e] at h1
  exact absurd h1 (by decide)
theorem low16_0 : low16 (nI 0) := fun i _ _ => b_0 i
theorem low16_or {x y : Int32} (hx : low16 x) (hy : low16 y) : low16 (x ||| y) := fun i h1 h2 => by rw [b_or, hx i h1 h2, hy i h1 h2]; rfl
theorem low16_sh {v : Int32} (h : isA v = true) : low16 (nI 1 <<< (v &&& 31)) := by
  obtain ⟨a, ha, rfl⟩ := isA_nat h
  intro i h1 h2
  rw [bt_sh (by omega) h2]
  exact decide_eq_false (by omega)
theorem rdBL_low {it : Nat → Int32} {cn : Nat} : ∀ (k : Nat) (at_ : Int32) (p : Nat) (v : Int32) (q : Nat), p ≤ cn → low16 at_ → rdBL it cn k at_ p = .inr (v, q) → low16 v ∧ q ≤ cn
  | 0, _, _, _, _, _, _, h => by cases h
  | k + 1, at_, p, v, q, hp, hl, h => by
    rw [rdBL] at h
    cases hx : rdA it cn p with
    | inl z => rw [hx] at h; cases h
    | inr x =>
      obtain ⟨v1, q1⟩ := x
      obtain ⟨i1, i2, i3⟩ := rdA_isA hx
      rw [hx] at h
      dsimp only at h
      split at h
      · cases h
      · split at h
        · rename_i hc
          have l1 := tc_lt hc (by decide)
          exact rdBL_low k _ _ _ _ (skp_le (by omega)) (low16_or hl (low16_sh i1)) h
        · cases h
          exact ⟨low16_or hl (low16_sh i1), skp_le i2⟩
theorem rdBL_ge {it : Nat → Int32} {cn : Nat} : ∀ (k : Nat) (at_ : Int32) (p : Nat) (v : Int32) (q : Nat), p ≤ cn → rdBL it cn k at_ p = .inr (v, q) → p ≤ q
  | 0, _, _, _, _, _, h => by cases h
  | k + 1, at_, p, v, q, hp, h => by
    rw [rdBL] at h
    cases hx : rdA it cn p with
    | inl z => rw [hx] at h; cases h
    | inr x =>
      obtain ⟨v1, q1⟩ := x
      obtain ⟨i1, i2, i3⟩ := rdA_isA hx
      have g1 := skp_ge (it := it) i2
      rw [hx] at h
      dsimp only at h
      split at h
      · cases h
      · split at h
        · rename_i hc
          have l1 := tc_lt hc (by decide)
          have g2 := skp_ge (it := it) (cn := cn) (p := skp it cn q1 + 1) (by omega)
          have g3 := rdBL_ge k _ _ _ _ (skp_le (by omega)) h
          omega
        · cases h
          omega
theorem rdB_low {it : Nat → Int32} {cn p : Nat} {v : Int32} {q : Nat} (hp : p ≤ cn) (h : rdB it cn p = .inr (v, q)) : low16 v ∧ q ≤ cn := by
  unfold rdB at h
  split at h
  · cases h; exact ⟨low16_0, skp_le hp⟩
  · exact rdBL_low 4 _ _ _ _ (skp_le hp) low16_0 h
theorem rdB_err {it : Nat → Int32} {cn p : Nat} {rv : Int32} {pos : Nat} {err : Int32} (hp : p ≤ cn) (h : rdR (rdB it cn p) rv pos err) (e : rv = -1) : ∃ z, rdB it cn p = .inl z ∧ err = nI z := by
  cases hx : rdB it cn p with
  | inl z => rw [hx] at h; exact ⟨z, rfl, h.2⟩
  | inr x =>
    obtain ⟨v, q⟩ := x
    rw [hx] at h
    exact absurd (h.1.symm.trans e) (low16_ne (rdB_low hp hx).1)
theorem rdB_ok {it : Nat → Int32} {cn p : Nat} {rv : Int32} {pos : Nat} {err : Int32} (hp : p ≤ cn) (h : rdR (rdB it cn p) rv pos err) (e : ¬ rv = -1) : rdB it cn p = .inr (rv, pos) ∧ low16 rv ∧ pos ≤ cn := by
  cases hx : rdB it cn p with
  | inl z => rw [hx] at h; exact absurd h.1 e
  | inr x =>
    obtain ⟨v, q⟩ := x
    rw [hx] at h
    obtain ⟨h1, h2⟩ := h
    subst h1; subst h2
    exact ⟨rfl, (rdB_low hp hx).1, (rdB_low hp hx).2⟩
/-- what comes back of 'take' -/
def tkR (it : Nat → Int32) (cn p sg : Nat) (rb : Bool) (pos : Nat) (err : Int32) : Prop := if tc it cn (skp it cn p) = nI sg then rb = true ∧ pos = skp it cn p + 1 else rb = false ∧ err = nI (skp it cn p)
theorem tk_t {it : Nat → Int32} {cn p sg : Nat} {pos : Nat} {err : Int32} {rb : Bool} (h : tkR it cn p sg rb pos err) (hb : rb = true) : tc it cn (skp it cn p) = nI sg ∧ pos = skp it cn p + 1 := by
  subst hb
  unfold tkR at h
  split at h
  · exact ⟨by assumption, h.2⟩
  · cases h.1
theorem tk_f {it : Nat → Int32} {cn p sg : Nat} {pos : Nat} {err : Int32} {rb : Bool} (h : tkR it cn p sg rb pos err) (hb : rb = false) : ¬ tc it cn (skp it cn p) = nI sg ∧ err = nI (skp it cn p) := by
  subst hb
  unfold tkR at h
  split at h
  · cases h.1
  · exact ⟨by assumption, h.2⟩
/-- what comes back of 'readRule': a truth value; the rule is behind the others -/
def tab2 (hs bs : Nat → Int32) (n : Nat) : List (Int32 × Int32) := (List.range n).map (fun j => (hs j, bs j))
theorem tab2_len (hs bs : Nat → Int32) (n : Nat) : (tab2 hs bs n).length = n := by simp [tab2]
theorem tab2_push (hs bs : Nat → Int32) (n : Nat) (x y : Int32) : tab2 (upd hs n x) (upd bs n y) (n + 1) = tab2 hs bs n ++ [(x, y)] := by
  unfold tab2
  rw [List.range_succ, List.map_append]
  congr 1
  · refine List.map_congr_left fun j hj => ?_
    have hj : j ≠ n := Nat.ne_of_lt (List.mem_range.mp hj)
    simp [upd, hj]
  · simp [upd]
theorem tab2_cp (f f2 g g2 : Nat → Int32) (n : Nat) : tab2 (cpF f g n) (cpF f2 g2 n) n = tab2 f f2 n := by
  unfold tab2
  refine List.map_congr_left fun j hj => ?_
  have hj := List.mem_range.mp hj
  show (cpF f g n j, cpF f2 g2 n j) = (f j, f2 j)
  unfold cpF
  rw [if_pos hj, if_pos hj]
def ruR (x : Nat ⊕ ((Int32 × Int32) × Nat)) (dh db : Nat → Int32) (dn : Nat) (rb : Bool) (pos : Nat) (err : Int32) (dh9 db9 : Nat → Int32) (dn9 : Nat) : Prop := match x with
  | .inl e => rb = false ∧ err = nI e
  | .inr (r, q) => rb = true ∧ pos = q ∧ dn9 = dn + 1 ∧ dn9 ≤ 24 ∧ tab2 dh9 db9 dn9 = tab2 dh db dn ++ [r]
theorem rdU_le {it : Nat → Int32} {cn n p : Nat} {r : Int32 × Int32} {q : Nat} (h : rdU it cn n p = .inr (r, q)) : q ≤ cn ∧ n < 24 ∧ isA r.1 = true ∧ low16 r.2 ∧ p < q := by
  unfold rdU at h
  split at h
  · cases h
  · rename_i hn
    cases hx : rdA it cn p with
    | inl z => rw [hx] at h; cases h
    | inr x =>
      obtain ⟨v1, q1⟩ := x
      obtain ⟨i1, i2, i3⟩ := rdA_isA hx
      rw [hx] at h
      dsimp only at h
      split at h
      · cases h
      · rename_i hc
        have hc := Classical.not_not.mp hc
        have l1 := tc_lt hc (by decide)
        cases hy : rdB it cn (skp it cn q1 + 1) with
        | inl z => rw [hy] at h; cases h
        | inr y =>
          obtain ⟨v2, q2⟩ := y
          have l2 := rdB_low (by omega) hy
          rw [hy] at h
          dsimp only at h
          split at h
          · cases h
          · rename_i hd
            have hd := Classical.not_not.mp hd
            have l3 := tc_lt hd (by decide)
            cases h
            refine ⟨by omega, by omega, i1, l2.1, ?_⟩
            have g1 := skp_ge (it := it) i2
            have g2 := skp_ge (it := it) l2.2
            have g3 : skp it cn q1 + 1 ≤ q2 := by
              unfold rdB at hy
              split at hy
              · cases hy; exact skp_ge (by omega)
              · exact rdBL_ge 4 _ _ _ _ (skp_le (by omega)) hy |> Nat.le_trans (skp_ge (by omega))
            omega
/-- what comes back of 'readOnto' -/
def rlR (x : Nat ⊕ List (Int32 × Int32)) (hs bs : Nat → Int32) (n : Nat) (rb : Bool) (err : Int32) (dh db : Nat → Int32) (dn : Nat) : Prop := match x with
  | .inl e => rb = false ∧ err = nI e
  | .inr l => rb = true ∧ dn = n + l.length ∧ dn ≤ 24 ∧ tab2 dh db dn = tab2 hs bs n ++ l
def onR (acc : List (Int32 × Int32)) (x : Nat ⊕ List (Int32 × Int32)) : Nat ⊕ List (Int32 × Int32) := match x with
  | .inl e => .inl e
  | .inr l => .inr (acc ++ l)
theorem onR_nil (x : Nat ⊕ List (Int32 × Int32)) : onR [] x = x := by cases x <;> rfl
theorem onR_step (acc : List (Int32 × Int32)) (x : Int32 × Int32) (y : Nat ⊕ List (Int32 × Int32)) : onR acc (match y with | .inl e => .inl e | .inr l => .inr (x :: l)) = onR (acc ++ [x]) y := by
  cases y with
  | inl e => rfl
  | inr l => simp [onR]
theorem ru_t {X : Nat ⊕ ((Int32 × Int32) × Nat)} {dh db : Nat → Int32} {dn : Nat} {rb : Bool} {pos : Nat} {err : Int32} {dh9 db9 : Nat → Int32} {dn9 : Nat} (h : ruR X dh db dn rb pos err dh9 db9 dn9) (hb : rb = true) : ∃ x q, X = .inr (x, q) ∧ pos = q ∧ dn9 = dn + 1 ∧ dn9 ≤ 24 ∧ tab2 dh9 db9 dn9 = tab2 dh db dn ++ [x] := by
  cases X with
  | inl e => rw [hb] at h; cases h.1
  | inr x => exact ⟨x.1, x.2, rfl, h.2⟩
theorem ru_f {X : Nat ⊕ ((Int32 × Int32) × Nat)} {dh db : Nat → Int32} {dn : Nat} {rb : Bool} {pos : Nat} {err : Int32} {dh9 db9 : Nat → Int32} {dn9 : Nat} (h : ruR X dh db dn rb pos err dh9 db9 dn9) (hb : rb = false) : ∃ e, X = .inl e ∧ err = nI e := by
  cases X with
  | inl e => exact ⟨e, rfl, h.2⟩
  | inr x => rw [hb] at h; cases h.1
