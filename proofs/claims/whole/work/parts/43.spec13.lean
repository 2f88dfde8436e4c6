/-! the reference's reader: the same readings -/
theorem skp_at {it : Nat → Int32} {cn : Nat} : ∀ (d p : Nat), cn - p = d → p ≤ cn → ¬ (skp it cn p < cn ∧ it (skp it cn p) = nI 32)
  | 0, p, hd, hp => by
    have := skp_ge (it := it) hp
    omega
  | d + 1, p, hd, hp => by
    by_cases h : p < cn ∧ it p = nI 32
    · rw [skp_go h.1 h.2]
      exact skp_at d (p + 1) (by omega) (by omega)
    · rw [skp_stop h]
      exact h
theorem skp_skp {it : Nat → Int32} {cn p : Nat} (hp : p ≤ cn) : skp it cn (skp it cn p) = skp it cn p := skp_stop (skp_at (cn - p) p rfl hp)
/-- a body with its semicolon -/
def rdK (it : Nat → Int32) (cn : Nat) (x : Nat ⊕ (Int32 × Nat)) : Nat ⊕ (Int32 × Nat) := match x with
  | .inl e => .inl e
  | .inr (b, q) => if ¬ tc it cn (skp it cn q) = nI 59 then .inl (skp it cn q) else .inr (b, skp it cn q + 1)
def rdC (it : Nat → Int32) (cn p : Nat) : Nat ⊕ (Int32 × Nat) := rdK it cn (rdB it cn p)
theorem rdU_C {it : Nat → Int32} {cn n p : Nat} {h : Int32} {q : Nat} (hn : ¬ 24 ≤ n) (hA : rdA it cn p = .inr (h, q)) (hc : tc it cn (skp it cn q) = nI 58) : rdU it cn n p = match rdC it cn (skp it cn q + 1) with | .inl e => .inl e | .inr (b, q2) => .inr ((h, b), q2) := by
  rw [rdU, if_neg hn, hA]
  dsimp only
  rw [if_neg (fun z => z hc), rdC]
  cases rdB it cn (skp it cn q + 1) with
  | inl e => rfl
  | inr x =>
    obtain ⟨b, q2⟩ := x
    dsimp only [rdK]
    split <;> rfl
def rmR (x : Nat ⊕ (Int32 × Nat)) (p : Nat) (rv : Int32) (ap pl : Nat) : Prop := match x with
  | .inl e => rv = -1 ∧ pl = e
  | .inr (v, q) => rv = v ∧ ap = q ∧ pl = p
theorem rm_err {it : Nat → Int32} {cn p : Nat} {rv : Int32} {ap pl : Nat} (h : rmR (rdA it cn p) p rv ap pl) (e : rv = -1) : ∃ z, rdA it cn p = .inl z ∧ pl = z := by
  cases hx : rdA it cn p with
  | inl z => rw [hx] at h; exact ⟨z, rfl, h.2⟩
  | inr x =>
    obtain ⟨v, q⟩ := x
    rw [hx] at h
    exact absurd (h.1.symm.trans e) (isA_ne (rdA_isA hx).1)
theorem rm_ok {it : Nat → Int32} {cn p : Nat} {rv : Int32} {ap pl : Nat} (h : rmR (rdA it cn p) p rv ap pl) (e : ¬ rv = -1) : rdA it cn p = .inr (rv, ap) ∧ isA rv = true ∧ ap ≤ cn ∧ pl = p := by
  cases hx : rdA it cn p with
  | inl z => rw [hx] at h; exact absurd h.1 e
  | inr x =>
    obtain ⟨v, q⟩ := x
    rw [hx] at h
    obtain ⟨h1, h2, h3⟩ := h
    subst h1; subst h2
    exact ⟨rfl, (rdA_isA hx).1, (rdA_isA hx).2.1, h3⟩
def rmB (x : Nat ⊕ (Int32 × Nat)) (rv : Int32) (ap pl : Nat) : Prop := match x with
  | .inl e => rv = -1 ∧ pl = e
  | .inr (v, q) => rv = v ∧ ap = q
theorem rdK_low {it : Nat → Int32} {cn : Nat} {x : Nat ⊕ (Int32 × Nat)} {v : Int32} {q : Nat} (hx : ∀ v q, x = .inr (v, q) → low16 v ∧ q ≤ cn) (h : rdK it cn x = .inr (v, q)) : low16 v ∧ q ≤ cn := by
  cases x with
  | inl e => cases h
  | inr y =>
    obtain ⟨b, q1⟩ := y
    dsimp only [rdK] at h
    split at h
    · cases h
    · rename_i hc
      have hc := Classical.not_not.mp hc
      have l1 := tc_lt hc (by decide)
      cases h
      exact ⟨(hx _ _ rfl).1, l1⟩
theorem rdC_low {it : Nat → Int32} {cn p : Nat} {v : Int32} {q : Nat} (hp : p ≤ cn) (h : rdC it cn p = .inr (v, q)) : low16 v ∧ q ≤ cn := rdK_low (fun v q hq => rdB_low hp hq) h
theorem rc_err {it : Nat → Int32} {cn p : Nat} {rv : Int32} {ap pl : Nat} (hp : p ≤ cn) (h : rmB (rdC it cn p) rv ap pl) (e : rv = -1) : ∃ z, rdC it cn p = .inl z ∧ pl = z := by
  cases hx : rdC it cn p with
  | inl z => rw [hx] at h; exact ⟨z, rfl, h.2⟩
  | inr x =>
    obtain ⟨v, q⟩ := x
    rw [hx] at h
    exact absurd (h.1.symm.trans e) (low16_ne (rdC_low hp hx).1)
theorem rc_ok {it : Nat → Int32} {cn p : Nat} {rv : Int32} {ap pl : Nat} (hp : p ≤ cn) (h : rmB (rdC it cn p) rv ap pl) (e : ¬ rv = -1) : rdC it cn p = .inr (rv, ap) ∧ low16 rv ∧ ap ≤ cn := by
  cases hx : rdC it cn p with
  | inl z => rw [hx] at h; exact absurd h.1 e
  | inr x =>
    obtain ⟨v, q⟩ := x
    rw [hx] at h
    obtain ⟨h1, h2⟩ := h
    subst h1; subst h2
    exact ⟨rfl, (rdC_low hp hx).1, (rdC_low hp hx).2⟩
theorem isD_nat {c : Int32} (h : isD c = true) : ∃ d, d < 10 ∧ c - nI 48 = nI d := by
  have q := of_decide_eq_true h
  have h0 : ¬ c < 0 := fun z => q.1 (by
    rw [Int32.lt_iff_toInt_lt] at z ⊢
    have e1 : (0 : Int32).toInt = 0 := by decide
    have e2 : (nI 48).toInt = 48 := by decide
    omega)
  obtain ⟨m, hm, rfl⟩ := nI_of h0
  have h1 : ¬ m < 48 := fun z => q.1 ((nI_ltI hm (by decide)).mpr z)
  have h2 : ¬ 57 < m := fun z => q.2 ((nI_ltI (by decide) hm).mpr z)
  exact ⟨m - 48, by omega, nI_sub (by omega)⟩
theorem num1_nn {it : Nat → Int32} {cn p : Nat} (h : isD (tc it cn p) = true) : ¬ num1 it cn p < 0 := by
  obtain ⟨d, hd, e⟩ := isD_nat h
  rw [num1, e]
  exact nI_pos (by omega)
theorem num2_nn {it : Nat → Int32} {cn p : Nat} (h : isD (tc it cn p) = true) (h2 : isD (tc it cn (p + 1)) = true) : ¬ num2 it cn p < 0 := by
  obtain ⟨d, hd, e⟩ := isD_nat h
  obtain ⟨d2, hd2, e2⟩ := isD_nat h2
  have e3 : num2 it cn p = nI (d * 10 + d2) := by
    rw [num2, e, nI_mul, Int32.sub_eq_add_neg, Int32.add_assoc, ← Int32.sub_eq_add_neg, e2, nI_add]
  rw [e3]
  exact nI_pos (by omega)
theorem v_1 {it : Nat → Int32} {cn p : Nat} (h : p < cn) : nI 0 + it p - nI 48 = num1 it cn p := by
  rw [num1, tc, if_pos h]
  show 0 + it p - nI 48 = _
  rw [Int32.zero_add]
theorem v_2 {it : Nat → Int32} {cn p : Nat} (h : p + 1 < cn) : nI 10 * num1 it cn p + it (p + 1) - nI 48 = num2 it cn p := by
  rw [num2, num1, Int32.mul_comm, tc.eq_def it cn (p + 1), if_pos h]
theorem isA_nn {v : Int32} (h0 : ¬ v < 0) (h : ¬ nI 16 ≤ v) : isA v = true := decide_eq_true ⟨h0, h⟩
theorem isA_ge {v : Int32} (h : nI 16 ≤ v) : isA v = false := decide_eq_false fun q => q.2 h
theorem nI_ne1 {p : Nat} (h : p < 2 ^ 31) : ¬ nI p = -1 := fun e => absurd (nI_pos h) (fun q => q (by rw [e]; decide))
/-- the text's bytes are no -1 -/
def tOK (it : Nat → Int32) (cn : Nat) : Prop := ∀ p, p < cn → ¬ it p = -1
theorem tc_end {it : Nat → Int32} {cn p : Nat} (h : tOK it cn) (e : tc it cn p = -1) : cn ≤ p := by
  rcases Nat.lt_or_ge p cn with q | q
  · rw [tc, if_pos q] at e
    exact absurd e (h p q)
  · exact q
theorem tc_in {it : Nat → Int32} {cn p : Nat} (e : ¬ tc it cn p = -1) : p < cn := by
  rcases Nat.lt_or_ge p cn with q | q
  · exact q
  · exact absurd (by rw [tc, if_neg (by omega)]) e
theorem tab2_cb (hs bs dh db : Nat → Int32) (n : Nat) : ∀ m, tab2 (cbF hs dh n m) (cbF bs db n m) (n + m) = tab2 hs bs n ++ tab2 dh db m
  | 0 => by rw [cbF_0, cbF_0]; show tab2 hs bs n = tab2 hs bs n ++ []; rw [List.append_nil]
  | m + 1 => by
    rw [← cbF_st, ← cbF_st, show n + (m + 1) = (n + m) + 1 from rfl, tab2_push, tab2_cb hs bs dh db n m, List.append_assoc]
    congr 1
    rw [← tab2_push dh db m (dh m) (db m)]
    exact tab2_cong (fun j _ => by unfold upd; split <;> simp_all) (fun j _ => by unfold upd; split <;> simp_all)
