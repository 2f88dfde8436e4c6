/-! a rule fires at most once, an atom is queued at most once -/
theorem fb_holes : ∀ (m n : Nat) (f : Nat → Nat), (∀ i, i < n → f i < m) → (∀ i j, i < j → j < n → f i ≠ f j) → n ≤ m := by
  intro m
  induction m with
  | zero =>
    intro n f h1 _
    rcases Nat.eq_zero_or_pos n with h | h
    · omega
    · exact absurd (h1 0 h) (Nat.not_lt_zero _)
  | succ m ih =>
    intro n f h1 h2
    by_cases hx : ∃ i, i < n ∧ f i = m
    · obtain ⟨a, ha, hfa⟩ := hx
      have hg := ih (n - 1) (fun i => if i < a then f i else f (i + 1)) (by
        intro i hi
        by_cases q : i < a
        · simp only [if_pos q]
          have b1 := h1 i (by omega)
          have b2 := h2 i a q ha
          omega
        · simp only [if_neg q]
          have b1 := h1 (i + 1) (by omega)
          have b2 := h2 a (i + 1) (by omega) (by omega)
          omega) (by
        intro i j hij hj
        by_cases q : i < a
        · by_cases r : j < a
          · simp only [if_pos q, if_pos r]
            exact h2 i j hij (by omega)
          · simp only [if_pos q, if_neg r]
            exact h2 i (j + 1) (by omega) (by omega)
        · have r : ¬ j < a := by omega
          simp only [if_neg q, if_neg r]
          exact h2 (i + 1) (j + 1) (by omega) (by omega))
      omega
    · have hg := ih n f (fun i hi => by
        have b1 := h1 i hi
        have b2 : f i ≠ m := fun e => hx ⟨i, hi, e⟩
        omega) h2
      omega
theorem nd_len {l : List Int32} {m : Nat} (hm : m ≤ 2 ^ 31) (h : l.Nodup) (h2 : ∀ x ∈ l, ∃ a, a < m ∧ x = nI a) : l.length ≤ m := by
  have key : ∀ i, i < l.length → ∃ a, a < m ∧ l.getD i 0 = nI a := fun i hi => by
    refine h2 (l.getD i 0) ?_
    rw [List.getD_eq_getElem?_getD, List.getElem?_eq_getElem hi]
    exact List.getElem_mem hi
  refine fb_holes m l.length (fun i => (l.getD i 0).toNatClampNeg) (fun i hi => ?_) (fun i j hij hj heq => ?_)
  · obtain ⟨a, ha, ea⟩ := key i hi
    show (l.getD i 0).toNatClampNeg < m
    rw [ea, nI_clamp (by omega)]
    exact ha
  · have hi : i < l.length := by omega
    obtain ⟨a, ha, ea⟩ := key i hi
    obtain ⟨b, hb, eb⟩ := key j hj
    have e1 : (l.getD i 0).toNatClampNeg = a := by rw [ea, nI_clamp (by omega)]
    have e2 : (l.getD j 0).toNatClampNeg = b := by rw [eb, nI_clamp (by omega)]
    have e3 : a = b := e1.symm.trans (heq.trans e2)
    have e4 : l.getD i 0 = l.getD j 0 := ea.trans ((congrArg nI e3).trans eb.symm)
    rw [List.getD_eq_getElem?_getD, List.getElem?_eq_getElem hi, List.getD_eq_getElem?_getD, List.getElem?_eq_getElem hj] at e4
    exact (List.pairwise_iff_getElem.mp h) i j hi hj hij e4
theorem nd_push {l : List Int32} {x : Int32} (h : l.Nodup) (hx : ¬ x ∈ l) : (l ++ [x]).Nodup := by
  refine List.nodup_append.mpr ⟨h, by simp, fun a ha b hb e => ?_⟩
  rw [List.mem_singleton.mp hb] at e
  exact hx (e ▸ ha)
/-- what holds of the run's values: k atoms have been taken, rules below m may have fired -/
def PI (m k : Nat) (s : PS) : Prop := s.1.Nodup ∧ (∀ x ∈ s.1, ∃ a, a < 16 ∧ x = nI a) ∧ s.2.1.Nodup ∧ (∀ x ∈ s.2.1, ∃ r, r < m ∧ x = nI r) ∧ (∀ r, r < 24 → nI r ∈ s.2.1 → (s.2.2 r).toInt ≤ 0) ∧ ∀ r, -(k : Int) ≤ (s.2.2 r).toInt ∧ (s.2.2 r).toInt ≤ 64
theorem PI_ok {m k n r : Nat} {s : PS} {hs : Nat → Int32} (h : PI m k s) (hm : m ≤ n) (hn : n ≤ 24) (hr : r < n) (hh : ∃ a, a < 16 ∧ hs r = nI a) (hf : ¬ nI r ∈ s.2.1) : okF s (hs r) := by
  obtain ⟨h1, h2, h3, h4, -⟩ := h
  constructor
  · have l1 := nd_len (m := n) (by omega) (nd_push h3 hf) (fun x hx => by
      rcases List.mem_append.mp hx with q | q
      · obtain ⟨r', hr', e⟩ := h4 x q
        exact ⟨r', by omega, e⟩
      · exact ⟨r, hr, List.mem_singleton.mp q⟩)
    rw [List.length_append] at l1
    have : [nI r].length = 1 := rfl
    omega
  · by_cases q : hs r ∈ s.1
    · exact Or.inl q
    · right
      have l1 := nd_len (m := 16) (by omega) (nd_push h1 q) (fun x hx => by
        rcases List.mem_append.mp hx with q | q
        · exact h2 x q
        · rw [List.mem_singleton.mp q]; exact hh)
      rw [List.length_append] at l1
      have : [hs r].length = 1 := rfl
      omega
theorem PI_fire {m k n r : Nat} {s : PS} {hs : Nat → Int32} (h : PI m k s) (hr : r < m) (hm : m ≤ 24) (hh : ∃ a, a < 16 ∧ hs r = nI a) (hf : ¬ nI r ∈ s.2.1) (hc : (s.2.2 r).toInt ≤ 0) : PI m k (fireP hs r s) := by
  obtain ⟨h1, h2, h3, h4, h5, h6⟩ := h
  unfold fireP
  refine ⟨?_, ?_, nd_push h3 hf, ?_, ?_, h6⟩
  · dsimp only
    split
    · exact h1
    · exact nd_push h1 (by assumption)
  · dsimp only
    split
    · exact h2
    · intro x hx
      rcases List.mem_append.mp hx with q | q
      · exact h2 x q
      · rw [List.mem_singleton.mp q]; exact hh
  · intro x hx
    rcases List.mem_append.mp hx with q | q
    · exact h4 x q
    · exact ⟨r, hr, List.mem_singleton.mp q⟩
  · intro r' hr' q
    rcases List.mem_append.mp q with q | q
    · exact h5 r' hr' q
    · have e := List.mem_singleton.mp q
      rw [nI_eq (by omega) (by omega)] at e
      subst e
      exact hc
theorem PI_wide {m m2 k k2 : Nat} {s : PS} (h : PI m k s) (hm : m ≤ m2) (hk : k ≤ k2) : PI m2 k2 s := by
  obtain ⟨h1, h2, h3, h4, h5, h6⟩ := h
  exact ⟨h1, h2, h3, fun x hx => by obtain ⟨r, hr, e⟩ := h4 x hx; exact ⟨r, by omega, e⟩, h5, fun r => ⟨by have := (h6 r).1; omega, (h6 r).2⟩⟩
/-- bit counts are small numbers -/
def cOK (bs : Nat → Int32) (n : Nat) : Prop := ∀ j, j < n → 0 ≤ (bc (bs j)).toInt ∧ (bc (bs j)).toInt ≤ 64
theorem PI_fact {hs bs : Nat → Int32} {n : Nat} (hn : n ≤ 24) (hH : hOK hs n) (hC : cOK bs n) : ∀ r, r ≤ n → PI r 0 (factP hs bs r)
  | 0, _ => ⟨List.nodup_nil, fun x h => absurd h List.not_mem_nil, List.nodup_nil, fun x h => absurd h List.not_mem_nil, fun r _ h => absurd h List.not_mem_nil, fun r => by show -((0 : Nat) : Int) ≤ (0 : Int32).toInt ∧ (0 : Int32).toInt ≤ 64; decide⟩
  | r + 1, h => by
    have ih := PI_fact hn hH hC r (by omega)
    obtain ⟨h1, h2, h3, h4, h5, h6⟩ := ih
    have hf : ¬ nI r ∈ (factP hs bs r).2.1 := fun q => by
      obtain ⟨r', hr', e⟩ := h4 _ q
      rw [nI_eq (by omega) (by omega)] at e
      omega
    have hs2 : PI (r + 1) 0 (setC (factP hs bs r) r (bc (bs r))) := by
      refine ⟨h1, h2, h3, fun x hx => by obtain ⟨r', hr', e⟩ := h4 x hx; exact ⟨r', by omega, e⟩, fun r' hr' q => ?_, fun r' => ?_⟩
      · show (upd _ r _ r').toInt ≤ 0
        unfold upd
        by_cases e : r' = r
        · subst e; exact absurd q hf
        · rw [if_neg e]; exact h5 r' hr' q
      · show -((0 : Nat) : Int) ≤ (upd _ r _ r').toInt ∧ (upd _ r _ r').toInt ≤ 64
        unfold upd
        by_cases e : r' = r
        · rw [if_pos e]
          have := hC r (by omega)
          omega
        · rw [if_neg e]; exact h6 r'
    rw [factP]
    split
    · rename_i hz
      refine PI_fire (n := n) hs2 (Nat.lt_succ_self r) (by omega) (hH r (by omega)) hf ?_
      show (upd _ r _ r).toInt ≤ 0
      unfold upd
      rw [if_pos rfl, hz]
      decide
    · exact hs2
theorem okA_of {hs bs : Nat → Int32} {n : Nat} (hn : n ≤ 24) (hH : hOK hs n) (hC : cOK bs n) : okA hs bs n := by
  intro r hr _
  have h := PI_fact hn hH hC r (by omega)
  refine PI_ok h (by omega) hn hr (hH r hr) (fun q => ?_)
  obtain ⟨r', hr', e⟩ := h.2.2.2.1 _ q
  rw [nI_eq (by omega) (by omega)] at e
  omega
theorem dec_int {c : Int32} {k : Nat} (hk : k ≤ 16) (h : -(k : Int) ≤ c.toInt ∧ c.toInt ≤ 64) : (c - nI 1).toInt = c.toInt - 1 := by
  rw [Int32.toInt_sub]
  have e : (nI 1).toInt = 1 := by decide
  rw [e]
  exact Int.bmod_eq_of_le (by omega) (by omega)
/-- the count-down up to rule r: below r one less at most -/
def PJ (n k r : Nat) (s : PS) : Prop := s.1.Nodup ∧ (∀ x ∈ s.1, ∃ a, a < 16 ∧ x = nI a) ∧ s.2.1.Nodup ∧ (∀ x ∈ s.2.1, ∃ r, r < n ∧ x = nI r) ∧ (∀ r, r < 24 → nI r ∈ s.2.1 → (s.2.2 r).toInt ≤ 0) ∧ ∀ j, (if j < r then -((k + 1 : Nat) : Int) else -(k : Int)) ≤ (s.2.2 j).toInt ∧ (s.2.2 j).toInt ≤ 64
theorem PJ_PI {n k r : Nat} {s : PS} (h : PJ n k r s) : PI n (k + 1) s := by
  obtain ⟨h1, h2, h3, h4, h5, h6⟩ := h
  refine ⟨h1, h2, h3, h4, h5, fun j => ?_⟩
  have := h6 j
  split at this <;> omega
theorem PJ_step {hs bs : Nat → Int32} {n k r : Nat} {x : Int32} {s : PS} (hn : n ≤ 24) (hk : k ≤ 15) (hH : hOK hs n) (hr : r < n) (h : PJ n k r (cdP hs bs x s r)) : PJ n k (r + 1) (cdP hs bs x s (r + 1)) ∧ (has (bs r) x = true → (cdP hs bs x s r).2.2 r - nI 1 = 0 → ¬ nI r ∈ (cdP hs bs x s r).2.1) := by
  have hpi := PJ_PI h
  obtain ⟨h1, h2, h3, h4, h5, h6⟩ := h
  have hb := h6 r
  rw [if_neg (Nat.lt_irrefl r)] at hb
  have hd := dec_int (by omega) hb
  have hnf : (cdP hs bs x s r).2.2 r - nI 1 = 0 → ¬ nI r ∈ (cdP hs bs x s r).2.1 := fun hz q => by
    have := h5 r (by omega) q
    rw [hz] at hd
    have e0 : (0 : Int32).toInt = 0 := by decide
    omega
  have hset : PJ n k (r + 1) (setC (cdP hs bs x s r) r ((cdP hs bs x s r).2.2 r - nI 1)) := by
    refine ⟨h1, h2, h3, h4, fun r' hr' q => ?_, fun j => ?_⟩
    · show (upd _ r _ r').toInt ≤ 0
      unfold upd
      by_cases e : r' = r
      · subst e
        rw [if_pos rfl, hd]
        have := h5 r' hr' q
        omega
      · rw [if_neg e]; exact h5 r' hr' q
    · show _ ≤ (upd _ r _ j).toInt ∧ (upd _ r _ j).toInt ≤ 64
      unfold upd
      by_cases e : j = r
      · subst e
        rw [if_pos rfl, hd, if_pos (Nat.lt_succ_self j)]
        omega
      · rw [if_neg e]
        have := h6 j
        by_cases q : j < r
        · rw [if_pos q] at this; rw [if_pos (by omega)]; exact this
        · rw [if_neg q] at this; rw [if_neg (by omega)]; exact this
  refine ⟨?_, fun _ => hnf⟩
  rw [cdP]
  split
  · split
    · rename_i hz
      have hf := hnf hz
      have hcr : ((setC (cdP hs bs x s r) r ((cdP hs bs x s r).2.2 r - nI 1)).2.2 r).toInt ≤ 0 := by
        show (upd _ r _ r).toInt ≤ 0
        unfold upd
        rw [if_pos rfl, hz]
        decide
      have hp := PI_fire (n := n) (hs := hs) (r := r) (PJ_PI hset) hr hn (hH r hr) hf hcr
      obtain ⟨g1, g2, g3, g4, g5, -⟩ := hp
      exact ⟨g1, g2, g3, g4, g5, hset.2.2.2.2.2⟩
    · exact hset
  · refine ⟨h1, h2, h3, h4, h5, fun j => ?_⟩
    have := h6 j
    by_cases q : j < r
    · rw [if_pos q] at this; rw [if_pos (by omega)]; exact this
    · rw [if_neg q] at this
      by_cases e : j < r + 1
      · rw [if_pos e]; omega
      · rw [if_neg e]; exact this
theorem PJ_all {hs bs : Nat → Int32} {n k : Nat} {x : Int32} {s : PS} (hn : n ≤ 24) (hk : k ≤ 15) (hH : hOK hs n) (h : PI n k s) : ∀ r, r ≤ n → PJ n k r (cdP hs bs x s r)
  | 0, _ => ⟨h.1, h.2.1, h.2.2.1, h.2.2.2.1, h.2.2.2.2.1, fun j => by rw [if_neg (Nat.not_lt_zero j)]; exact h.2.2.2.2.2 j⟩
  | r + 1, hr => (PJ_step hn hk hH hr (PJ_all hn hk hH h r (by omega))).1
theorem okC_of {hs bs : Nat → Int32} {n k : Nat} {x : Int32} {s : PS} (hn : n ≤ 24) (hk : k ≤ 15) (hH : hOK hs n) (h : PI n k s) : okC hs bs n x s := by
  intro r hr h1 h2
  have hj := PJ_all (bs := bs) (x := x) hn hk hH h r (by omega)
  exact PI_ok (PJ_PI hj) (Nat.le_refl n) hn hr (hH r hr) ((PJ_step hn hk hH hr hj).2 h1 h2)
theorem PI_run {hs bs : Nat → Int32} {n : Nat} (hn : n ≤ 24) (hH : hOK hs n) (hC : cOK bs n) : ∀ k, k ≤ 16 → PI n k (runP hs bs n k)
  | 0, _ => PI_wide (PI_fact hn hH hC n (Nat.le_refl n)) (Nat.le_refl n) (Nat.le_refl 0)
  | k + 1, h => by
    have ih := PI_run hn hH hC k (by omega)
    rw [runP]
    split
    · exact PJ_PI (PJ_all hn (by omega) hH ih n (Nat.le_refl n))
    · exact PI_wide ih (Nat.le_refl n) (by omega)
theorem okR_of {hs bs : Nat → Int32} {n : Nat} (hn : n ≤ 24) (hH : hOK hs n) (hC : cOK bs n) : okR hs bs n :=
  ⟨okA_of hn hH hC, fun k hk _ => okC_of hn (by omega) hH (PI_run hn hH hC k (by omega))⟩
