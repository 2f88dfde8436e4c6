/-! the run of propagation as a value: the queue, the rules that fired, the counters -/
abbrev PS : Type := List Int32 × List Int32 × (Nat → Int32)
def fireP (hs : Nat → Int32) (r : Nat) (s : PS) : PS := (if hs r ∈ s.1 then s.1 else s.1 ++ [hs r], s.2.1 ++ [nI r], s.2.2)
def setC (s : PS) (r : Nat) (x : Int32) : PS := (s.1, s.2.1, upd s.2.2 r x)
def factP (hs bs : Nat → Int32) : Nat → PS
  | 0 => ([], [], fun _ => 0)
  | r + 1 => if bc (bs r) = 0 then fireP hs r (setC (factP hs bs r) r (bc (bs r))) else setC (factP hs bs r) r (bc (bs r))
def cdP (hs bs : Nat → Int32) (x : Int32) (s : PS) : Nat → PS
  | 0 => s
  | r + 1 => if has (bs r) x = true then (if (cdP hs bs x s r).2.2 r - nI 1 = 0 then fireP hs r (setC (cdP hs bs x s r) r ((cdP hs bs x s r).2.2 r - nI 1)) else setC (cdP hs bs x s r) r ((cdP hs bs x s r).2.2 r - nI 1)) else cdP hs bs x s r
def runP (hs bs : Nat → Int32) (n : Nat) : Nat → PS
  | 0 => factP hs bs n
  | k + 1 => if k < (runP hs bs n k).1.length then cdP hs bs ((runP hs bs n k).1.getD k 0) (runP hs bs n k) n else runP hs bs n k
def okF (s : PS) (h : Int32) : Prop := s.2.1.length < 24 ∧ (h ∈ s.1 ∨ s.1.length < 16)
def okA (hs bs : Nat → Int32) (n : Nat) : Prop := ∀ r, r < n → bc (bs r) = 0 → okF (factP hs bs r) (hs r)
def okC (hs bs : Nat → Int32) (n : Nat) (x : Int32) (s : PS) : Prop := ∀ r, r < n → has (bs r) x = true → (cdP hs bs x s r).2.2 r - nI 1 = 0 → okF (cdP hs bs x s r) (hs r)
def okR (hs bs : Nat → Int32) (n : Nat) : Prop := okA hs bs n ∧ ∀ k, k < 16 → k < (runP hs bs n k).1.length → okC hs bs n ((runP hs bs n k).1.getD k 0) (runP hs bs n k)
theorem tab_len (f : Nat → Int32) (n : Nat) : (tab f n).length = n := by simp [tab]
theorem tab_get (f : Nat → Int32) {n k : Nat} (h : k < n) : (tab f n).getD k 0 = f k := by simp [tab, h]
theorem tab_push (f : Nat → Int32) (n : Nat) (x : Int32) : tab (upd f n x) (n + 1) = tab f n ++ [x] := by
  unfold tab
  rw [List.range_succ, List.map_append]
  congr 1
  · refine List.map_congr_left fun j hj => ?_
    have hj : j ≠ n := Nat.ne_of_lt (List.mem_range.mp hj)
    simp [upd, hj]
  · simp [upd]
/-- the machine's rows hold the value s -/
def prR (s : PS) (qf : Nat → Int32) (qn : Nat) (ff : Nat → Int32) (fn : Nat) (qa : Int32) : Prop := tab qf qn = s.1 ∧ tab ff fn = s.2.1 ∧ ∀ a, a < 16 → has qa (nI a) = decide (nI a ∈ s.1)
theorem prR_q {s : PS} {qf ff : Nat → Int32} {qn fn : Nat} {qa : Int32} (h : prR s qf qn ff fn qa) : s.1.length = qn := by rw [← h.1, tab_len]
theorem prR_f {s : PS} {qf ff : Nat → Int32} {qn fn : Nat} {qa : Int32} (h : prR s qf qn ff fn qa) : s.2.1.length = fn := by rw [← h.2.1, tab_len]
theorem prR_set {s : PS} {qf ff : Nat → Int32} {qn fn : Nat} {qa : Int32} (h : prR s qf qn ff fn qa) (r : Nat) (x : Int32) : prR (setC s r x) qf qn ff fn qa := h
theorem prR_0 (qf ff : Nat → Int32) : prR ([], [], fun _ => 0) qf 0 ff 0 (nI 0) := ⟨rfl, rfl, fun a ha => by rw [has_bt _ (by omega)]; exact (b_0 a).trans (decide_eq_false (by simp)).symm⟩
theorem prR_yes {hs : Nat → Int32} {r : Nat} {s : PS} {qf ff : Nat → Int32} {qn fn : Nat} {qa : Int32} (h : prR s qf qn ff fn qa) (hh : ∃ a, a < 16 ∧ hs r = nI a) (hc : has qa (hs r) = true) : prR (fireP hs r s) qf qn (upd ff fn (nI r)) (fn + 1) qa := by
  obtain ⟨a, ha, e⟩ := hh
  have hm : hs r ∈ s.1 := by
    rw [e] at hc ⊢
    rw [h.2.2 a ha] at hc
    exact of_decide_eq_true hc
  unfold fireP
  rw [if_pos hm]
  exact ⟨h.1, by rw [tab_push, h.2.1], h.2.2⟩
theorem nI_inj16 {a b : Nat} (ha : a < 16) (hb : b < 16) : nI a = nI b ↔ a = b := nI_eq (by omega) (by omega)
theorem prR_no {hs : Nat → Int32} {r : Nat} {s : PS} {qf ff : Nat → Int32} {qn fn : Nat} {qa : Int32} (h : prR s qf qn ff fn qa) (hh : ∃ a, a < 16 ∧ hs r = nI a) (hc : has qa (hs r) = false) : prR (fireP hs r s) (upd qf qn (hs r)) (qn + 1) (upd ff fn (nI r)) (fn + 1) (qa ||| (nI 1 <<< (hs r &&& 31))) := by
  obtain ⟨a, ha, e⟩ := hh
  have hm : ¬ hs r ∈ s.1 := by
    rw [e] at hc ⊢
    rw [h.2.2 a ha] at hc
    exact of_decide_eq_false hc
  unfold fireP
  rw [if_neg hm]
  refine ⟨by rw [tab_push, h.1], by rw [tab_push, h.2.1], fun i hi => ?_⟩
  rw [e, has_or _ (by omega) (by omega), h.2.2 i hi]
  by_cases e2 : a = i
  · subst e2
    rw [decide_eq_true rfl, Bool.or_true]
    exact (decide_eq_true (by simp)).symm
  · rw [decide_eq_false e2, Bool.or_false]
    refine decide_eq_decide.mpr ?_
    rw [List.mem_append, List.mem_singleton, nI_inj16 hi ha]
    exact ⟨Or.inl, fun q => q.elim id (fun q => absurd q.symm e2)⟩
theorem prR_nq {hs : Nat → Int32} {r : Nat} {s : PS} {qf ff : Nat → Int32} {qn fn : Nat} {qa : Int32} (h : prR s qf qn ff fn qa) (hh : ∃ a, a < 16 ∧ hs r = nI a) (ho : okF s (hs r)) (hc : has qa (hs r) = false) : qn < 16 := by
  obtain ⟨a, ha, e⟩ := hh
  rcases ho.2 with q | q
  · rw [e] at hc q
    rw [h.2.2 a ha, decide_eq_true q] at hc
    cases hc
  · rw [prR_q h] at q; exact q
theorem prR_nf {s : PS} {h0 : Int32} {qf ff : Nat → Int32} {qn fn : Nat} {qa : Int32} (h : prR s qf qn ff fn qa) (ho : okF s h0) : fn < 24 := by
  have q := ho.1
  rw [prR_f h] at q; exact q
theorem fireP_c (hs : Nat → Int32) (r : Nat) (s : PS) : (fireP hs r s).2.2 = s.2.2 := rfl
theorem runP_stay {hs bs : Nat → Int32} {n k : Nat} (h : (runP hs bs n k).1.length ≤ k) : ∀ d, runP hs bs n (k + d) = runP hs bs n k
  | 0 => rfl
  | d + 1 => by
    show (if k + d < (runP hs bs n (k + d)).1.length then _ else runP hs bs n (k + d)) = _
    rw [runP_stay h d, if_neg (by omega)]
theorem factP_c (hs bs : Nat → Int32) (r : Nat) : (factP hs bs (r + 1)).2.2 = upd (factP hs bs r).2.2 r (bc (bs r)) := by
  rw [factP]
  split <;> rfl
theorem fact_c {hs bs ct : Nat → Int32} {r : Nat} (h : ∀ j, j < r → ct j = (factP hs bs r).2.2 j) : ∀ j, j < r + 1 → upd ct r (bc (bs r)) j = (factP hs bs (r + 1)).2.2 j := by
  intro j hj
  rw [factP_c]
  unfold upd
  by_cases e : j = r
  · rw [if_pos e, if_pos e]
  · rw [if_neg e, if_neg e]
    exact h j (by omega)
theorem cd_c {hs bs ct : Nat → Int32} {x : Int32} {s : PS} {r n : Nat} (h : ∀ j, j < n → ct j = (cdP hs bs x s r).2.2 j) (hc : has (bs r) x = true) : ∀ j, j < n → upd ct r ((cdP hs bs x s r).2.2 r - nI 1) j = (cdP hs bs x s (r + 1)).2.2 j := by
  intro j hj
  have e1 : (cdP hs bs x s (r + 1)).2.2 = upd (cdP hs bs x s r).2.2 r ((cdP hs bs x s r).2.2 r - nI 1) := by
    rw [cdP, if_pos hc]
    split <;> rfl
  rw [e1]
  unfold upd
  by_cases e : j = r
  · rw [if_pos e, if_pos e]
  · rw [if_neg e, if_neg e]
    exact h j hj
theorem run_it {s : PS} {qf ff : Nat → Int32} {qn fn k : Nat} {qa : Int32} (h : prR s qf qn ff fn qa) (hk : k < qn) (hq : qn < 2 ^ 31 := by omega) : itm qf qn (nI k) = s.1.getD k 0 := by
  rw [itm, if_pos (hasR_of hk hq), nI_clamp (by omega), ← h.1, tab_get _ hk]
