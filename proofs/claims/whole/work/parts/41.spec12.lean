def prM (s : PS) (qf : Nat → Int32) (qd : Nat) (ff : Nat → Int32) (fm : Nat) : Prop := tab qf qd = s.1 ∧ tab ff fm = s.2.1
theorem prM_q {s : PS} {qf ff : Nat → Int32} {qd fm : Nat} (h : prM s qf qd ff fm) : s.1.length = qd := by rw [← h.1, tab_len]
theorem prM_f {s : PS} {qf ff : Nat → Int32} {qd fm : Nat} (h : prM s qf qd ff fm) : s.2.1.length = fm := by rw [← h.2, tab_len]
theorem tab_succ (f : Nat → Int32) (n : Nat) : tab f (n + 1) = tab f n ++ [f n] := by
  unfold tab
  rw [List.range_succ, List.map_append]
  rfl
theorem mem_t {f : Nat → Int32} {k : Nat} {x : Int32} (h : x ∈ tab f k) : x ∈ tab f (k + 1) := by
  rw [tab_succ]
  exact List.mem_append.mpr (Or.inl h)
theorem mem_e {f : Nat → Int32} {k : Nat} {x : Int32} (h : f k = x) : x ∈ tab f (k + 1) := by
  rw [tab_succ]
  exact List.mem_append.mpr (Or.inr (List.mem_singleton.mpr h.symm))
theorem mem_n {f : Nat → Int32} {k : Nat} {x : Int32} (h : ¬ x ∈ tab f k) (h2 : ¬ f k = x) : ¬ x ∈ tab f (k + 1) := by
  rw [tab_succ]
  intro q
  rcases List.mem_append.mp q with q | q
  · exact h q
  · exact h2 (List.mem_singleton.mp q).symm
theorem prM_yes {hs : Nat → Int32} {r : Nat} {s : PS} {qf ff : Nat → Int32} {qd fm : Nat} (h : prM s qf qd ff fm) (hm : hs r ∈ tab qf qd) : prM (fireP hs r s) qf qd (upd ff fm (nI r)) (fm + 1) := by
  unfold fireP
  rw [if_pos (h.1 ▸ hm)]
  exact ⟨h.1, by rw [tab_push, h.2]⟩
theorem prM_no {hs : Nat → Int32} {r : Nat} {s : PS} {qf ff : Nat → Int32} {qd fm : Nat} (h : prM s qf qd ff fm) (hm : ¬ hs r ∈ tab qf qd) : prM (fireP hs r s) (upd qf qd (hs r)) (qd + 1) (upd ff fm (nI r)) (fm + 1) := by
  unfold fireP
  rw [if_neg (fun q => hm (h.1 ▸ q))]
  exact ⟨by rw [tab_push, h.1], by rw [tab_push, h.2]⟩
theorem prM_nq {s : PS} {x : Int32} {qf ff : Nat → Int32} {qd fm : Nat} (h : prM s qf qd ff fm) (ho : okF s x) (hm : ¬ x ∈ tab qf qd) : qd < 16 := by
  rcases ho.2 with q | q
  · exact absurd (h.1 ▸ q) hm
  · rw [prM_q h] at q; exact q
theorem prM_nf {s : PS} {x : Int32} {qf ff : Nat → Int32} {qd fm : Nat} (h : prM s qf qd ff fm) (ho : okF s x) : fm < 24 := by
  have q := ho.1
  rw [prM_f h] at q; exact q
theorem sz_low {x : Int32} (h : low16 x) : szF x 16 = bc x := by rw [szF_cnt x 16 (by decide), bc_card h]; rfl
theorem fireP_pre (hs : Nat → Int32) (r : Nat) (s : PS) {k : Nat} (hk : k < s.1.length) : (fireP hs r s).1.getD k 0 = s.1.getD k 0 ∧ k < (fireP hs r s).1.length := by
  unfold fireP
  dsimp only
  split
  · exact ⟨rfl, hk⟩
  · refine ⟨?_, by rw [List.length_append]; omega⟩
    rw [List.getD_eq_getElem?_getD, List.getD_eq_getElem?_getD, List.getElem?_append_left hk]
theorem cdP_pre (hs bs : Nat → Int32) (x : Int32) (s : PS) {k : Nat} (hk : k < s.1.length) : ∀ r, (cdP hs bs x s r).1.getD k 0 = s.1.getD k 0 ∧ k < (cdP hs bs x s r).1.length
  | 0 => ⟨rfl, hk⟩
  | r + 1 => by
    have ih := cdP_pre hs bs x s hk r
    rw [cdP]
    split
    · split
      · have h := fireP_pre hs r (setC (cdP hs bs x s r) r ((cdP hs bs x s r).2.2 r - nI 1)) (k := k) ih.2
        exact ⟨h.1.trans ih.1, h.2⟩
      · exact ih
    · exact ih
theorem cd_it {hs bs : Nat → Int32} {x : Int32} {s : PS} {r k : Nat} {qf ff : Nat → Int32} {qd fm : Nat} (h : prM (cdP hs bs x s r) qf qd ff fm) (hk : k < s.1.length) : qf k = s.1.getD k 0 ∧ k < qd := by
  have h1 := cdP_pre hs bs x s hk r
  have h2 : k < qd := by rw [← prM_q h]; exact h1.2
  refine ⟨?_, h2⟩
  rw [← h1.1, ← h.1, tab_get _ h2]
theorem at_shr {y x : Int32} (hx : ∃ a, a < 16 ∧ x = nI a) : (y >>> (x &&& 31)) &&& nI 1 = nI 1 ↔ has y x = true := by
  obtain ⟨a, ha, rfl⟩ := hx
  exact shr_1 (by omega)
theorem run_at {hs bs : Nat → Int32} {n k : Nat} (hn : n ≤ 24) (hH : hOK hs n) (hB : bOK bs n) (hk : k ≤ 16) (hl : k < (runP hs bs n k).1.length) : ∃ a, a < 16 ∧ (runP hs bs n k).1.getD k 0 = nI a := by
  refine (PI_run hn hH (cOK_of hB) k hk).2.1 _ ?_
  rw [List.getD_eq_getElem?_getD, List.getElem?_eq_getElem hl]
  exact List.getElem_mem hl
theorem run_end {hs bs : Nat → Int32} {n k : Nat} (hk : k ≤ 16) (h : (runP hs bs n k).1.length ≤ k) : runP hs bs n 16 = runP hs bs n k := by
  have h9 := runP_stay (hs := hs) (bs := bs) (n := n) (k := k) h (16 - k)
  rw [show k + (16 - k) = 16 from by omega] at h9
  exact h9
theorem prM_set {s : PS} {qf ff : Nat → Int32} {qd fm : Nat} (h : prM s qf qd ff fm) (r : Nat) (x : Int32) : prM (setC s r x) qf qd ff fm := h
