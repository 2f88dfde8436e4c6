/-! the reference's saved states -/
def msnap (f : Nat → Int32) : SS := (tab2 (fun j => f (2 + j)) (fun j => f (26 + j)) (f 0).toNatClampNeg, f 1)
def blk (sv : Nat → Int32) (i : Nat) : Nat → Int32 := fun j => sv (50 * i + j)
def msv (sv : Nat → Int32) (k : Nat) : List SS := (List.range k).map (fun i => msnap (blk sv i))
/-- each saved state has at most 24 rules -/
def n24 (x : Int32) : Prop := ∃ m, m ≤ 24 ∧ x = nI m
theorem n24_c {x : Int32} (h : n24 x) : x.toNatClampNeg ≤ 24 := by
  obtain ⟨m, hm, rfl⟩ := h
  rw [nI_clamp (by omega)]
  exact hm
def svOK (sv : Nat → Int32) (k : Nat) : Prop := ∀ i, i < k → n24 (sv (50 * i))
theorem msv_len (sv : Nat → Int32) (k : Nat) : (msv sv k).length = k := by simp [msv]
theorem tab2_cong {f f2 g g2 : Nat → Int32} {n : Nat} (h1 : ∀ j, j < n → f j = g j) (h2 : ∀ j, j < n → f2 j = g2 j) : tab2 f f2 n = tab2 g g2 n := by
  unfold tab2
  refine List.map_congr_left fun j hj => ?_
  have hj := List.mem_range.mp hj
  show (f j, f2 j) = (g j, g2 j)
  rw [h1 j hj, h2 j hj]
theorem msnap_cong {f g : Nat → Int32} (h : ∀ j, j < 50 → f j = g j) (h0 : (f 0).toNatClampNeg ≤ 24) : msnap f = msnap g := by
  unfold msnap
  rw [← h 0 (by decide), ← h 1 (by decide)]
  refine Prod.ext ?_ rfl
  exact tab2_cong (fun j hj => h _ (by omega)) (fun j hj => h _ (by omega))
theorem msnap_mA {av hs bs : Nat → Int32} {n : Nat} {a : Int32} (h : mA av hs bs n a) (hn : n ≤ 24) : msnap av = (tab2 hs bs n, a) := by
  unfold msnap
  rw [h.1, h.2.1, nI_clamp (by omega)]
  refine Prod.ext ?_ rfl
  exact tab2_cong h.2.2.1 h.2.2.2
def sfF (sv : Nat → Int32) (k : Nat) : Nat → Int32 := fun j => if j < k then sv (j + 50) else sv j
theorem sfF_0 (sv : Nat → Int32) : sfF sv 0 = sv := by
  funext j
  unfold sfF
  rw [if_neg (by omega)]
theorem sfF_at (sv : Nat → Int32) (k : Nat) : sfF sv k (k + 50) = sv (k + 50) := by
  unfold sfF
  rw [if_neg (by omega)]
theorem sfF_st (sv : Nat → Int32) (k : Nat) : upd (sfF sv k) k (sv (k + 50)) = sfF sv (k + 1) := by
  funext j
  unfold upd sfF
  by_cases hj : j = k
  · subst hj
    rw [if_pos rfl, if_pos (by omega)]
  · rw [if_neg hj]
    by_cases h2 : j < k
    · rw [if_pos h2, if_pos (by omega)]
    · rw [if_neg h2, if_neg (by omega)]
/-- k places of av over sv, from base on -/
def cbF (sv av : Nat → Int32) (base k : Nat) : Nat → Int32 := fun j => if base ≤ j ∧ j < base + k then av (j - base) else sv j
theorem cbF_0 (sv av : Nat → Int32) (base : Nat) : cbF sv av base 0 = sv := by
  funext j
  unfold cbF
  rw [if_neg (by omega)]
theorem cbF_st (sv av : Nat → Int32) (base k : Nat) : upd (cbF sv av base k) (base + k) (av k) = cbF sv av base (k + 1) := by
  funext j
  unfold upd cbF
  by_cases hj : j = base + k
  · subst hj
    rw [if_pos rfl, if_pos (by omega), show base + k - base = k from by omega]
  · rw [if_neg hj]
    by_cases h2 : base ≤ j ∧ j < base + k
    · rw [if_pos h2, if_pos (by omega)]
    · rw [if_neg h2, if_neg (by omega)]
theorem msv_put {sv av : Nat → Int32} {k : Nat} (hk : k < 4) (hs : svOK sv k) (h0 : n24 (av 0)) : msv (cbF sv av (50 * k) 50) (k + 1) = svP (msv sv k) (msnap av) ∧ svOK (cbF sv av (50 * k) 50) (k + 1) := by
  have ha : ∀ j, j < 50 → blk (cbF sv av (50 * k) 50) k j = av j := fun j hj => by
    show cbF sv av (50 * k) 50 (50 * k + j) = av j
    unfold cbF
    rw [if_pos (by omega), show 50 * k + j - 50 * k = j from by omega]
  have hb : ∀ i, i < k → ∀ j, j < 50 → blk (cbF sv av (50 * k) 50) i j = blk sv i j := fun i hi j hj => by
    show cbF sv av (50 * k) 50 (50 * i + j) = sv (50 * i + j)
    unfold cbF
    rw [if_neg (by omega)]
  constructor
  · unfold svP
    rw [if_pos (by rw [msv_len]; exact hk)]
    unfold msv
    rw [List.range_succ, List.map_append]
    congr 1
    · refine List.map_congr_left fun i hi => ?_
      have hi := List.mem_range.mp hi
      refine msnap_cong (hb i hi) ?_
      rw [hb i hi 0 (by decide)]
      exact n24_c (hs i hi)
    · show [msnap _] = [msnap _]
      rw [msnap_cong ha (by rw [ha 0 (by decide)]; exact n24_c h0)]
  · intro i hi
    by_cases e : i = k
    · subst e
      rw [show cbF sv av (50 * i) 50 (50 * i) = av 0 from ha 0 (by decide)]
      exact h0
    · rw [show cbF sv av (50 * k) 50 (50 * i) = sv (50 * i) from hb i (by omega) 0 (by decide)]
      exact hs i (by omega)
theorem msv_rot {sv av : Nat → Int32} (hs : svOK sv 4) (h0 : n24 (av 0)) : msv (cbF (sfF sv 150) av (50 * 3) 50) 4 = svP (msv sv 4) (msnap av) ∧ svOK (cbF (sfF sv 150) av (50 * 3) 50) 4 := by
  have hb : ∀ i, i < 3 → ∀ j, j < 50 → blk (sfF sv 150) i j = blk sv (i + 1) j := fun i hi j hj => by
    show sfF sv 150 (50 * i + j) = sv (50 * (i + 1) + j)
    unfold sfF
    rw [if_pos (by omega)]
    congr 1
    omega
  have h3 : svOK (sfF sv 150) 3 := fun i hi => by
    rw [show sfF sv 150 (50 * i) = sv (50 * (i + 1)) from hb i hi 0 (by decide)]
    exact hs (i + 1) (by omega)
  obtain ⟨h4, h5⟩ := msv_put (sv := sfF sv 150) (av := av) (k := 3) (by decide) h3 h0
  refine ⟨?_, h5⟩
  rw [h4]
  unfold svP
  rw [if_pos (by rw [msv_len]; decide), if_neg (by rw [msv_len]; decide)]
  congr 1
  show [msnap _, msnap _, msnap _] = [msnap _, msnap _, msnap _]
  rw [msnap_cong (hb 0 (by decide)) (n24_c (h3 0 (by decide))), msnap_cong (hb 1 (by decide)) (n24_c (h3 1 (by decide))), msnap_cong (hb 2 (by decide)) (n24_c (h3 2 (by decide)))]
theorem msv_last (sv : Nat → Int32) {k : Nat} (h : 0 < k) : (msv sv k).getLast? = some (msnap (blk sv (k - 1))) := by
  obtain ⟨j, rfl⟩ : ∃ j, k = j + 1 := ⟨k - 1, by omega⟩
  unfold msv
  rw [List.range_succ, List.map_append]
  simp
theorem msv_drop (sv : Nat → Int32) {k : Nat} (h : 0 < k) : (msv sv k).dropLast = msv sv (k - 1) := by
  obtain ⟨j, rfl⟩ : ∃ j, k = j + 1 := ⟨k - 1, by omega⟩
  unfold msv
  rw [List.range_succ, List.map_append]
  simp
/-- a rule more -/
def adF (av : Nat → Int32) (n : Nat) (h y : Int32) : Nat → Int32 := upd (upd (upd av (2 + n) h) (26 + n) y) 0 (nI (n + 1))
theorem adF_mA {av hs bs : Nat → Int32} {n : Nat} {a h y : Int32} (hm : mA av hs bs n a) (hn : n < 24) : mA (adF av n h y) (upd hs n h) (upd bs n y) (n + 1) a := by
  refine ⟨?_, ?_, fun j hj => ?_, fun j hj => ?_⟩
  · simp [adF, upd]
  · unfold adF upd
    rw [if_neg (by decide), if_neg (by omega), if_neg (by omega)]
    exact hm.2.1
  · unfold adF upd
    rw [if_neg (by omega), if_neg (by omega)]
    by_cases e : j = n
    · rw [if_pos (by omega), if_pos e]
    · rw [if_neg (by omega), if_neg e]
      exact hm.2.2.1 j (by omega)
  · unfold adF upd
    rw [if_neg (by omega)]
    by_cases e : j = n
    · rw [if_pos (by omega), if_pos e]
    · rw [if_neg (by omega), if_neg (by omega), if_neg e]
      exact hm.2.2.2 j (by omega)
/-- heads and bodies from r on moved down by one, as far as place k -/
def r2F (av : Nat → Int32) (r k : Nat) : Nat → Int32 := fun j => if (2 + r ≤ j ∧ j < 2 + k) ∨ (26 + r ≤ j ∧ j < 26 + k) then av (j + 1) else av j
theorem r2F_0 (av : Nat → Int32) (r : Nat) : r2F av r r = av := by
  funext j
  unfold r2F
  rw [if_neg (by omega)]
theorem r2F_a (av : Nat → Int32) {r k : Nat} (h : r ≤ k) (hk : k < 23) : r2F av r k (2 + k + 1) = av (2 + k + 1) := by
  unfold r2F
  rw [if_neg (by omega)]
theorem r2F_b (av : Nat → Int32) {r k : Nat} (h : r ≤ k) (hk : k < 23) : upd (r2F av r k) (2 + k) (av (2 + k + 1)) (26 + k + 1) = av (26 + k + 1) := by
  unfold upd r2F
  rw [if_neg (by omega), if_neg (by omega)]
theorem r2F_st (av : Nat → Int32) {r k : Nat} (h : r ≤ k) (hk : k < 23) : upd (upd (r2F av r k) (2 + k) (av (2 + k + 1))) (26 + k) (av (26 + k + 1)) = r2F av r (k + 1) := by
  funext j
  unfold upd r2F
  by_cases e : j = 26 + k
  · subst e
    rw [if_pos rfl, if_pos (by omega)]
  · rw [if_neg e]
    by_cases e2 : j = 2 + k
    · subst e2
      rw [if_pos rfl, if_pos (by omega)]
    · rw [if_neg e2]
      by_cases q : (2 + r ≤ j ∧ j < 2 + k) ∨ (26 + r ≤ j ∧ j < 26 + k)
      · rw [if_pos q, if_pos (by omega)]
      · rw [if_neg q, if_neg (by omega)]
theorem r2F_mA {av hs bs : Nat → Int32} {n r : Nat} {a : Int32} (hm : mA av hs bs n a) (hn : n ≤ 24) (hr : r < n) : mA (upd (r2F av r 23) 0 (nI (n - 1))) (rmF hs r n) (rmF bs r n) (n - 1) a := by
  refine ⟨?_, ?_, fun j hj => ?_, fun j hj => ?_⟩
  · simp [upd]
  · unfold upd r2F
    rw [if_neg (by decide), if_neg (by omega)]
    exact hm.2.1
  · unfold upd r2F rmF
    rw [if_neg (by omega)]
    by_cases q : r ≤ j
    · rw [if_pos (by omega), if_pos (by omega), ← hm.2.2.1 (j + 1) (by omega)]
      rfl
    · rw [if_neg (by omega), if_neg (by omega)]
      exact hm.2.2.1 j (by omega)
  · unfold upd r2F rmF
    rw [if_neg (by omega)]
    by_cases q : r ≤ j
    · rw [if_pos (by omega), if_pos (by omega), ← hm.2.2.2 (j + 1) (by omega)]
      rfl
    · rw [if_neg (by omega), if_neg (by omega)]
      exact hm.2.2.2 j (by omega)
theorem asm_mA {av hs bs : Nat → Int32} {n : Nat} {a x : Int32} (hm : mA av hs bs n a) (hn : n ≤ 24) : mA (upd av 1 x) hs bs n x := by
  refine ⟨?_, by simp [upd], fun j hj => ?_, fun j hj => ?_⟩
  · unfold upd
    rw [if_neg (by decide)]
    exact hm.1
  · unfold upd
    rw [if_neg (by omega)]
    exact hm.2.2.1 j hj
  · unfold upd
    rw [if_neg (by omega)]
    exact hm.2.2.2 j hj
theorem und_mA (av sv : Nat → Int32) {b : Nat} (h : n24 (sv (50 * b))) : mA (cbF av (blk sv b) 0 50) (fun j => sv (50 * b + (2 + j))) (fun j => sv (50 * b + (26 + j))) (sv (50 * b)).toNatClampNeg (sv (50 * b + 1)) := by
  have ha : ∀ j, j < 50 → cbF av (blk sv b) 0 50 j = sv (50 * b + j) := fun j hj => by
    unfold cbF
    rw [if_pos (by omega)]
    rfl
  have h24 := n24_c h
  refine ⟨?_, ha 1 (by decide), fun j hj => ha _ (by omega), fun j hj => ha _ (by omega)⟩
  rw [ha 0 (by decide)]
  obtain ⟨m, hm, e⟩ := h
  show sv (50 * b) = _
  rw [e, nI_clamp (by omega)]
theorem mA_tab {av hs bs hs2 bs2 : Nat → Int32} {n n2 : Nat} {a : Int32} (h : mA av hs2 bs2 n2 a) (e : tab2 hs2 bs2 n2 = tab2 hs bs n) : mA av hs bs n a := by
  have hn : n2 = n := by
    have := congrArg List.length e
    rw [tab2_len, tab2_len] at this
    exact this
  subst hn
  have hj : ∀ j, j < n2 → hs2 j = hs j ∧ bs2 j = bs j := fun j hj => by
    have h1 := congrArg (fun l => l[j]?) e
    simp only [tab2, List.getElem?_map, List.getElem?_range hj, Option.map_some, Option.some.injEq, Prod.mk.injEq] at h1
    exact h1
  exact ⟨h.1, h.2.1, fun j q => by rw [h.2.2.1 j q, (hj j q).1], fun j q => by rw [h.2.2.2 j q, (hj j q).2]⟩
theorem nI_mul (a b : Nat) : nI a * nI b = nI (a * b) := (Int32.ofNat_mul a b).symm
