theorem gs_fin {hs bs : Nat → Int32} {n k : Nat} (hH : hOK hs n) {R F x3 x4 : Int32} (hF : low16 F) (e3 : x3 = pw (fun x => gsF hs bs R x n) k F) (hh : (k = 0 ∧ x4 = -1) ∨ ∃ j, k = j + 1 ∧ x4 = pw (fun x => gsF hs bs R x n) j F) (c : x4 = x3) : x3 = clo hs bs n R F := by
  rcases hh with ⟨hk, h4⟩ | ⟨j, hk, h4⟩
  · subst hk
    exact absurd (show F = -1 from by rw [← h4, c, e3]; rfl) (low16_ne hF)
  · subst hk
    have h5 : pw (fun x => gsF hs bs R x n) j F = gsF hs bs R (pw (fun x => gsF hs bs R x n) j F) n := h4.symm.trans (c.trans e3)
    rw [← c, h4]
    exact gs_clo hH hF h5.symm
theorem gs_more {hs bs : Nat → Int32} {n k : Nat} (hH : hOK hs n) {R F x3 x4 : Int32} (hF : low16 F) (e3 : x3 = pw (fun x => gsF hs bs R x n) k F) (hh : (k = 0 ∧ x4 = -1) ∨ ∃ j, k = j + 1 ∧ x4 = pw (fun x => gsF hs bs R x n) j F) (c : ¬ x4 = x3) : k + 1 ≤ 17 := by
  rcases hh with ⟨hk, h4⟩ | ⟨j, hk, h4⟩
  · omega
  · subst hk
    rw [h4, e3] at c
    have := pw_early (f := fun x => gsF hs bs R x n) (gs_stop hH hF) c
    omega
theorem dg_fin {hs bs : Nat → Int32} {n a k : Nat} (hH : hOK hs n) (hB : bOK bs n) (ha : a < 16) {x3 x4 : Int32} (e3 : x3 = pw (fun x => dgF hs bs a x n) k (nI 0)) (hh : (k = 0 ∧ x4 = -1) ∨ ∃ j, k = j + 1 ∧ x4 = pw (fun x => dgF hs bs a x n) j (nI 0)) (c : x4 = x3) : x3 = depS hs bs n a := by
  rcases hh with ⟨hk, h4⟩ | ⟨j, hk, h4⟩
  · subst hk
    rw [h4, e3] at c
    exact absurd (show (-1 : Int32) = nI 0 from c) (by decide)
  · subst hk
    have h5 : pw (fun x => dgF hs bs a x n) j (nI 0) = dgF hs bs a (pw (fun x => dgF hs bs a x n) j (nI 0)) n := h4.symm.trans (c.trans e3)
    rw [← c, h4]
    exact dg_dep hH hB ha h5.symm
theorem dg_more {hs bs : Nat → Int32} {n a k : Nat} (hB : bOK bs n) {x3 x4 : Int32} (e3 : x3 = pw (fun x => dgF hs bs a x n) k (nI 0)) (hh : (k = 0 ∧ x4 = -1) ∨ ∃ j, k = j + 1 ∧ x4 = pw (fun x => dgF hs bs a x n) j (nI 0)) (c : ¬ x4 = x3) : k + 1 ≤ 17 := by
  rcases hh with ⟨hk, h4⟩ | ⟨j, hk, h4⟩
  · omega
  · subst hk
    rw [h4, e3] at c
    have := pw_early (f := fun x => dgF hs bs a x n) (dg_stop hB a) c
    omega
theorem ov0_low {hs bs : Nat → Int32} {n d : Nat} (hH : hOK hs n) (hd : d < n) (M : Int32) : low16 (ov0 hs bs M d) := by
  unfold ov0
  split
  · exact low16_hd hH hd
  · exact low16_0
theorem ov_fin {hs bs : Nat → Int32} {n d k : Nat} (hH : hOK hs n) (hd : d < n) {x3 x4 : Int32} (e3 : x3 = pw (fun x => ovdF hs bs (mdl hs bs n) d x n) k (ov0 hs bs (mdl hs bs n) d)) (hh : (k = 0 ∧ x4 = -1) ∨ ∃ j, k = j + 1 ∧ x4 = pw (fun x => ovdF hs bs (mdl hs bs n) d x n) j (ov0 hs bs (mdl hs bs n) d)) (c : x4 = x3) : x3 = ovd hs bs n d := by
  rcases hh with ⟨hk, h4⟩ | ⟨j, hk, h4⟩
  · subst hk
    exact absurd (show ov0 hs bs (mdl hs bs n) d = -1 from by rw [← h4, c, e3]; rfl) (low16_ne (ov0_low hH hd _))
  · subst hk
    have h5 : pw (fun x => ovdF hs bs (mdl hs bs n) d x n) j (ov0 hs bs (mdl hs bs n) d) = ovdF hs bs (mdl hs bs n) d (pw (fun x => ovdF hs bs (mdl hs bs n) d x n) j (ov0 hs bs (mdl hs bs n) d)) n := h4.symm.trans (c.trans e3)
    rw [← c, h4]
    exact ovd_end hH hd h5.symm
theorem ov_more {hs bs : Nat → Int32} {n d k : Nat} (hH : hOK hs n) (hd : d < n) {x3 x4 : Int32} (e3 : x3 = pw (fun x => ovdF hs bs (mdl hs bs n) d x n) k (ov0 hs bs (mdl hs bs n) d)) (hh : (k = 0 ∧ x4 = -1) ∨ ∃ j, k = j + 1 ∧ x4 = pw (fun x => ovdF hs bs (mdl hs bs n) d x n) j (ov0 hs bs (mdl hs bs n) d)) (c : ¬ x4 = x3) : k + 1 ≤ 17 := by
  rcases hh with ⟨hk, h4⟩ | ⟨j, hk, h4⟩
  · omega
  · subst hk
    rw [h4, e3] at c
    have := pw_early (f := fun x => ovdF hs bs (mdl hs bs n) d x n) (ovd_stop hH _ d (ov0_low hH hd _)) c
    omega
theorem ask_0 {a b : Bool} (h : cond a (cond b (nI 0) (-3)) (-2) = 0) : a = true ∧ b = true := by
  cases a <;> cases b
  · exact absurd h (by decide)
  · exact absurd h (by decide)
  · exact absurd h (by decide)
  · exact ⟨rfl, rfl⟩
theorem ask_N {a b : Bool} (X : Int32) (h : ¬ cond a (cond b (nI 0) (-3)) (-2) = 0) : cond a (cond b (nI 0) (-3)) (-2) = cond a (cond b X (-3)) (-2) := by
  cases a <;> cases b
  · rfl
  · rfl
  · rfl
  · exact absurd rfl h
theorem nI_kk (k : Nat) : nI k - nI 1 + Int32.ofInt 1 = nI (k + 1) - nI 1 := by
  rw [show nI (k + 1) - nI 1 = nI k from nI_pred k]
  show nI k - nI 1 + nI 1 = nI k
  exact Int32.sub_add_cancel (nI k) (nI 1)
theorem mdl_low {hs bs : Nat → Int32} {n : Nat} (hH : hOK hs n) : low16 (mdl hs bs n) := clo_low hH low16_0
theorem rnd_all {hs bs : Nat → Int32} {n r : Nat} (hn : n ≤ 24) (hr : r < n) (K : Int32) : rnd hs bs (evr n) K (r + 1) = if sbs (bs r) K = true then rnd hs bs (evr n) K r ||| (nI 1 <<< (hs r &&& 31)) else rnd hs bs (evr n) K r := by
  rw [rnd]
  simp only [has_evr n hn r hr, true_and]
theorem lev_go {hs bs : Nat → Int32} {n a lv k : Nat} {x2 : Int32} (ha : a < 16) (h1 : ∀ i, i < lv → has (pw (fun K => rnd hs bs (evr n) K n) (i + 1) (nI 0)) (nI a) = false) (hk : k ≤ lv + 1) (e2 : x2 = pw (fun K => rnd hs bs (evr n) K n) k (nI 0)) (c : has x2 (nI a) = true) : k = lv + 1 := by
  rcases Nat.lt_or_ge k (lv + 1) with q | q
  · cases k with
    | zero =>
      rw [e2, has_bt _ (by omega)] at c
      exact absurd c (by rw [show bt (pw (fun K => rnd hs bs (evr n) K n) 0 (nI 0)) a = false from b_0 a]; decide)
    | succ j =>
      rw [e2, h1 j (by omega)] at c
      cases c
  · omega
theorem lev_on {hs bs : Nat → Int32} {n a lv k : Nat} {x2 : Int32} (h2 : has (pw (fun K => rnd hs bs (evr n) K n) (lv + 1) (nI 0)) (nI a) = true) (hk : k ≤ lv + 1) (e2 : x2 = pw (fun K => rnd hs bs (evr n) K n) k (nI 0)) (c : has x2 (nI a) = false) : k ≤ lv := by
  rcases Nat.lt_or_ge lv k with q | q
  · have : k = lv + 1 := by omega
    subst this
    rw [e2, h2] at c
    cases c
  · exact q
theorem hd_shr {hs : Nat → Int32} {n r : Nat} {x : Int32} (hH : hOK hs n) (hr : r < n) (h : has x (hs r) = true) : (x >>> (hs r &&& 31)) &&& nI 1 = nI 1 := by
  obtain ⟨a, ha, e⟩ := hH r hr
  rw [e] at h ⊢
  exact (shr_1 (by omega)).mpr h
theorem hd_shr2 {hs : Nat → Int32} {n r : Nat} {x : Int32} (hH : hOK hs n) (hr : r < n) (h : (x >>> (hs r &&& 31)) &&& nI 1 = nI 1) : has x (hs r) = true := by
  obtain ⟨a, ha, e⟩ := hH r hr
  rw [e] at h ⊢
  exact (shr_1 (by omega)).mp h
