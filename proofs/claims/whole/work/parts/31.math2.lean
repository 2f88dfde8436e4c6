theorem has_mono {x y : Int32} (h : sub_ x y) {a : Nat} (ha : a < 32) (hx : has x (nI a) = true) : has y (nI a) = true := by
  rw [has_bt _ ha] at hx ⊢
  exact h a ha hx
theorem has_evr : ∀ n, n ≤ 24 → ∀ r, r < n → has (evr n) (nI r) = true := by decide +kernel
theorem has_sh {a b : Nat} (ha : a < 32) (hb : b < 32) : has (nI 1 <<< (nI a &&& 31)) (nI b) = decide (a = b) := by rw [has_bt _ hb, bt_sh ha hb]
/-! dependencies -/
theorem bunF_in {hs bs : Nat → Int32} {X : Int32} {r : Nat} : ∀ {n : Nat}, r < n → has X (hs r) = true → sub_ (bs r) (bunF hs bs X n)
  | 0, h, _ => by omega
  | n + 1, h, h1 => by
    rw [bunF]
    by_cases e : r = n
    · subst e
      rw [if_pos h1]
      exact sub_or2 _ _
    · have h3 := bunF_in (hs := hs) (bs := bs) (n := n) (by omega) h1
      split
      · exact sub_tr h3 (sub_or1 _ _)
      · exact h3
theorem bunF_least {hs bs : Nat → Int32} {X S : Int32} : ∀ {n : Nat}, (∀ r, r < n → has X (hs r) = true → sub_ (bs r) S) → sub_ (bunF hs bs X n) S
  | 0, _ => sub_0 S
  | n + 1, h => by
    have h1 := bunF_least (hs := hs) (bs := bs) (X := X) (n := n) (fun r hr => h r (by omega))
    rw [bunF]
    split
    · exact sub_or h1 (h n (Nat.lt_succ_self n) (by assumption))
    · exact h1
theorem bunF_low {hs bs : Nat → Int32} {X : Int32} : ∀ {n : Nat}, bOK bs n → low16 (bunF hs bs X n)
  | 0, _ => low16_0
  | n + 1, h => by
    have h1 := bunF_low (hs := hs) (X := X) (n := n) (fun j hj => h j (by omega))
    rw [bunF]
    split
    · exact low16_or h1 (h n (Nat.lt_succ_self n))
    · exact h1
def dcl (hs bs : Nat → Int32) (n a : Nat) (S : Int32) : Prop := ∀ r, r < n → (hs r = nI a ∨ has S (hs r) = true) → sub_ (bs r) S
theorem dep_fix {hs bs : Nat → Int32} {n : Nat} (hB : bOK bs n) (a : Nat) : sub_ (bunF hs bs (depS hs bs n a) n) (depS hs bs n a) := by
  have h := pw_stop (f := fun x => x ||| bunF hs bs x n) (fun x => sub_or1 _ _) (fun x hx => low16_or hx (bunF_low hB)) (x := bunF hs bs (nI 1 <<< (nI a &&& 31)) n) (bunF_low hB)
  have h2 := sub_or2 (depS hs bs n a) (bunF hs bs (depS hs bs n a) n)
  rw [show depS hs bs n a ||| bunF hs bs (depS hs bs n a) n = depS hs bs n a from h] at h2
  exact h2
theorem dep_cl {hs bs : Nat → Int32} {n a : Nat} (hB : bOK bs n) (ha : a < 16) : dcl hs bs n a (depS hs bs n a) := by
  intro r hr h
  rcases h with h | h
  · refine sub_tr (bunF_in (hs := hs) (X := nI 1 <<< (nI a &&& 31)) hr ?_) (pw_sub (f := fun x => x ||| bunF hs bs x n) (fun x => sub_or1 _ _) _ 16)
    rw [h, has_sh (by omega) (by omega)]
    exact decide_eq_true rfl
  · exact sub_tr (bunF_in hr h) (dep_fix hB a)
theorem dep_least {hs bs : Nat → Int32} {n a : Nat} (hH : hOK hs n) (ha : a < 16) {S : Int32} (hS : dcl hs bs n a S) : sub_ (depS hs bs n a) S := by
  have h : ∀ k, sub_ (pw (fun x => x ||| bunF hs bs x n) k (bunF hs bs (nI 1 <<< (nI a &&& 31)) n)) S := by
    intro k
    induction k with
    | zero =>
      refine bunF_least fun r hr q => hS r hr (Or.inl ?_)
      obtain ⟨b, hb, e⟩ := hH r hr
      rw [e, has_sh (by omega) (by omega)] at q
      rw [e, of_decide_eq_true q]
    | succ k ih =>
      refine sub_or ih (bunF_least fun r hr q => hS r hr (Or.inr ?_))
      obtain ⟨b, hb, e⟩ := hH r hr
      rw [e] at q ⊢
      exact has_mono ih (by omega) q
  exact h 16
def dgF (hs bs : Nat → Int32) (a : Nat) (x : Int32) : Nat → Int32
  | 0 => x
  | r + 1 => if hs r = nI a ∨ has (dgF hs bs a x r) (hs r) = true then dgF hs bs a x r ||| bs r else dgF hs bs a x r
theorem dgF_up (hs bs : Nat → Int32) (a : Nat) (x : Int32) (r : Nat) : ∀ d, sub_ (dgF hs bs a x r) (dgF hs bs a x (r + d))
  | 0 => sub_rf _
  | d + 1 => by
    show sub_ _ (dgF hs bs a x (r + d + 1))
    rw [dgF.eq_def _ _ _ _ (r + d + 1)]
    dsimp only
    split
    · exact sub_tr (dgF_up hs bs a x r d) (sub_or1 _ _)
    · exact dgF_up hs bs a x r d
theorem dgF_sub (hs bs : Nat → Int32) (a : Nat) (x : Int32) (n : Nat) : sub_ x (dgF hs bs a x n) := by
  have h := dgF_up hs bs a x 0 n
  rw [Nat.zero_add] at h
  exact h
theorem dgF_low {hs bs : Nat → Int32} {a : Nat} {x : Int32} (hx : low16 x) : ∀ {r : Nat}, bOK bs r → low16 (dgF hs bs a x r)
  | 0, _ => hx
  | r + 1, h => by
    have h1 := dgF_low (hs := hs) (a := a) hx (r := r) (fun j hj => h j (by omega))
    rw [dgF]
    split
    · exact low16_or h1 (h r (Nat.lt_succ_self r))
    · exact h1
theorem dgF_least {hs bs : Nat → Int32} {n a : Nat} (hH : hOK hs n) {S x : Int32} (hS : dcl hs bs n a S) (hx : sub_ x S) : ∀ {r : Nat}, r ≤ n → sub_ (dgF hs bs a x r) S
  | 0, _ => hx
  | r + 1, h => by
    have h1 := dgF_least hH hS hx (r := r) (by omega)
    rw [dgF]
    split
    · rename_i q
      refine sub_or h1 (hS r (by omega) (q.elim Or.inl fun q => Or.inr ?_))
      obtain ⟨b, hb, e⟩ := hH r (by omega)
      rw [e] at q ⊢
      exact has_mono h1 (by omega) q
    · exact h1
theorem dgF_cl {hs bs : Nat → Int32} {n a : Nat} {x : Int32} (h : dgF hs bs a x n = x) : dcl hs bs n a x := by
  have h1 : ∀ r, r ≤ n → dgF hs bs a x r = x := fun r hr => by
    refine sub_as ?_ (dgF_sub hs bs a x r)
    have h2 := dgF_up hs bs a x r (n - r)
    rw [show r + (n - r) = n from by omega, h] at h2
    exact h2
  intro r hr q
  have h3 := h1 (r + 1) hr
  rw [dgF, h1 r (by omega), if_pos q] at h3
  have h4 := sub_or2 x (bs r)
  rw [h3] at h4
  exact h4
theorem dg_stop {hs bs : Nat → Int32} {n : Nat} (hB : bOK bs n) (a : Nat) : dgF hs bs a (pw (fun x => dgF hs bs a x n) 16 (nI 0)) n = pw (fun x => dgF hs bs a x n) 16 (nI 0) :=
  pw_stop (f := fun x => dgF hs bs a x n) (fun x => dgF_sub hs bs a x n) (fun x hx => dgF_low hx hB) low16_0
theorem dg_dep {hs bs : Nat → Int32} {n a : Nat} (hH : hOK hs n) (hB : bOK bs n) (ha : a < 16) {k : Nat} (h : dgF hs bs a (pw (fun x => dgF hs bs a x n) k (nI 0)) n = pw (fun x => dgF hs bs a x n) k (nI 0)) : pw (fun x => dgF hs bs a x n) k (nI 0) = depS hs bs n a := by
  refine sub_as ?_ (dep_least hH ha (dgF_cl h))
  clear h
  induction k with
  | zero => exact sub_0 _
  | succ k ih => exact dgF_least hH (dep_cl hB ha) ih (Nat.le_refl n)
/-! over-deletion -/
theorem ovdF_sub (hs bs : Nat → Int32) (M : Int32) (d : Nat) (x : Int32) : ∀ r, sub_ x (ovdF hs bs M d x r)
  | 0 => sub_rf x
  | r + 1 => by
    rw [ovdF]
    split
    · exact sub_tr (ovdF_sub hs bs M d x r) (sub_or1 _ _)
    · exact ovdF_sub hs bs M d x r
theorem ovdF_low {hs bs : Nat → Int32} {M : Int32} {d : Nat} {x : Int32} (hx : low16 x) : ∀ {r : Nat}, hOK hs r → low16 (ovdF hs bs M d x r)
  | 0, _ => hx
  | r + 1, h => by
    have h1 := ovdF_low (bs := bs) (M := M) (d := d) hx (r := r) (fun j hj => h j (by omega))
    rw [ovdF]
    split
    · exact low16_or h1 (low16_hd h (Nat.lt_succ_self r))
    · exact h1
theorem ovd_stop {hs bs : Nat → Int32} {n : Nat} (hH : hOK hs n) (M : Int32) (d : Nat) {x : Int32} (hx : low16 x) : ovdF hs bs M d (pw (fun x => ovdF hs bs M d x n) 16 x) n = pw (fun x => ovdF hs bs M d x n) 16 x :=
  pw_stop (f := fun x => ovdF hs bs M d x n) (fun x => ovdF_sub hs bs M d x n) (fun x hx => ovdF_low hx hH) hx
theorem and_0 (x : Int32) : x &&& nI 0 = 0 := bt_eq0.mpr fun i _ => by rw [b_and, show bt (nI 0) i = false from b_0 i, Bool.and_false]
theorem ovdF_0 (hs bs : Nat → Int32) (M : Int32) (d : Nat) : ∀ r, ovdF hs bs M d (nI 0) r = nI 0
  | 0 => rfl
  | r + 1 => by rw [ovdF, ovdF_0 hs bs M d r, if_neg (fun q => q.2.2 (and_0 _))]
/-- where over-deletion begins -/
def ov0 (hs bs : Nat → Int32) (M : Int32) (d : Nat) : Int32 := if sbs (bs d) M = true then nI 1 <<< (hs d &&& 31) else nI 0
theorem pw_0 {f : Int32 → Int32} (h : f (nI 0) = nI 0) : ∀ k, pw f k (nI 0) = nI 0
  | 0 => rfl
  | k + 1 => by rw [pw, pw_0 h k, h]
theorem ovd_end {hs bs : Nat → Int32} {n d : Nat} (hH : hOK hs n) (hd : d < n) {k : Nat} (h : ovdF hs bs (mdl hs bs n) d (pw (fun x => ovdF hs bs (mdl hs bs n) d x n) k (ov0 hs bs (mdl hs bs n) d)) n = pw (fun x => ovdF hs bs (mdl hs bs n) d x n) k (ov0 hs bs (mdl hs bs n) d)) : pw (fun x => ovdF hs bs (mdl hs bs n) d x n) k (ov0 hs bs (mdl hs bs n) d) = ovd hs bs n d := by
  unfold ovd
  by_cases hb : sbs (bs d) (mdl hs bs n) = true
  · rw [ov0, if_pos hb] at h ⊢
    rw [if_pos hb]
    exact pw_same (f := fun x => ovdF hs bs (mdl hs bs n) d x n) h (ovd_stop hH _ d (low16_hd hH hd))
  · rw [ov0, if_neg hb, if_neg hb]
    exact pw_0 (f := fun x => ovdF hs bs (mdl hs bs n) d x n) (ovdF_0 hs bs (mdl hs bs n) d n) k
/-! what a rule more would give -/
theorem gnd_eq {hs bs : Nat → Int32} {n a : Nat} (hH : hOK hs n) (ha : a < 16) : clo hs bs n (evr n) (mdl hs bs n ||| (nI 1 <<< (nI a &&& 31))) = clo hs bs n (evr n) (nI 1 <<< (nI a &&& 31)) := by
  have l1 := low16_sh (isA_of ha)
  have l2 : low16 (mdl hs bs n) := clo_low hH low16_0
  refine clo_uniq hH l1 (clo_cl hH (low16_or l2 l1)) (sub_tr (sub_or2 _ _) (clo_sub hs bs n _ _)) (fun S hS hF => ?_)
  exact clo_least hS (sub_or (clo_least hS (sub_0 S)) hF)
