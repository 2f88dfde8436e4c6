/-! sets of atoms: what closes, and that it closes in sixteen rounds -/
def cnt (p : Nat → Bool) : Nat → Nat
  | 0 => 0
  | n + 1 => cnt p n + (if p n = true then 1 else 0)
theorem cnt_le (p : Nat → Bool) : ∀ n, cnt p n ≤ n
  | 0 => Nat.le_refl _
  | n + 1 => by
    have h := cnt_le p n
    rw [cnt]
    split <;> omega
theorem cnt_mono {p q : Nat → Bool} : ∀ {n : Nat}, (∀ k, k < n → p k = true → q k = true) → cnt p n ≤ cnt q n
  | 0, _ => Nat.le_refl _
  | n + 1, h => by
    have h1 := cnt_mono (n := n) (fun k hk => h k (by omega))
    have h2 := h n (by omega)
    rw [cnt, cnt]
    by_cases hp : p n = true
    · rw [if_pos hp, if_pos (h2 hp)]; omega
    · rw [if_neg hp]; omega
theorem cnt_lt {p q : Nat → Bool} : ∀ {n : Nat}, (∀ k, k < n → p k = true → q k = true) → ∀ i, i < n → p i = false → q i = true → cnt p n < cnt q n
  | 0, _, i, hi, _, _ => by omega
  | n + 1, h, i, hi, h1, h2 => by
    rw [cnt, cnt]
    by_cases e : i = n
    · subst e
      have h3 := cnt_mono (n := i) (fun k hk => h k (by omega))
      rw [if_neg (by rw [h1]; decide), if_pos h2]; omega
    · have h3 := cnt_lt (n := n) (fun k hk => h k (by omega)) i (by omega) h1 h2
      have h4 := h n (by omega)
      by_cases hp : p n = true
      · rw [if_pos hp, if_pos (h4 hp)]; omega
      · rw [if_neg hp]; omega
def card (x : Int32) : Nat := cnt (bt x) 16
def sub_ (x y : Int32) : Prop := ∀ i, i < 32 → bt x i = true → bt y i = true
theorem sub_rf (x : Int32) : sub_ x x := fun _ _ h => h
theorem sub_tr {x y z : Int32} (h1 : sub_ x y) (h2 : sub_ y z) : sub_ x z := fun i hi h => h2 i hi (h1 i hi h)
theorem sub_as {x y : Int32} (h1 : sub_ x y) (h2 : sub_ y x) : x = y := b_ext fun i hi => by
  cases hx : bt x i with
  | true => exact (h1 i hi hx).symm
  | false =>
    cases hy : bt y i with
    | false => rfl
    | true => rw [h2 i hi hy] at hx; cases hx
theorem sub_or1 (x y : Int32) : sub_ x (x ||| y) := fun i _ h => by rw [b_or, h]; rfl
theorem sub_or2 (x y : Int32) : sub_ y (x ||| y) := fun i _ h => by rw [b_or, h]; exact Bool.or_true _
theorem sub_or {x y z : Int32} (h1 : sub_ x z) (h2 : sub_ y z) : sub_ (x ||| y) z := fun i hi h => by
  rw [b_or, Bool.or_eq_true] at h
  exact h.elim (h1 i hi) (h2 i hi)
theorem sbs_sub {x y : Int32} : sbs x y = true ↔ sub_ x y := sbs_bt
theorem sub_0 (x : Int32) : sub_ (nI 0) x := fun i _ h => by rw [show bt (nI 0) i = false from b_0 i] at h; cases h
theorem card_lt {x y : Int32} (hx : low16 x) (hy : low16 y) (h : sub_ x y) (hne : ¬ x = y) : card x < card y := by
  have h1 : ¬ sub_ y x := fun q => hne (sub_as h q)
  have h2 : ∃ i, i < 32 ∧ bt y i = true ∧ bt x i = false := by
    refine Classical.byContradiction fun q => h1 fun i hi hyi => ?_
    cases hxi : bt x i with
    | true => rfl
    | false => exact absurd ⟨i, hi, hyi, hxi⟩ q
  obtain ⟨i, hi, hyi, hxi⟩ := h2
  have hi16 : i < 16 := Nat.not_le.mp fun q => by rw [hy i q hi] at hyi; cases hyi
  exact cnt_lt (fun k hk => h k (by omega)) i hi16 hxi hyi
theorem pw_low {f : Int32 → Int32} (h2 : ∀ x, low16 x → low16 (f x)) {x : Int32} (hx : low16 x) : ∀ k, low16 (pw f k x)
  | 0 => hx
  | k + 1 => h2 _ (pw_low h2 hx k)
theorem pw_sub {f : Int32 → Int32} (h1 : ∀ x, sub_ x (f x)) (x : Int32) : ∀ k, sub_ x (pw f k x)
  | 0 => sub_rf x
  | k + 1 => sub_tr (pw_sub h1 x k) (h1 _)
theorem pw_stop {f : Int32 → Int32} (h1 : ∀ x, sub_ x (f x)) (h2 : ∀ x, low16 x → low16 (f x)) {x : Int32} (hx : low16 x) : f (pw f 16 x) = pw f 16 x := by
  refine Classical.byContradiction fun hne => ?_
  have hk : ∀ k, k ≤ 16 → ¬ f (pw f k x) = pw f k x := fun k hk q => hne (by
    have h3 := pw_fix (f := f) (x := x) (k := k) q (16 - k)
    rw [show k + (16 - k) = 16 from by omega] at h3
    rw [h3]; exact q)
  have hc : ∀ k, k ≤ 17 → k ≤ card (pw f k x) := by
    intro k
    induction k with
    | zero => intro _; exact Nat.zero_le _
    | succ k ih =>
      intro hk2
      have h3 := ih (by omega)
      have h4 := card_lt (pw_low h2 hx k) (h2 _ (pw_low h2 hx k)) (h1 (pw f k x)) (fun q => hk k (by omega) q.symm)
      show k + 1 ≤ card (f (pw f k x))
      omega
  have h5 := hc 17 (Nat.le_refl _)
  have h6 : card (pw f 17 x) ≤ 16 := cnt_le _ 16
  omega
/-- where the row stands still, it stands still by place 16 -/
theorem pw_early {f : Int32 → Int32} {x : Int32} (hs : f (pw f 16 x) = pw f 16 x) {j : Nat} (h : ¬ pw f j x = pw f (j + 1) x) : j < 16 := by
  refine Nat.not_le.mp fun q => h ?_
  have h1 := pw_fix (f := f) (x := x) (k := 16) hs (j - 16)
  rw [show 16 + (j - 16) = j from by omega] at h1
  show pw f j x = f (pw f j x)
  rw [h1, hs]
theorem pw_same {f : Int32 → Int32} {x : Int32} {j k : Nat} (hj : f (pw f j x) = pw f j x) (hk : f (pw f k x) = pw f k x) : pw f j x = pw f k x := by
  rcases Nat.le_total j k with h | h
  · have h1 := pw_fix (f := f) (x := x) hj (k - j)
    rw [show j + (k - j) = k from by omega] at h1
    exact h1.symm
  · have h1 := pw_fix (f := f) (x := x) hk (j - k)
    rw [show k + (j - k) = j from by omega] at h1
    exact h1
/-- the rules: heads are atoms, bodies are sets of atoms -/
def hOK (hs : Nat → Int32) (n : Nat) : Prop := ∀ j, j < n → ∃ a, a < 16 ∧ hs j = nI a
def bOK (bs : Nat → Int32) (n : Nat) : Prop := ∀ j, j < n → low16 (bs j)
theorem low16_hd {hs : Nat → Int32} {n r : Nat} (h : hOK hs n) (hr : r < n) : low16 (nI 1 <<< (hs r &&& 31)) := by
  obtain ⟨a, ha, e⟩ := h r hr
  rw [e]
  exact low16_sh (isA_of ha)
theorem rnd_sub (hs bs : Nat → Int32) (R K : Int32) : ∀ r, sub_ K (rnd hs bs R K r)
  | 0 => sub_rf K
  | r + 1 => by
    rw [rnd]
    split
    · exact sub_tr (rnd_sub hs bs R K r) (sub_or1 _ _)
    · exact rnd_sub hs bs R K r
theorem rnd_low {hs bs : Nat → Int32} {R K : Int32} (hK : low16 K) : ∀ {r : Nat}, hOK hs r → low16 (rnd hs bs R K r)
  | 0, _ => hK
  | r + 1, h => by
    have h1 := rnd_low (R := R) (bs := bs) hK (r := r) (fun j hj => h j (by omega))
    rw [rnd]
    split
    · exact low16_or h1 (low16_hd h (Nat.lt_succ_self r))
    · exact h1
/-- closed under the rules in R -/
def clsd (hs bs : Nat → Int32) (n : Nat) (R S : Int32) : Prop := ∀ r, r < n → has R (nI r) = true → sbs (bs r) S = true → sub_ (nI 1 <<< (hs r &&& 31)) S
theorem rnd_in {hs bs : Nat → Int32} {R K : Int32} {r : Nat} : ∀ {n : Nat}, r < n → has R (nI r) = true → sbs (bs r) K = true → sub_ (nI 1 <<< (hs r &&& 31)) (rnd hs bs R K n)
  | 0, h, _, _ => by omega
  | n + 1, h, h1, h2 => by
    rw [rnd]
    by_cases e : r = n
    · subst e
      rw [if_pos ⟨h1, h2⟩]
      exact sub_or2 _ _
    · have h3 := rnd_in (hs := hs) (n := n) (by omega) h1 h2
      split
      · exact sub_tr h3 (sub_or1 _ _)
      · exact h3
theorem rnd_least {hs bs : Nat → Int32} {n : Nat} {R S K : Int32} (hS : clsd hs bs n R S) (hK : sub_ K S) : ∀ {r : Nat}, r ≤ n → sub_ (rnd hs bs R K r) S
  | 0, _ => hK
  | r + 1, h => by
    have h1 := rnd_least hS hK (r := r) (by omega)
    rw [rnd]
    split
    · rename_i q
      exact sub_or h1 (hS r (by omega) q.1 (sbs_sub.mpr (sub_tr (sbs_sub.mp q.2) hK)))
    · exact h1
theorem clo_fix {hs bs : Nat → Int32} {n : Nat} (hH : hOK hs n) {R F : Int32} (hF : low16 F) : rnd hs bs R (clo hs bs n R F) n = clo hs bs n R F :=
  pw_stop (f := fun K => rnd hs bs R K n) (fun x => rnd_sub hs bs R x n) (fun x hx => rnd_low hx hH) hF
theorem clo_cl {hs bs : Nat → Int32} {n : Nat} (hH : hOK hs n) {R F : Int32} (hF : low16 F) : clsd hs bs n R (clo hs bs n R F) := fun r hr h1 h2 => by
  have h3 := rnd_in (hs := hs) (n := n) hr h1 h2
  rw [clo_fix hH hF] at h3
  exact h3
theorem clo_sub (hs bs : Nat → Int32) (n : Nat) (R F : Int32) : sub_ F (clo hs bs n R F) := pw_sub (f := fun K => rnd hs bs R K n) (fun x => rnd_sub hs bs R x n) F 16
theorem clo_low {hs bs : Nat → Int32} {n : Nat} (hH : hOK hs n) {R F : Int32} (hF : low16 F) : low16 (clo hs bs n R F) := pw_low (f := fun K => rnd hs bs R K n) (fun x hx => rnd_low hx hH) hF 16
theorem clo_least {hs bs : Nat → Int32} {n : Nat} {R F S : Int32} (hS : clsd hs bs n R S) (hF : sub_ F S) : sub_ (clo hs bs n R F) S := by
  have h : ∀ k, sub_ (pw (fun K => rnd hs bs R K n) k F) S := by
    intro k
    induction k with
    | zero => exact hF
    | succ k ih => exact rnd_least hS ih (Nat.le_refl n)
  exact h 16
theorem clo_uniq {hs bs : Nat → Int32} {n : Nat} (hH : hOK hs n) {R F X : Int32} (hF : low16 F) (h1 : clsd hs bs n R X) (h2 : sub_ F X) (h3 : ∀ S, clsd hs bs n R S → sub_ F S → sub_ X S) : X = clo hs bs n R F :=
  sub_as (h3 _ (clo_cl hH hF) (clo_sub hs bs n R F)) (clo_least h1 h2)
/-- one pass of the rules, each over what the ones before it have given -/
def gsF (hs bs : Nat → Int32) (R x : Int32) : Nat → Int32
  | 0 => x
  | r + 1 => if has R (nI r) = true ∧ sbs (bs r) (gsF hs bs R x r) = true then gsF hs bs R x r ||| (nI 1 <<< (hs r &&& 31)) else gsF hs bs R x r
theorem gsF_up (hs bs : Nat → Int32) (R x : Int32) (r : Nat) : ∀ d, sub_ (gsF hs bs R x r) (gsF hs bs R x (r + d))
  | 0 => sub_rf _
  | d + 1 => by
    show sub_ _ (gsF hs bs R x (r + d + 1))
    rw [gsF.eq_def _ _ _ _ (r + d + 1)]
    dsimp only
    split
    · exact sub_tr (gsF_up hs bs R x r d) (sub_or1 _ _)
    · exact gsF_up hs bs R x r d
theorem gsF_sub (hs bs : Nat → Int32) (R x : Int32) (n : Nat) : sub_ x (gsF hs bs R x n) := by
  have h := gsF_up hs bs R x 0 n
  rw [Nat.zero_add] at h
  exact h
theorem gsF_low {hs bs : Nat → Int32} {R x : Int32} (hx : low16 x) : ∀ {r : Nat}, hOK hs r → low16 (gsF hs bs R x r)
  | 0, _ => hx
  | r + 1, h => by
    have h1 := gsF_low (R := R) (bs := bs) hx (r := r) (fun j hj => h j (by omega))
    rw [gsF]
    split
    · exact low16_or h1 (low16_hd h (Nat.lt_succ_self r))
    · exact h1
theorem gsF_least {hs bs : Nat → Int32} {n : Nat} {R S x : Int32} (hS : clsd hs bs n R S) (hx : sub_ x S) : ∀ {r : Nat}, r ≤ n → sub_ (gsF hs bs R x r) S
  | 0, _ => hx
  | r + 1, h => by
    have h1 := gsF_least hS hx (r := r) (by omega)
    rw [gsF]
    split
    · rename_i q
      exact sub_or h1 (hS r (by omega) q.1 (sbs_sub.mpr (sub_tr (sbs_sub.mp q.2) h1)))
    · exact h1
theorem gsF_cl {hs bs : Nat → Int32} {n : Nat} {R x : Int32} (h : gsF hs bs R x n = x) : clsd hs bs n R x := by
  have h1 : ∀ r, r ≤ n → gsF hs bs R x r = x := fun r hr => by
    refine sub_as ?_ (gsF_sub hs bs R x r)
    have h2 := gsF_up hs bs R x r (n - r)
    rw [show r + (n - r) = n from by omega, h] at h2
    exact h2
  intro r hr q1 q2
  have h3 := h1 (r + 1) hr
  rw [gsF, h1 r (by omega), if_pos ⟨q1, q2⟩] at h3
  have h4 := sub_or2 x (nI 1 <<< (hs r &&& 31))
  rw [h3] at h4
  exact h4
theorem gs_stop {hs bs : Nat → Int32} {n : Nat} (hH : hOK hs n) {R F : Int32} (hF : low16 F) : gsF hs bs R (pw (fun x => gsF hs bs R x n) 16 F) n = pw (fun x => gsF hs bs R x n) 16 F :=
  pw_stop (f := fun x => gsF hs bs R x n) (fun x => gsF_sub hs bs R x n) (fun x hx => gsF_low hx hH) hF
theorem gs_clo {hs bs : Nat → Int32} {n : Nat} (hH : hOK hs n) {R F : Int32} (hF : low16 F) {k : Nat} (h : gsF hs bs R (pw (fun x => gsF hs bs R x n) k F) n = pw (fun x => gsF hs bs R x n) k F) : pw (fun x => gsF hs bs R x n) k F = clo hs bs n R F := by
  refine clo_uniq hH hF (gsF_cl h) (pw_sub (f := fun x => gsF hs bs R x n) (fun x => gsF_sub hs bs R x n) F k) (fun S hS hFS => ?_)
  clear h
  induction k with
  | zero => exact hFS
  | succ k ih => exact gsF_least hS ih (Nat.le_refl n)
