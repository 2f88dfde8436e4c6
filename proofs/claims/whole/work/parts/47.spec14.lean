/-- rank of a submask among the submasks of a mask -/
def rk : Nat → Nat → Nat → Nat
  | 0, _, _ => 0
  | w + 1, a, x => if a % 2 = 1 then x % 2 + 2 * rk w (a / 2) (x / 2) else rk w (a / 2) (x / 2)
theorem and_two (x y : Nat) : x &&& y = 2 * ((x / 2) &&& (y / 2)) + (x % 2) * (y % 2) := by
  have h1 : (x &&& y) / 2 = (x / 2) &&& (y / 2) := Nat.and_div_two
  have h2 : (x &&& y) % 2 = (x % 2) * (y % 2) := by
    have q := @Nat.and_mod_two_eq_one x y
    rcases Nat.mod_two_eq_zero_or_one x with a | a <;> rcases Nat.mod_two_eq_zero_or_one y with b | b <;> rw [a, b] at q ⊢ <;> omega
  omega
theorem sm_half {a x : Nat} (h : x &&& a = x) : (x / 2) &&& (a / 2) = x / 2 := by
  have q := and_two x a
  rcases Nat.mod_two_eq_zero_or_one x with c | c <;> rcases Nat.mod_two_eq_zero_or_one a with d | d <;> rw [c, d] at q <;> omega
theorem sm_bit {a x : Nat} (h : x &&& a = x) (ha : a % 2 = 0) : x % 2 = 0 := by
  have q := and_two x a
  rw [ha] at q; omega
theorem sm_le {a x : Nat} (h : x &&& a = x) : x ≤ a := by rw [← h]; exact Nat.and_le_right
theorem rk_all : ∀ w a, rk w a a + 1 = 2 ^ pcA w a
  | 0, _ => rfl
  | w + 1, a => by
    have q := rk_all w (a / 2)
    rcases Nat.mod_two_eq_zero_or_one a with d | d
    · rw [rk, if_neg (by omega), pcA, d, q, Nat.zero_add]
    · rw [rk, if_pos d, pcA, d, Nat.add_comm 1 (pcA w (a / 2)), Nat.pow_succ, ← q]; omega
theorem rk_inj : ∀ w a x, a < 2 ^ w → x &&& a = x → rk w a x = rk w a a → x = a
  | 0, a, x, ha, h, _ => by
    have q := sm_le h
    rw [Nat.pow_zero] at ha; omega
  | w + 1, a, x, ha, h, e => by
    have q := rk_inj w (a / 2) (x / 2) (by rw [Nat.pow_succ] at ha; omega) (sm_half h)
    rcases Nat.mod_two_eq_zero_or_one a with d | d
    · rw [rk, rk, if_neg (by omega), if_neg (by omega)] at e
      have b := sm_bit h d
      have c := q e
      omega
    · rw [rk, rk, if_pos d, if_pos d] at e
      have c := q (by omega)
      have f := Nat.mod_two_eq_zero_or_one x
      omega
theorem sm_cpl : ∀ w a x, a < 2 ^ w → x &&& a = x → (2 ^ w - 1 - (a - x)) &&& a = x
  | 0, a, x, ha, h => by
    have q := sm_le h
    rw [Nat.pow_zero] at ha
    rw [show a = 0 by omega, Nat.and_zero]; omega
  | w + 1, a, x, ha, h => by
    have hp : 2 ^ (w + 1) = 2 * 2 ^ w := by rw [Nat.pow_succ, Nat.mul_comm]
    have q := sm_cpl w (a / 2) (x / 2) (by omega) (sm_half h)
    have l := sm_le h
    have l2 := sm_le (sm_half h)
    have z : 0 < 2 ^ w := Nat.two_pow_pos w
    rw [and_two]
    rcases Nat.mod_two_eq_zero_or_one a with d | d
    · have b := sm_bit h d
      rw [show (2 ^ (w + 1) - 1 - (a - x)) / 2 = 2 ^ w - 1 - (a / 2 - x / 2) by omega, q, d]; omega
    · rcases Nat.mod_two_eq_zero_or_one x with b | b
      · rw [show (2 ^ (w + 1) - 1 - (a - x)) / 2 = 2 ^ w - 1 - (a / 2 - x / 2) by omega, q, d, show (2 ^ (w + 1) - 1 - (a - x)) % 2 = 0 by omega]; omega
      · rw [show (2 ^ (w + 1) - 1 - (a - x)) / 2 = 2 ^ w - 1 - (a / 2 - x / 2) by omega, q, d, show (2 ^ (w + 1) - 1 - (a - x)) % 2 = 1 by omega]; omega
theorem rk_step : ∀ w a x, a < 2 ^ w → x &&& a = x → ¬ x = a → rk w a ((2 ^ w + x - a) &&& a) = rk w a x + 1
  | 0, a, x, ha, h, hne => by
    have q := sm_le h
    rw [Nat.pow_zero] at ha; omega
  | w + 1, a, x, ha, h, hne => by
    have hp : 2 ^ (w + 1) = 2 * 2 ^ w := by rw [Nat.pow_succ, Nat.mul_comm]
    have q := rk_step w (a / 2) (x / 2) (by omega) (sm_half h)
    have k := sm_cpl w (a / 2) (x / 2) (by omega) (sm_half h)
    have l := sm_le h
    have l2 := sm_le (sm_half h)
    have z : 0 < 2 ^ w := Nat.two_pow_pos w
    have t := and_two (2 ^ (w + 1) + x - a) a
    rcases Nat.mod_two_eq_zero_or_one a with d | d
    · have b := sm_bit h d
      rw [rk, rk, if_neg (by omega), if_neg (by omega)]
      rw [d, Nat.mul_zero, show (2 ^ (w + 1) + x - a) / 2 = 2 ^ w + x / 2 - a / 2 by omega] at t
      rw [show ((2 ^ (w + 1) + x - a) &&& a) / 2 = (2 ^ w + x / 2 - a / 2) &&& (a / 2) by omega]
      exact q (by omega)
    · rw [rk, rk, if_pos d, if_pos d]
      rcases Nat.mod_two_eq_zero_or_one x with b | b
      · rw [d, Nat.mul_one, show (2 ^ (w + 1) + x - a) / 2 = 2 ^ w - 1 - (a / 2 - x / 2) by omega, show (2 ^ (w + 1) + x - a) % 2 = 1 by omega, k] at t
        rw [show ((2 ^ (w + 1) + x - a) &&& a) / 2 = x / 2 by omega, show ((2 ^ (w + 1) + x - a) &&& a) % 2 = 1 by omega, b]; omega
      · rw [d, Nat.mul_one, show (2 ^ (w + 1) + x - a) / 2 = 2 ^ w + x / 2 - a / 2 by omega, show (2 ^ (w + 1) + x - a) % 2 = 0 by omega] at t
        rw [show ((2 ^ (w + 1) + x - a) &&& a) / 2 = (2 ^ w + x / 2 - a / 2) &&& (a / 2) by omega, q (by omega), show ((2 ^ (w + 1) + x - a) &&& a) % 2 = 0 by omega, b]; omega
theorem rk_0 : ∀ w a, rk w a 0 = 0
  | 0, _ => rfl
  | w + 1, a => by
    have q := rk_0 w (a / 2)
    rw [rk, Nat.zero_div, Nat.zero_mod, q]
    split <;> rfl
theorem low16_and {x y : Int32} (hy : low16 y) : low16 (x &&& y) := fun i h1 h2 => by rw [b_and, hy i h1 h2, Bool.and_false]
theorem sub_and (x y : Int32) : sub_ (x &&& y) y := fun i _ h => by
  rw [b_and, Bool.and_eq_true] at h
  exact h.2
/-- the sets in the order of the search -/
def enJ (as_ : Int32) : Nat → Int32
  | 0 => nI 0
  | j + 1 => (enJ as_ j - as_) &&& as_
theorem exB_pos {hs bs : Nat → Int32} {n : Nat} {as_ : Int32} {a k : Nat} (h : ¬ (exB hs bs n as_ a k).2.1 ≤ bc (exB hs bs n as_ a k).2.2 ∧ has (clo hs bs n (evr n) (exB hs bs n as_ a k).2.2) (nI a) = true) : exB hs bs n as_ a (k + 1) = ((exB hs bs n as_ a k).2.2, bc (exB hs bs n as_ a k).2.2, ((exB hs bs n as_ a k).2.2 - as_) &&& as_) := if_pos h
theorem exB_neg {hs bs : Nat → Int32} {n : Nat} {as_ : Int32} {a k : Nat} (h : ¬ (¬ (exB hs bs n as_ a k).2.1 ≤ bc (exB hs bs n as_ a k).2.2 ∧ has (clo hs bs n (evr n) (exB hs bs n as_ a k).2.2) (nI a) = true)) : exB hs bs n as_ a (k + 1) = ((exB hs bs n as_ a k).1, (exB hs bs n as_ a k).2.1, ((exB hs bs n as_ a k).2.2 - as_) &&& as_) := if_neg h
theorem exB_en (hs bs : Nat → Int32) (n : Nat) (as_ : Int32) (a : Nat) : ∀ j, (exB hs bs n as_ a j).2.2 = enJ as_ j
  | 0 => rfl
  | j + 1 => by
    have q := exB_en hs bs n as_ a j
    rw [enJ, ← q]
    by_cases h : ¬ (exB hs bs n as_ a j).2.1 ≤ bc (exB hs bs n as_ a j).2.2 ∧ has (clo hs bs n (evr n) (exB hs bs n as_ a j).2.2) (nI a) = true
    · rw [exB_pos h]
    · rw [exB_neg h]
theorem enJ_low {as_ : Int32} (h : low16 as_) : ∀ j, low16 (enJ as_ j)
  | 0 => low16_0
  | j + 1 => low16_and h
theorem enJ_sub (as_ : Int32) : ∀ j, sub_ (enJ as_ j) as_
  | 0 => sub_0 as_
  | j + 1 => sub_and _ _
theorem nI_wrap {x a : Nat} (h : a ≤ 2 ^ 32 + x) : nI x - nI a = nI (2 ^ 32 + x - a) := by
  rw [← nI_sub h, ← nI_add, show nI (2 ^ 32) = 0 from by decide, Int32.zero_add]
theorem and_cut {u v a : Nat} (ha : a < 65536) (h : u % 65536 = v % 65536) : u &&& a = v &&& a := by
  have f : ∀ z : Nat, z &&& a = (z % 65536) &&& a := fun z => by
    have l : z &&& a ≤ a := Nat.and_le_right
    have e : (z &&& a) % 2 ^ 16 = z % 2 ^ 16 &&& a % 2 ^ 16 := Nat.and_mod_two_pow
    rw [Nat.mod_eq_of_lt (by omega), Nat.mod_eq_of_lt (show a < 2 ^ 16 from ha)] at e
    exact e
  rw [f u, f v, h]
theorem en_rk {A : Nat} (hA : A < 65536) : ∀ j, j < 2 ^ pcA 16 A → ∃ x, enJ (nI A) j = nI x ∧ x &&& A = x ∧ rk 16 A x = j
  | 0, _ => ⟨0, rfl, Nat.zero_and A, rk_0 16 A⟩
  | j + 1, h => by
    obtain ⟨x, e, hs, hr⟩ := en_rk hA j (by omega)
    have l := sm_le hs
    have ne : ¬ x = A := fun q => by
      have w := rk_all 16 A
      rw [q] at hr
      omega
    refine ⟨(2 ^ 16 + x - A) &&& A, ?_, ?_, ?_⟩
    · rw [enJ, e, nI_wrap (by omega), nx_and]
      rw [and_cut hA (show (2 ^ 32 + x - A) % 65536 = (2 ^ 16 + x - A) % 65536 by omega)]
    · rw [Nat.and_assoc, Nat.and_self]
    · rw [rk_step 16 A x hA hs ne, hr]
theorem en_last {as_ : Int32} (h : low16 as_) {j : Nat} (hj : j < 2 ^ card as_) : enJ as_ j = as_ ↔ j + 1 = 2 ^ card as_ := by
  obtain ⟨A, hA, rfl⟩ := low16_nat h
  rw [card_pc] at hj ⊢
  obtain ⟨x, e, hs, hr⟩ := en_rk hA j hj
  have l := sm_le hs
  have w := rk_all 16 A
  rw [e, nI_eq (by omega) (by omega)]
  constructor
  · intro q; rw [q] at hr; omega
  · intro q; exact rk_inj 16 A x hA hs (by omega)
theorem ex_inv {hs bs : Nat → Int32} {n : Nat} {as_ : Int32} {a : Nat} (h : low16 as_) : ∀ j, ((exB hs bs n as_ a j).1 = -1 ∧ (exB hs bs n as_ a j).2.1 = nI 9) ∨ (low16 (exB hs bs n as_ a j).1 ∧ (exB hs bs n as_ a j).2.1 = bc (exB hs bs n as_ a j).1)
  | 0 => Or.inl ⟨rfl, rfl⟩
  | j + 1 => by
    by_cases c : ¬ (exB hs bs n as_ a j).2.1 ≤ bc (exB hs bs n as_ a j).2.2 ∧ has (clo hs bs n (evr n) (exB hs bs n as_ a j).2.2) (nI a) = true
    · rw [exB_pos c]
      exact Or.inr ⟨by rw [exB_en]; exact enJ_low h j, rfl⟩
    · rw [exB_neg c]
      exact ex_inv h j
theorem ex_sh {hs bs : Nat → Int32} {n : Nat} {as_ : Int32} {a : Nat} (h : low16 as_) (hc : card as_ ≤ 8) (j : Nat) : (¬ (exB hs bs n as_ a j).2.1 ≤ bc (exB hs bs n as_ a j).2.2) ↔ ((exB hs bs n as_ a j).1 = -1 ∨ szF (exB hs bs n as_ a j).2.2 16 < szF (exB hs bs n as_ a j).1 16) := by
  have hl := enJ_low h j
  have hm : card (enJ as_ j) ≤ 8 := Nat.le_trans (cnt_mono fun k hk => enJ_sub as_ j k (by omega)) hc
  have c1 := card_le (exB hs bs n as_ a j).1
  rw [exB_en, sz_low hl, bc_card hl]
  rcases ex_inv (hs := hs) (bs := bs) (n := n) (a := a) h j with q | q
  · rw [q.2]
    exact ⟨fun _ => Or.inl q.1, fun _ => nI_ge (by omega) (by omega)⟩
  · rw [q.2, sz_low q.1, bc_card q.1, nI_leI (by omega) (by omega), nI_ltI (by omega) (by omega)]
    exact ⟨fun w => Or.inr (by omega), fun w => w.elim (fun z => absurd z (low16_ne q.1)) (fun z => by omega)⟩
theorem ex_m {hs bs : Nat → Int32} {n : Nat} {as_ x2 : Int32} {a j : Nat} (h : low16 as_) (hc : card as_ ≤ 8) (e2 : x2 = (exB hs bs n as_ a j).1) (c : x2 = -1) : ¬ (exB hs bs n as_ a j).2.1 ≤ bc (exB hs bs n as_ a j).2.2 := (ex_sh h hc j).mpr (Or.inl (e2.symm.trans c))
theorem ex_y {hs bs : Nat → Int32} {n : Nat} {as_ x2 x3 : Int32} {a j : Nat} (h : low16 as_) (hc : card as_ ≤ 8) (e2 : x2 = (exB hs bs n as_ a j).1) (e3 : x3 = (exB hs bs n as_ a j).2.2) (c : ¬ szF x2 16 ≤ szF x3 16) : ¬ (exB hs bs n as_ a j).2.1 ≤ bc (exB hs bs n as_ a j).2.2 := (ex_sh h hc j).mpr (Or.inr (by rw [← e2, ← e3]; exact Int32.not_le.mp c))
theorem ex_n {hs bs : Nat → Int32} {n : Nat} {as_ x2 x3 : Int32} {a j : Nat} (h : low16 as_) (hc : card as_ ≤ 8) (e2 : x2 = (exB hs bs n as_ a j).1) (e3 : x3 = (exB hs bs n as_ a j).2.2) (c1 : ¬ x2 = -1) (c : szF x2 16 ≤ szF x3 16) : ¬ ¬ (exB hs bs n as_ a j).2.1 ≤ bc (exB hs bs n as_ a j).2.2 := fun q => by
  have w := (ex_sh h hc j).mp q
  rw [← e2, ← e3] at w
  exact w.elim c1 (fun z => Int32.not_le.mpr z c)
