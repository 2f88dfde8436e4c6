theorem nx_and (a b : Nat) : nI a &&& nI b = nI (a &&& b) := by
  apply Int32.toBitVec_inj.1
  show BitVec.ofNat 32 a &&& BitVec.ofNat 32 b = BitVec.ofNat 32 (a &&& b)
  apply BitVec.eq_of_getLsbD_eq
  intro i hi
  simp [hi]
theorem nx_xor (a b : Nat) : nI a ^^^ nI b = nI (a ^^^ b) := by
  apply Int32.toBitVec_inj.1
  show BitVec.ofNat 32 a ^^^ BitVec.ofNat 32 b = BitVec.ofNat 32 (a ^^^ b)
  apply BitVec.eq_of_getLsbD_eq
  intro i hi
  simp [hi]
theorem nx_cnt : ∀ j : Fin 32, (UInt32.ofNat j.val &&& Int32.toUInt32 31).toNat % 32 = j.val := by decide +kernel
theorem nx_ush {k j : Nat} (hk : k < 65536) (hj : j < 32) : ((nI k).toUInt32 >>> ((nI j).toUInt32 &&& Int32.toUInt32 31)).toInt32 = nI (k >>> j) := by
  have hs : k >>> j ≤ k := by
    rw [Nat.shiftRight_eq_div_pow]
    exact Nat.div_le_self _ _
  have e2 : UInt32.ofNat k >>> (UInt32.ofNat j &&& Int32.toUInt32 31) = UInt32.ofNat (k >>> j) := by
    apply UInt32.toNat_inj.1
    have h1 : (UInt32.ofNat k).toNat = k := Nat.mod_eq_of_lt (by omega)
    have h2 : (UInt32.ofNat (k >>> j)).toNat = k >>> j := Nat.mod_eq_of_lt (by omega)
    rw [UInt32.toNat_shiftRight, nx_cnt ⟨j, hj⟩, h1, h2]
  show (UInt32.ofNat k >>> (UInt32.ofNat j &&& Int32.toUInt32 31)).toInt32 = _
  rw [e2]
  rfl
/-! counting bits -/
theorem bt_nI (m : Nat) {i : Nat} (hi : i < 32) : bt (nI m) i = m.testBit i := by
  show (BitVec.ofNat 32 m).getLsbD i = _
  rw [BitVec.getLsbD_ofNat]
  simp [hi]
theorem low16_nI {m : Nat} (h : m < 65536) : low16 (nI m) := fun i h1 h2 => by
  rw [bt_nI m h2]
  exact Nat.testBit_lt_two_pow (Nat.lt_of_lt_of_le (show m < 2 ^ 16 from h) (Nat.pow_le_pow_right (by decide) h1))
theorem nI_32 (x : Int32) : ∃ m, m < 2 ^ 32 ∧ x = nI m := ⟨x.toBitVec.toNat, x.toBitVec.isLt, by
  apply Int32.toBitVec_inj.1
  show x.toBitVec = BitVec.ofNat 32 x.toBitVec.toNat
  rw [BitVec.ofNat_toNat, BitVec.setWidth_eq]⟩
theorem low16_nat {x : Int32} (h : low16 x) : ∃ m, m < 65536 ∧ x = nI m := by
  obtain ⟨m, hm, rfl⟩ := nI_32 x
  refine ⟨m, ?_, rfl⟩
  refine Nat.lt_pow_two_of_testBit (n := 16) m fun i hi => ?_
  rcases Nat.lt_or_ge i 32 with q | q
  · rw [← bt_nI m q]; exact h i hi q
  · exact Nat.testBit_lt_two_pow (Nat.lt_of_lt_of_le hm (Nat.pow_le_pow_right (by decide) q))
def pcA : Nat → Nat → Nat
  | 0, _ => 0
  | w + 1, m => m % 2 + pcA w (m / 2)
theorem cnt_first (p : Nat → Bool) : ∀ w, cnt p (w + 1) = (if p 0 = true then 1 else 0) + cnt (fun i => p (i + 1)) w
  | 0 => by rw [cnt, cnt, cnt]; omega
  | w + 1 => by rw [cnt, cnt_first p w, cnt]; omega
theorem pcA_cnt : ∀ w m, pcA w m = cnt (fun i => m.testBit i) w
  | 0, _ => rfl
  | w + 1, m => by
    rw [pcA, pcA_cnt w (m / 2), cnt_first]
    have e : (fun i => m.testBit (i + 1)) = fun i => (m / 2).testBit i := by funext i; rw [Nat.testBit_succ]
    rw [e, Nat.testBit_zero]
    by_cases h : m % 2 = 1
    · rw [if_pos (decide_eq_true h), h]
    · rw [if_neg (by rw [decide_eq_false h]; decide)]; omega
theorem cnt_cong {p q : Nat → Bool} : ∀ {n : Nat}, (∀ k, k < n → p k = q k) → cnt p n = cnt q n
  | 0, _ => rfl
  | n + 1, h => by rw [cnt, cnt, cnt_cong (fun k hk => h k (by omega)), h n (by omega)]
theorem card_pc (m : Nat) : card (nI m) = pcA 16 m := by
  rw [pcA_cnt]
  exact cnt_cong fun k hk => bt_nI m (by omega)
def bcN (m : Nat) : Nat :=
  let a := m - ((m >>> 1) &&& 1431655765)
  let b := (a &&& 858993459) + ((a >>> 2) &&& 858993459)
  let c := (b + (b >>> 4)) &&& 252645135
  let d := c + (c >>> 8)
  (d + (d >>> 16)) &&& 63
def bcE1 (m : Nat) : Nat := Nat.sub m (Nat.land (Nat.shiftRight m 1) 1431655765)
def bcE2 (a : Nat) : Nat := Nat.add (Nat.land a 858993459) (Nat.land (Nat.shiftRight a 2) 858993459)
def bcE3 (b : Nat) : Nat := Nat.land (Nat.add b (Nat.shiftRight b 4)) 252645135
def bcE4 (c : Nat) : Nat := Nat.add c (Nat.shiftRight c 8)
def bcE5 (d : Nat) : Nat := Nat.land (Nat.add d (Nat.shiftRight d 16)) 63
theorem bcN_E (m : Nat) : bcN m = bcE5 (bcE4 (bcE3 (bcE2 (bcE1 m)))) := rfl
def pcE (m : Nat) : Nat := Nat.add (Nat.add (Nat.add (Nat.add (Nat.add (Nat.add (Nat.add (Nat.add (Nat.add (Nat.add (Nat.add (Nat.add (Nat.add (Nat.add (Nat.add (Nat.land m 1) (Nat.land (Nat.shiftRight m 1) 1)) (Nat.land (Nat.shiftRight m 2) 1)) (Nat.land (Nat.shiftRight m 3) 1)) (Nat.land (Nat.shiftRight m 4) 1)) (Nat.land (Nat.shiftRight m 5) 1)) (Nat.land (Nat.shiftRight m 6) 1)) (Nat.land (Nat.shiftRight m 7) 1)) (Nat.land (Nat.shiftRight m 8) 1)) (Nat.land (Nat.shiftRight m 9) 1)) (Nat.land (Nat.shiftRight m 10) 1)) (Nat.land (Nat.shiftRight m 11) 1)) (Nat.land (Nat.shiftRight m 12) 1)) (Nat.land (Nat.shiftRight m 13) 1)) (Nat.land (Nat.shiftRight m 14) 1)) (Nat.land (Nat.shiftRight m 15) 1)
theorem pcE_A (m : Nat) : pcE m = pcA 16 m := by
  unfold pcE
  simp only [pcA, Nat.add_eq, show ∀ a b : Nat, Nat.land a b = a &&& b from fun _ _ => rfl, show ∀ a b : Nat, Nat.shiftRight a b = a >>> b from fun _ _ => rfl, Nat.and_one_is_mod, Nat.shiftRight_eq_div_pow, Nat.div_div_eq_div_mul, Nat.reducePow, Nat.reduceMul, Nat.add_assoc, Nat.add_zero]
def chk : Nat → Nat → Bool := fun k => Nat.rec (motive := fun _ => Nat → Bool) (fun lo => Nat.beq (bcE5 (bcE4 (bcE3 (bcE2 (bcE1 lo))))) (pcE lo)) (fun k ih lo => Bool.and (ih lo) (ih (Nat.add lo (Nat.pow 2 k)))) k
theorem chk_all : ∀ {k lo : Nat}, chk k lo = true → ∀ m, lo ≤ m → m < lo + 2 ^ k → bcN m = pcA 16 m
  | 0, lo, h, m, h1, h2 => by
    have e : m = lo := by
      rw [Nat.pow_zero] at h2
      omega
    rw [e, bcN_E, ← pcE_A]
    exact Nat.eq_of_beq_eq_true h
  | k + 1, lo, h, m, h1, h2 => by
    have h : (chk k lo && chk k (lo + 2 ^ k)) = true := h
    rw [Bool.and_eq_true] at h
    rw [Nat.pow_succ] at h2
    rcases Nat.lt_or_ge m (lo + 2 ^ k) with q | q
    · exact chk_all h.1 m h1 q
    · exact chk_all h.2 m q (by omega)
set_option maxRecDepth 100000 in
theorem chk_0 : chk 14 0 = true := by decide +kernel
set_option maxRecDepth 100000 in
theorem chk_1 : chk 14 16384 = true := by decide +kernel
set_option maxRecDepth 100000 in
theorem chk_2 : chk 14 32768 = true := by decide +kernel
set_option maxRecDepth 100000 in
theorem chk_3 : chk 14 49152 = true := by decide +kernel
theorem bcN_pc {m : Nat} (h : m < 65536) : bcN m = pcA 16 m := by
  rcases Nat.lt_or_ge m 16384 with q | q
  · exact chk_all chk_0 m (by omega) (by omega)
  rcases Nat.lt_or_ge m 32768 with q2 | q2
  · exact chk_all chk_1 m (by omega) (by omega)
  rcases Nat.lt_or_ge m 49152 with q3 | q3
  · exact chk_all chk_2 m (by omega) (by omega)
  · exact chk_all chk_3 m (by omega) (by omega)
theorem nI_sub {a b : Nat} (h : b ≤ a) : nI a - nI b = nI (a - b) := by
  have e := nI_sub_add b (a - b)
  rw [show b + (a - b) = a from by omega] at e
  exact e
theorem ush_nI {k j : Nat} (hk : k < 65536) (hj : j < 32) : ush (nI k) j = nI (k >>> j) := nx_ush hk hj
theorem shr_le (a j : Nat) : a >>> j ≤ a := by
  rw [Nat.shiftRight_eq_div_pow]
  exact Nat.div_le_self _ _
theorem bc_N {m : Nat} (h : m < 65536) : bc (nI m) = nI (bcN m) := by
  unfold bc bcN
  have h1 : (m >>> 1) &&& 1431655765 ≤ m := Nat.le_trans Nat.and_le_left (shr_le m 1)
  dsimp only
  rw [ush_nI h (by decide), nx_and, nI_sub h1]
  generalize ha : m - ((m >>> 1) &&& 1431655765) = a
  have ha2 : a < 65536 := by omega
  have h2 : a &&& 858993459 ≤ a := Nat.and_le_left
  have hs2 : (a >>> 2) = a / 4 := Nat.shiftRight_eq_div_pow a 2
  have h3 : (a >>> 2) &&& 858993459 ≤ a / 4 := by rw [hs2]; exact Nat.and_le_left
  rw [ush_nI ha2 (by decide), nx_and, nx_and, nI_add]
  generalize hb : (a &&& 858993459) + ((a >>> 2) &&& 858993459) = b
  have hb3 : b ≤ 26214 + 26214 := by
    have q1 : a &&& 858993459 ≤ 13107 := by
      have e : a &&& 858993459 = (a &&& 858993459) % 65536 := (Nat.mod_eq_of_lt (by omega)).symm
      rw [e, show 65536 = 2 ^ 16 from rfl, Nat.and_mod_two_pow]
      exact Nat.le_trans Nat.and_le_right (by decide)
    have q2 : (a >>> 2) &&& 858993459 ≤ 13107 := by
      have e : (a >>> 2) &&& 858993459 = ((a >>> 2) &&& 858993459) % 65536 := (Nat.mod_eq_of_lt (by omega)).symm
      rw [e, show 65536 = 2 ^ 16 from rfl, Nat.and_mod_two_pow]
      exact Nat.le_trans Nat.and_le_right (by decide)
    omega
  have hs4 : (b >>> 4) = b / 16 := Nat.shiftRight_eq_div_pow b 4
  rw [ush_nI (by omega) (by decide), nI_add, nx_and]
  generalize hc : (b + b >>> 4) &&& 252645135 = c
  have hc2 : c ≤ b + b >>> 4 := by rw [← hc]; exact Nat.and_le_left
  have hs8 : (c >>> 8) = c / 256 := Nat.shiftRight_eq_div_pow c 8
  rw [ush_nI (by omega) (by decide), nI_add]
  generalize hd : c + c >>> 8 = d
  rw [ush_nI (by omega) (by decide), nI_add, nx_and]
theorem bc_card {x : Int32} (h : low16 x) : bc x = nI (card x) := by
  obtain ⟨m, hm, rfl⟩ := low16_nat h
  rw [bc_N hm, bcN_pc hm, card_pc]
/-- the reference's count -/
def szF (x : Int32) : Nat → Int32
  | 0 => nI 0
  | k + 1 => szF x k + ((x >>> (nI k &&& 31)) &&& nI 1)
theorem szF_cnt (x : Int32) : ∀ k, k ≤ 32 → szF x k = nI (cnt (bt x) k)
  | 0, _ => rfl
  | k + 1, h => by
    rw [szF, szF_cnt x k (by omega), shr_bt x (by omega), cnt]
    split
    · rw [nI_add]
    · rw [nI_add]
theorem card_le (x : Int32) : card x ≤ 16 := cnt_le _ 16
theorem cOK_of {bs : Nat → Int32} {n : Nat} (h : bOK bs n) : cOK bs n := fun j hj => by
  rw [bc_card (h j hj)]
  have := card_le (bs j)
  rw [nI_toInt (by omega)]
  omega
