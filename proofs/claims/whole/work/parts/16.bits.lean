/-! ===== Int32 by its bits: bt x i ===== -/
def bt (x : Int32) (i : Nat) : Bool := x.toBitVec.getLsbD i
theorem b_ext {x y : Int32} (h : ∀ i, i < 32 → bt x i = bt y i) : x = y := Int32.toBitVec_inj.mp (BitVec.eq_of_getLsbD_eq (fun i hi => h i hi))
theorem b_or (x y : Int32) (i : Nat) : bt (x ||| y) i = (bt x i || bt y i) := by unfold bt; rw [Int32.toBitVec_or, BitVec.getLsbD_or]
theorem b_and (x y : Int32) (i : Nat) : bt (x &&& y) i = (bt x i && bt y i) := by unfold bt; rw [Int32.toBitVec_and, BitVec.getLsbD_and]
theorem b_xor (x y : Int32) (i : Nat) : bt (x ^^^ y) i = (bt x i ^^ bt y i) := by unfold bt; rw [Int32.toBitVec_xor, BitVec.getLsbD_xor]
theorem b_big {x : Int32} {i : Nat} (h : 32 ≤ i) : bt x i = false := BitVec.getLsbD_of_ge _ _ h
theorem b_255 (i : Nat) : bt 255 i = decide (i < 8) := by
  rcases Nat.lt_or_ge i 32 with h | h
  · exact (by decide +kernel : ∀ i, i < 32 → bt 255 i = decide (i < 8)) i h
  · rw [b_big h, decide_eq_false (by omega)]
theorem b_65535 (i : Nat) : bt 65535 i = decide (i < 16) := by
  rcases Nat.lt_or_ge i 32 with h | h
  · exact (by decide +kernel : ∀ i, i < 32 → bt 65535 i = decide (i < 16)) i h
  · rw [b_big h, decide_eq_false (by omega)]
theorem b_m1 : ∀ i, i < 32 → bt (-1) i = true := by decide +kernel
theorem b_0 (i : Nat) : bt 0 i = false := BitVec.getLsbD_zero
theorem s_l : ∀ n, n < 32 → ((nI n &&& 31).toBitVec.smod 32).toNat = n := by decide +kernel
theorem s_u : ∀ n, n < 32 → (((nI n).toUInt32 &&& Int32.toUInt32 31).toBitVec % 32).toNat = n := by decide +kernel
theorem b_shl (n : Nat) (hn : n < 32) (x : Int32) {i : Nat} (hi : i < 32) : bt (x <<< (nI n &&& 31)) i = (decide (n ≤ i) && bt x (i - n)) := by
  unfold bt
  rw [Int32.toBitVec_shiftLeft]
  show (x.toBitVec <<< ((nI n &&& 31).toBitVec.smod 32).toNat).getLsbD i = _
  rw [s_l n hn, BitVec.getLsbD_shiftLeft]
  rcases Nat.lt_or_ge i n with h | h
  · simp [h, Nat.not_le.mpr h]
  · simp [hi, h, Nat.not_lt.mpr h]
theorem b_ushr (n : Nat) (hn : n < 32) (x : Int32) (i : Nat) : bt ((x.toUInt32 >>> ((nI n).toUInt32 &&& Int32.toUInt32 31)).toInt32) i = bt x (n + i) := by
  show (x.toUInt32 >>> ((nI n).toUInt32 &&& Int32.toUInt32 31)).toBitVec.getLsbD i = x.toUInt32.toBitVec.getLsbD (n + i)
  rw [UInt32.toBitVec_shiftRight]
  show (x.toUInt32.toBitVec >>> (((nI n).toUInt32 &&& Int32.toUInt32 31).toBitVec % 32).toNat).getLsbD i = _
  rw [s_u n hn, BitVec.getLsbD_ushiftRight]
theorem b_sshr (n : Nat) (hn : n < 32) (x : Int32) {i : Nat} (hi : i < 32) : bt (x >>> (nI n &&& 31)) i = if n + i < 32 then bt x (n + i) else bt x 31 := by
  unfold bt
  rw [Int32.toBitVec_shiftRight]
  show (x.toBitVec.sshiftRight ((nI n &&& 31).toBitVec.smod 32).toNat).getLsbD i = _
  rw [s_l n hn, BitVec.getLsbD_sshiftRight, BitVec.msb_eq_getLsbD_last]
  simp [hi]
theorem b_shl8 (x : Int32) {i : Nat} (hi : i < 32) : bt (x <<< ((8 : Int32) &&& 31)) i = (decide (8 ≤ i) && bt x (i - 8)) := b_shl 8 (by omega) x hi
theorem b_shl16 (x : Int32) {i : Nat} (hi : i < 32) : bt (x <<< ((16 : Int32) &&& 31)) i = (decide (16 ≤ i) && bt x (i - 16)) := b_shl 16 (by omega) x hi
theorem b_shl24 (x : Int32) {i : Nat} (hi : i < 32) : bt (x <<< ((24 : Int32) &&& 31)) i = (decide (24 ≤ i) && bt x (i - 24)) := b_shl 24 (by omega) x hi
theorem b_sshr8 (x : Int32) {i : Nat} (hi : i < 32) : bt (x >>> ((8 : Int32) &&& 31)) i = if 8 + i < 32 then bt x (8 + i) else bt x 31 := b_sshr 8 (by omega) x hi
/-! ===== what the methods' tests say of bits ===== -/
theorem bt_1 : ∀ i, i < 32 → bt (nI 1) i = decide (i = 0) := by decide +kernel
theorem bt_sh {a i : Nat} (ha : a < 32) (hi : i < 32) : bt (nI 1 <<< (nI a &&& 31)) i = decide (a = i) := by
  rw [b_shl a ha _ hi]
  by_cases h : a ≤ i
  · rw [decide_eq_true h, Bool.true_and, bt_1 _ (by omega)]
    exact decide_eq_decide.mpr ⟨fun q => by omega, fun q => by omega⟩
  · rw [decide_eq_false h, Bool.false_and]
    exact (decide_eq_false (by omega)).symm
theorem bt_eq0 {x : Int32} : x = 0 ↔ ∀ i, i < 32 → bt x i = false :=
  ⟨fun h i _ => by rw [h]; exact b_0 i, fun h => b_ext fun i hi => by rw [h i hi, b_0]⟩
theorem has_bt (x : Int32) {a : Nat} (ha : a < 32) : has x (nI a) = bt x a := by
  unfold has
  cases hb : bt x a with
  | false =>
    refine decide_eq_false (fun h => h (bt_eq0.mpr fun i hi => ?_))
    rw [b_and, bt_sh ha hi]
    by_cases e : a = i
    · subst e; rw [hb, Bool.false_and]
    · rw [decide_eq_false e, Bool.and_false]
  | true =>
    refine decide_eq_true (fun h => ?_)
    have h2 := bt_eq0.mp h a ha
    rw [b_and, bt_sh ha ha, hb, decide_eq_true rfl] at h2
    cases h2
theorem b_not (x : Int32) {i : Nat} (hi : i < 32) : bt (x ^^^ (-1)) i = !bt x i := by rw [b_xor, b_m1 i hi, Bool.xor_true]
theorem sbs_bt {x y : Int32} : sbs x y = true ↔ ∀ i, i < 32 → bt x i = true → bt y i = true := by
  unfold sbs
  rw [decide_eq_true_iff, bt_eq0]
  constructor
  · intro h i hi hx
    have h2 := h i hi
    rw [b_and, b_not y hi, hx, Bool.true_and] at h2
    cases hy : bt y i with
    | true => rfl
    | false => rw [hy] at h2; cases h2
  · intro h i hi
    rw [b_and, b_not y hi]
    cases hx : bt x i with
    | false => rfl
    | true => rw [h i hi hx]; rfl
theorem shr_bt (x : Int32) {a : Nat} (ha : a < 32) : (x >>> (nI a &&& 31)) &&& nI 1 = if bt x a = true then nI 1 else nI 0 := by
  refine b_ext fun i hi => ?_
  rw [b_and, b_sshr a ha x hi, bt_1 i hi]
  by_cases h0 : i = 0
  · subst h0
    rw [decide_eq_true rfl, Bool.and_true, if_pos (by omega), Nat.add_zero]
    cases hb : bt x a with
    | true => rw [if_pos rfl, bt_1 0 (by decide)]; rfl
    | false => rw [if_neg (by decide)]; exact (b_0 0).symm
  · rw [decide_eq_false h0, Bool.and_false]
    split
    · rw [bt_1 i hi]; exact (decide_eq_false h0).symm
    · exact (b_0 i).symm
theorem shr_1 {x : Int32} {a : Nat} (ha : a < 32) : (x >>> (nI a &&& 31)) &&& nI 1 = nI 1 ↔ has x (nI a) = true := by
  rw [shr_bt x ha, has_bt x ha]
  cases bt x a <;> decide
theorem shr_0 {x : Int32} {a : Nat} (ha : a < 32) : (x >>> (nI a &&& 31)) &&& nI 1 = 0 ↔ has x (nI a) = false := by
  rw [shr_bt x ha, has_bt x ha]
  cases bt x a <;> decide
theorem has_or (x : Int32) {a i : Nat} (ha : a < 32) (hi : i < 32) : has (x ||| (nI 1 <<< (nI a &&& 31))) (nI i) = (has x (nI i) || decide (a = i)) := by
  rw [has_bt _ hi, has_bt _ hi, b_or, bt_sh ha hi]
