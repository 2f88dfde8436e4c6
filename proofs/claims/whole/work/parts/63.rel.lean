/-! The rules, the assumable atoms and the saved states that calls can make; what ties the two sides. -/
def vR (R : List (Int32 × Int32)) : Prop := ∀ q ∈ R, isA q.1 = true ∧ low16 q.2
def vA (a : Int32) : Prop := low16 a ∧ card a ≤ 8
def vS (G : List SS) : Prop := ∀ q ∈ G, vR q.1 ∧ vA q.2
theorem tab2_mem (hs bs : Nat → Int32) {n j : Nat} (hj : j < n) : (hs j, bs j) ∈ tab2 hs bs n := List.mem_map.mpr ⟨j, List.mem_range.mpr hj, rfl⟩
theorem vR_h {hs bs : Nat → Int32} {n : Nat} (h : vR (tab2 hs bs n)) : hOK hs n := fun j hj => isA_nat (h _ (tab2_mem hs bs hj)).1
theorem vR_b {hs bs : Nat → Int32} {n : Nat} (h : vR (tab2 hs bs n)) : bOK bs n := fun j hj => (h _ (tab2_mem hs bs hj)).2
theorem vA_8 {x : Int32} (h : isS x (nI 8) = true) : vA x := by
  have hl := isS_low h
  have h3 := (of_decide_eq_true h).2.2
  rw [bc_card hl] at h3
  have hc := card_le x
  exact ⟨hl, Nat.not_lt.mp fun q => h3 ((nI_ltI (by decide) (by omega)).mpr q)⟩
theorem svP_v {G : List SS} {R : List (Int32 × Int32)} {a : Int32} (hG : vS G) (hR : vR R) (hA : vA a) : vS (svP G (R, a)) := by
  intro q hq
  unfold svP at hq
  rcases List.mem_append.mp hq with h | h
  · split at h
    · exact hG q h
    · exact hG q (List.mem_of_mem_drop h)
  · rw [List.mem_singleton.mp h]
    exact ⟨hR, hA⟩
theorem addS_v {x y r : Int32} {R R2 : List (Int32 × Int32)} {a : Int32} {G G2 : List SS} {er er2 : Nat → Int32} (h : (r, R2, G2, er2) = addS x y R a G er) (hR : vR R) (hA : vA a) (hG : vS G) : vR R2 ∧ vS G2 := by
  unfold addS at h
  split at h
  · rename_i h1
    split at h
    · cases h
      exact ⟨hR, hG⟩
    · cases h
      have h2 := (Bool.and_eq_true _ _).mp h1
      refine ⟨fun q hq => ?_, svP_v hG hR hA⟩
      rcases List.mem_append.mp hq with z | z
      · exact hR q z
      · rw [List.mem_singleton.mp z]
        exact ⟨h2.1, isS_low h2.2⟩
  · cases h
    exact ⟨hR, hG⟩
theorem remS_v {x r : Int32} {R R2 : List (Int32 × Int32)} {a : Int32} {G G2 : List SS} {er er2 : Nat → Int32} (h : (r, R2, G2, er2) = remS x R a G er) (hR : vR R) (hA : vA a) (hG : vS G) : vR R2 ∧ vS G2 := by
  unfold remS at h
  split at h
  · cases h
    exact ⟨fun q hq => hR q (List.mem_of_mem_eraseIdx hq), svP_v hG hR hA⟩
  · cases h
    exact ⟨hR, hG⟩
theorem asmS_v {x r a a2 : Int32} {R : List (Int32 × Int32)} {G G2 : List SS} {er er2 : Nat → Int32} (h : (r, a2, G2, er2) = asmS x R a G er) (hR : vR R) (hA : vA a) (hG : vS G) : vA a2 ∧ vS G2 := by
  unfold asmS at h
  split at h
  · rename_i h1
    cases h
    exact ⟨vA_8 h1, svP_v hG hR hA⟩
  · cases h
    exact ⟨hA, hG⟩
theorem rdLF_v {it : Nat → Int32} {cn : Nat} : ∀ (f n q : Nat) (z : List (Int32 × Int32)), rdLF it cn f n q = .inr z → vR z
  | 0, n, q, z, h => by
    unfold rdLF at h
    cases h
  | f + 1, n, q, z, h => by
    unfold rdLF at h
    split at h
    · split at h
      · cases h
      · rename_i x q2 hU
        split at h
        · cases h
        · rename_i z2 h2
          cases h
          have h3 := rdU_le hU
          intro w hw
          rcases List.mem_cons.mp hw with rfl | hw
          · exact ⟨h3.2.2.1, h3.2.2.2.1⟩
          · exact rdLF_v f (n + 1) _ _ h2 w hw
    · cases h
      intro w hw
      cases hw
theorem parS_v {it : Nat → Int32} {cn : Nat} {r : Int32} {R R2 : List (Int32 × Int32)} {a : Int32} {G G2 : List SS} (h : (r, R2, G2) = parS it cn R a G) (hR : vR R) (hA : vA a) (hG : vS G) : vR R2 ∧ vS G2 := by
  unfold parS at h
  split at h
  · have h1 : R2 = R := congrArg (fun t => t.2.1) h
    have h2 : G2 = G := congrArg (fun t => t.2.2) h
    rw [h1, h2]
    exact ⟨hR, hG⟩
  · rename_i z hz
    cases h
    refine ⟨fun q hq => ?_, svP_v hG hR hA⟩
    rcases List.mem_append.mp hq with w | w
    · exact hR q w
    · exact rdLF_v _ _ _ _ hz q w
theorem undS_v {r a a2 : Int32} {R R2 : List (Int32 × Int32)} {G G2 : List SS} {er er2 : Nat → Int32} (h : (r, (R2, a2), G2, er2) = undS R a G er) (hR : vR R) (hA : vA a) (hG : vS G) : vR R2 ∧ vA a2 ∧ vS G2 := by
  unfold undS at h
  split at h
  · cases h
    exact ⟨hR, hA, hG⟩
  · rename_i x hx
    have h1 : (R2, a2) = x := congrArg (fun t => t.2.1) h
    have h2 : G2 = G.dropLast := congrArg (fun t => t.2.2.1) h
    have h3 := hG x (List.mem_of_getLast? hx)
    rw [← h1] at h3
    rw [h2]
    exact ⟨h3.1, h3.2, fun q hq => hG q (List.dropLast_subset G hq)⟩
theorem p3q {α β γ : Type} {a a2 : α} {b b2 : β} {c c2 : γ} {x : α × β × γ} (h : (a, b, c) = x) (h2 : (a2, b2, c2) = x) : a = a2 ∧ b = b2 ∧ c = c2 := by
  have h := h.trans h2.symm
  exact ⟨congrArg (fun t => t.1) h, congrArg (fun t => t.2.1) h, congrArg (fun t => t.2.2) h⟩
theorem p4q {α β γ δ : Type} {a a2 : α} {b b2 : β} {c c2 : γ} {d d2 : δ} {x : α × β × γ × δ} (h : (a, b, c, d) = x) (h2 : (a2, b2, c2, d2) = x) : a = a2 ∧ b = b2 ∧ c = c2 ∧ d = d2 := by
  have h := h.trans h2.symm
  exact ⟨congrArg (fun t => t.1) h, congrArg (fun t => t.2.1) h, congrArg (fun t => t.2.2.1) h, congrArg (fun t => t.2.2.2) h⟩
/-- what ties the engine's numbers to the reference's -/
def Rl (hs bs : Nat → Int32) (n : Nat) (as_ : Int32) (BH BB : Nat → Nat → Int32) (Bn : Nat → Nat) (Ba : Nat → Int32) (k : Nat) (it : Nat → Int32) (cn qn fn qd fm : Nat) (av sv : Nat → Int32) : Prop :=
  n ≤ 24 ∧ k ≤ 4 ∧ (∀ i, i < 4 → Bn i ≤ 24) ∧ cn ≤ 120 ∧ qn ≤ 16 ∧ fn ≤ 24 ∧ qd ≤ 16 ∧ fm ≤ 24 ∧ mA av hs bs n as_ ∧ svOK sv k ∧ hsv BH BB Bn Ba k = msv sv k ∧ tOK it cn ∧ vR (tab2 hs bs n) ∧ vA as_ ∧ vS (msv sv k)
section RL1
variable {hs bs : Nat → Int32} {n : Nat} {as_ : Int32} {BH BB : Nat → Nat → Int32} {Bn : Nat → Nat} {Ba : Nat → Int32} {k : Nat} {it : Nat → Int32} {cn qn fn qd fm : Nat} {av sv : Nat → Int32}
variable {hs1 bs1 : Nat → Int32} {n1 : Nat} {as1 : Int32} {BH1 BB1 : Nat → Nat → Int32} {Bn1 : Nat → Nat} {Ba1 : Nat → Int32} {k1 : Nat} {er er1 : Nat → Int32} {r : Int32}
variable {hs2 bs2 : Nat → Int32} {n2 : Nat} {as2 : Int32} {av2 sv2 : Nat → Int32} {sm2 : Nat} {er2 : Nat → Int32} {r2 : Int32}
theorem Rl_step (F : List (Int32 × Int32) → Int32 → List SS → (Nat → Int32) → Int32 × List (Int32 × Int32) × List SS × (Nat → Int32)) (hF : ∀ {r : Int32} {R R2 : List (Int32 × Int32)} {a : Int32} {G G2 : List SS} {er er2 : Nat → Int32}, (r, R2, G2, er2) = F R a G er → vR R → vA a → vS G → vR R2 ∧ vS G2)
    (h : Rl hs bs n as_ BH BB Bn Ba k it cn qn fn qd fm av sv) (h5 : (r, tab2 hs1 bs1 n1, hsv BH1 BB1 Bn1 Ba1 k1, er1) = F (tab2 hs bs n) as_ (hsv BH BB Bn Ba k) er ∧ n1 ≤ 24 ∧ k1 ≤ 4 ∧ ∀ i, i < 4 → Bn1 i ≤ 24) (h6 : (r2, tab2 hs2 bs2 n2, msv sv2 sm2, er2) = F (tab2 hs bs n) as_ (msv sv k) er ∧ mA av2 hs2 bs2 n2 as_ ∧ n2 ≤ 24 ∧ sm2 ≤ 4 ∧ svOK sv2 sm2) :
    r = r2 ∧ er1 = er2 ∧ sm2 = k1 ∧ Rl hs1 bs1 n1 as_ BH1 BB1 Bn1 Ba1 k1 it cn qn fn qd fm av2 sv2 := by
  obtain ⟨g1, g2, g3, g4, g5, g6, g7, g8, g9, g10, g11, g12, g13, g14, g15⟩ := h
  obtain ⟨a1, a2, a3, a4⟩ := h5
  obtain ⟨b1, b2, b3, b4, b5⟩ := h6
  rw [g11] at a1
  obtain ⟨c1, c2, c3, c4⟩ := p4q a1 b1
  have c5 : sm2 = k1 := by
    have := congrArg List.length c3
    rw [hsv_len, msv_len] at this
    exact this.symm
  subst c5
  have v := hF a1 g13 g14 g15
  exact ⟨c1, c4, rfl, a2, a3, a4, g4, g5, g6, g7, g8, mA_tab b2 c2.symm, b5, c3, g12, v.1, g14, c3 ▸ v.2⟩
theorem Rl_asm {x : Int32} (h : Rl hs bs n as_ BH BB Bn Ba k it cn qn fn qd fm av sv) (h5 : (r, as1, hsv BH1 BB1 Bn1 Ba1 k1, er1) = asmS x (tab2 hs bs n) as_ (hsv BH BB Bn Ba k) er ∧ k1 ≤ 4 ∧ ∀ i, i < 4 → Bn1 i ≤ 24) (h6 : (r2, as2, msv sv2 sm2, er2) = asmS x (tab2 hs bs n) as_ (msv sv k) er ∧ mA av2 hs bs n as2 ∧ sm2 ≤ 4 ∧ svOK sv2 sm2) :
    r = r2 ∧ er1 = er2 ∧ sm2 = k1 ∧ Rl hs bs n as1 BH1 BB1 Bn1 Ba1 k1 it cn qn fn qd fm av2 sv2 := by
  obtain ⟨g1, g2, g3, g4, g5, g6, g7, g8, g9, g10, g11, g12, g13, g14, g15⟩ := h
  obtain ⟨a1, a3, a4⟩ := h5
  obtain ⟨b1, b2, b4, b5⟩ := h6
  rw [g11] at a1
  obtain ⟨c1, c2, c3, c4⟩ := p4q a1 b1
  have c5 : sm2 = k1 := by
    have := congrArg List.length c3
    rw [hsv_len, msv_len] at this
    exact this.symm
  subst c5
  subst c2
  have v := asmS_v a1 g13 g14 g15
  exact ⟨c1, c4, rfl, g1, a3, a4, g4, g5, g6, g7, g8, b2, b5, c3, g12, g13, v.1, c3 ▸ v.2⟩
theorem Rl_par (h : Rl hs bs n as_ BH BB Bn Ba k it cn qn fn qd fm av sv) {ap2 : Nat} (h5 : (r, tab2 hs1 bs1 n1, hsv BH1 BB1 Bn1 Ba1 k1) = parS it cn (tab2 hs bs n) as_ (hsv BH BB Bn Ba k) ∧ n1 ≤ 24 ∧ k1 ≤ 4 ∧ ∀ i, i < 4 → Bn1 i ≤ 24) (h6 : (r2, tab2 hs2 bs2 n2, msv sv2 sm2) = parS it cn (tab2 hs bs n) as_ (msv sv k) ∧ mA av2 hs2 bs2 n2 as_ ∧ n2 ≤ 24 ∧ sm2 ≤ 4 ∧ svOK sv2 sm2 ∧ ap2 ≤ cn) :
    r = r2 ∧ sm2 = k1 ∧ Rl hs1 bs1 n1 as_ BH1 BB1 Bn1 Ba1 k1 it cn qn fn qd fm av2 sv2 := by
  obtain ⟨g1, g2, g3, g4, g5, g6, g7, g8, g9, g10, g11, g12, g13, g14, g15⟩ := h
  obtain ⟨a1, a2, a3, a4⟩ := h5
  obtain ⟨b1, b2, b3, b4, b5, b6⟩ := h6
  rw [g11] at a1
  obtain ⟨c1, c2, c3⟩ := p3q a1 b1
  have c5 : sm2 = k1 := by
    have := congrArg List.length c3
    rw [hsv_len, msv_len] at this
    exact this.symm
  subst c5
  have v := parS_v a1 g13 g14 g15
  exact ⟨c1, rfl, a2, a3, a4, g4, g5, g6, g7, g8, mA_tab b2 c2.symm, b5, c3, g12, v.1, g14, c3 ▸ v.2⟩
theorem Rl_und (h : Rl hs bs n as_ BH BB Bn Ba k it cn qn fn qd fm av sv) (h5 : (r, (tab2 hs1 bs1 n1, as1), hsv BH BB Bn Ba k1, er1) = undS (tab2 hs bs n) as_ (hsv BH BB Bn Ba k) er ∧ n1 ≤ 24 ∧ k1 ≤ 4) (h6 : (r2, (tab2 hs2 bs2 n2, as2), msv sv sm2, er2) = undS (tab2 hs bs n) as_ (msv sv k) er ∧ mA av2 hs2 bs2 n2 as2 ∧ n2 ≤ 24 ∧ sm2 ≤ 4 ∧ svOK sv sm2) :
    r = r2 ∧ er1 = er2 ∧ sm2 = k1 ∧ Rl hs1 bs1 n1 as1 BH BB Bn Ba k1 it cn qn fn qd fm av2 sv := by
  obtain ⟨g1, g2, g3, g4, g5, g6, g7, g8, g9, g10, g11, g12, g13, g14, g15⟩ := h
  obtain ⟨a1, a2, a3⟩ := h5
  obtain ⟨b1, b2, b3, b4, b5⟩ := h6
  rw [g11] at a1
  obtain ⟨c1, c2, c3, c4⟩ := p4q a1 b1
  have c5 : sm2 = k1 := by
    have := congrArg List.length c3
    rw [hsv_len, msv_len] at this
    exact this.symm
  subst c5
  have c6 : tab2 hs1 bs1 n1 = tab2 hs2 bs2 n2 := congrArg (fun t => t.1) c2
  have c7 : as1 = as2 := congrArg (fun t => t.2) c2
  subst c7
  have v := undS_v a1 g13 g14 g15
  exact ⟨c1, c4, rfl, a2, a3, g3, g4, g5, g6, g7, g8, mA_tab b2 c6.symm, b5, c3, g12, v.1, v.2.1, c3 ▸ v.2.2⟩
theorem Rl_run {qn1 fn1 qd1 fm1 : Nat} (h : Rl hs bs n as_ BH BB Bn Ba k it cn qn fn qd fm av sv) (h5 : qn1 ≤ 16 ∧ fn1 ≤ 24) (h6 : qd1 ≤ 16 ∧ fm1 ≤ 24) : Rl hs bs n as_ BH BB Bn Ba k it cn qn1 fn1 qd1 fm1 av sv := by
  obtain ⟨g1, g2, g3, g4, g5, g6, g7, g8, g9⟩ := h
  exact ⟨g1, g2, g3, g4, h5.1, h5.2, h6.1, h6.2, g9⟩
theorem Rl_app {v : Int32} (h : Rl hs bs n as_ BH BB Bn Ba k it cn qn fn qd fm av sv) : Rl hs bs n as_ BH BB Bn Ba k (cond (isB v) (cond (decide (cn < 120)) (upd it cn v) it) it) (cond (isB v) (cond (decide (cn < 120)) (cn + 1) cn) cn) qn fn qd fm av sv := by
  obtain ⟨g1, g2, g3, g4, g5, g6, g7, g8, g9, g10, g11, g12, g13⟩ := h
  cases hb : isB v with
  | false => exact ⟨g1, g2, g3, g4, g5, g6, g7, g8, g9, g10, g11, g12, g13⟩
  | true =>
    by_cases hc : cn < 120
    · rw [decide_eq_true hc]
      refine ⟨g1, g2, g3, (show cn + 1 ≤ 120 by omega), g5, g6, g7, g8, g9, g10, g11, ?_, g13⟩
      intro q hq
      have hq : q < cn + 1 := hq
      show ¬ upd it cn v q = -1
      by_cases hqc : q = cn
      · subst hqc
        rw [show upd it q v q = v by simp [upd]]
        intro z
        rw [z] at hb
        exact absurd hb (by decide)
      · rw [show upd it cn v q = it q by simp [upd, hqc]]
        exact g12 q (by omega)
    · rw [decide_eq_false hc]
      exact ⟨g1, g2, g3, g4, g5, g6, g7, g8, g9, g10, g11, g12, g13⟩
theorem Rl_clr (h : Rl hs bs n as_ BH BB Bn Ba k it cn qn fn qd fm av sv) : Rl hs bs n as_ BH BB Bn Ba k it 0 qn fn qd fm av sv := by
  obtain ⟨g1, g2, g3, g4, g5, g6, g7, g8, g9, g10, g11, g12, g13⟩ := h
  exact ⟨g1, g2, g3, Nat.zero_le _, g5, g6, g7, g8, g9, g10, g11, fun q hq => absurd hq (Nat.not_lt_zero q), g13⟩
end RL1
theorem card_0 : card 0 = 0 := by decide +kernel
theorem Rl_0 : Rl (fun _ => 0) (fun _ => 0) 0 (nI 0) (fun _ _ => 0) (fun _ _ => 0) (fun _ => 0) (fun _ => nI 0) 0 (fun _ => 0) 0 0 0 0 0 (fun _ => 0) (fun _ => 0) := by
  refine ⟨by decide, by decide, fun _ _ => Nat.zero_le _, by decide, by decide, by decide, by decide, by decide, ⟨rfl, rfl, fun j hj => absurd hj (Nat.not_lt_zero j), fun j hj => absurd hj (Nat.not_lt_zero j)⟩, fun i hi => absurd hi (Nat.not_lt_zero i), rfl, fun q hq => absurd hq (Nat.not_lt_zero q), fun q hq => ?_, ⟨low16_0, ?_⟩, fun q hq => ?_⟩
  · cases hq
  · rw [show nI 0 = (0 : Int32) from rfl, card_0]
    decide
  · cases hq
/-- how many sets of assumable atoms there are -/
theorem asm_ct {a : Int32} (h : vA a) : nI 1 <<< (bc a &&& 31) = nI (2 ^ card a) ∧ 2 ^ card a ≤ 256 := by
  rw [bc_card h.1]
  have h8 := h.2
  have key : ∀ j, j ≤ 8 → nI 1 <<< (nI j &&& 31) = nI (2 ^ j) ∧ 2 ^ j ≤ 256 := by decide +kernel
  exact key _ h8
