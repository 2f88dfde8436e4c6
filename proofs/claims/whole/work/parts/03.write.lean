/-- the start of a method that writes: its arguments, its cells, which lie apart -/
def eP (D : va_G) (cI cB : ClassId) (av : List Value) (ws : va_W) (sz : Nat) : Array Value → State → Prop := va_Pc av (fun U => U.heap.size = sz ∧ va_P D vwCl ws U.heap ∧ gk D cI cB U ∧ va_D (fun _ => True) ws)
theorem eP_blind {D : va_G} {cI cB : ClassId} {av : List Value} {ws : va_W} {sz : Nat} : FrameBlind (eP D cI cB av ws sz) := fun _ _ _ _ h => ⟨h.1, h.2.1, h.2.2.1, gk_call h.2.2.2.1, h.2.2.2.2⟩
/-- its end: an answer and what its cells hold then; what isn't its own stays -/
def eQ (D : va_G) {S : Type} (post : Option Value → S → Prop) (mk : S → va_W) (A : Nat → Prop) : Array Value → State → Outcome → State → Prop := fun _ st oc t => (∃ (v : Option Value) (u : S), oc = .returned v ∧ post v u ∧ va_P D vwCl (mk u) t.heap ∧ va_D A (mk u)) ∧ va_F A st t
abbrev Wr (l : Launch) (y : MethodName) (wsy : List Cond) (rm : Room) (D : va_G) (cI cB : ClassId) (av : List Value) (ws : va_W) (sz : Nat) {S : Type} (post : Option Value → S → Prop) (mk : S → va_W) (mc ms : Nat) : Prop := Met l y wsy rm (eP D cI cB av ws sz) (eQ D post mk (va_A ws sz)) mc ms (va_A ws sz)
section EF
variable {p : Program} {l : Launch} {e : Env} {R : Room} {s : State} {m : MethodId} {args : Array Value} {below : List Frame} {meth : Method} {c : Code} {H H0 : Heap} {locs : List Loc} {cells slots : Nat} {Q : State → Prop}
variable {D : va_G} {cI cB : ClassId} {y : MethodName} {bytes cc : ByteArray} {maxL nL n index pc mc ms sz : Nat} {ret : Option FieldType} {wsy wt Ts : List Cond} {rm : Room} {own C host : String} {b : Nat} {av As rest st0 : List Value} {ws wc wr : va_W} {ls : Array Slot} {A : Nat → Prop}
variable {S : Type} {post : Option Value → S → Prop} {mk : S → va_W}
theorem ef_startI (hy : plainName y.cls = true) (hw : wsy = Cond.code y cc maxL (some .int) :: wt) (ha : (lg_sl av).length ≤ maxL)
    (body : ∀ (p : Program) (e : Env) (s : State) (m : MethodId) (args : Array Value) (below : List Frame) (meth : Method) (c : Code) (Q : State → Prop) (A : Nat → Prop), p.tables.exec = Jvm.exec → c.code = cc → c.maxLocals = maxL → s.vm.findClass y.cls = some m.cls → (∀ w ∈ wsy, w.before args s = true) → va_P D vwCl ws s.heap → gk D cI cB s → va_D A ws → (∀ q : Nat, s.heap.size ≤ q → A q) →
      (∀ (v : Int32) (u : S) (H : Heap) (locs : List Loc) (pc : Nat) (ls : Array Slot), post (some (.int v)) u → va_P D vwCl (mk u) H → va_D A (mk u) → va_S A s.heap H locs → decode cc pc = .ok (.ireturn, 1) → W p l e rm s m args below meth c H locs mc ms Q (F0 m pc ls [.int v])) →
      ∀ ls : Array Slot, lv_has ls maxL (lv_args 0 av) → W p l e rm s m args below meth c s.heap [] 0 0 Q (F0 m 0 ls [])) : Wr l y wsy rm D cI cB av ws sz post mk mc ms := by
  refine Met.ofW (cc := cc) (maxL := maxL) (ret := some .int) hy hw ?_
  intro p e s m args below meth c s₁ B hml hv
  obtain ⟨rfl, hsz, hP, hG, hD0⟩ := hv
  subst hsz
  have hl := lv_entry av (n := maxL) ha
  have hlocks := B.notSynchronized
  rw [lg_entry_eq]
  refine body p e s m _ below meth c _ (va_A ws s.heap.size) B.exec B.bytes hml (findClass_of_methodNamed B.named) (atoms_spec (ws := wsy) B.pre) hP hG hD0.self (fun q h => Or.inr h) (fun v u H locs pc ls hv h1 h2 h3 hd => ?_) _ hl
  exact W.iret B.exec B.bytes B.returns (fun t ht _ => ⟨⟨_, u, rfl, hv, by rw [ht]; exact h1, h2⟩, h3.F ht⟩) h3.2.2 hd
theorem ef_startZ (hy : plainName y.cls = true) (hw : wsy = Cond.code y cc maxL (some .boolean) :: wt) (ha : (lg_sl av).length ≤ maxL)
    (body : ∀ (p : Program) (e : Env) (s : State) (m : MethodId) (args : Array Value) (below : List Frame) (meth : Method) (c : Code) (Q : State → Prop) (A : Nat → Prop), p.tables.exec = Jvm.exec → c.code = cc → c.maxLocals = maxL → s.vm.findClass y.cls = some m.cls → (∀ w ∈ wsy, w.before args s = true) → va_P D vwCl ws s.heap → gk D cI cB s → va_D A ws → (∀ q : Nat, s.heap.size ≤ q → A q) →
      (∀ (b : Bool) (u : S) (H : Heap) (locs : List Loc) (pc : Nat) (ls : Array Slot), post (some (.int (bI b))) u → va_P D vwCl (mk u) H → va_D A (mk u) → va_S A s.heap H locs → decode cc pc = .ok (.ireturn, 1) → W p l e rm s m args below meth c H locs mc ms Q (F0 m pc ls [.int (bI b)])) →
      ∀ ls : Array Slot, lv_has ls maxL (lv_args 0 av) → W p l e rm s m args below meth c s.heap [] 0 0 Q (F0 m 0 ls [])) : Wr l y wsy rm D cI cB av ws sz post mk mc ms := by
  refine Met.ofW (cc := cc) (maxL := maxL) (ret := some .boolean) hy hw ?_
  intro p e s m args below meth c s₁ B hml hv
  obtain ⟨rfl, hsz, hP, hG, hD0⟩ := hv
  subst hsz
  have hl := lv_entry av (n := maxL) ha
  have hlocks := B.notSynchronized
  rw [lg_entry_eq]
  refine body p e s m _ below meth c _ (va_A ws s.heap.size) B.exec B.bytes hml (findClass_of_methodNamed B.named) (atoms_spec (ws := wsy) B.pre) hP hG hD0.self (fun q h => Or.inr h) (fun v u H locs pc ls hv h1 h2 h3 hd => ?_) _ hl
  exact W.zret B.exec B.bytes B.returns (bI_nar v) (fun t ht _ => ⟨⟨_, u, rfl, hv, by rw [ht]; exact h1, h2⟩, h3.F ht⟩) h3.2.2 hd
theorem ef_startJ (hy : plainName y.cls = true) (hw : wsy = Cond.code y cc maxL (some .long) :: wt) (ha : (lg_sl av).length ≤ maxL)
    (body : ∀ (p : Program) (e : Env) (s : State) (m : MethodId) (args : Array Value) (below : List Frame) (meth : Method) (c : Code) (Q : State → Prop) (A : Nat → Prop), p.tables.exec = Jvm.exec → c.code = cc → c.maxLocals = maxL → s.vm.findClass y.cls = some m.cls → (∀ w ∈ wsy, w.before args s = true) → va_P D vwCl ws s.heap → gk D cI cB s → va_D A ws → (∀ q : Nat, s.heap.size ≤ q → A q) →
      (∀ (v : Int64) (u : S) (H : Heap) (locs : List Loc) (pc : Nat) (ls : Array Slot), post (some (.long v)) u → va_P D vwCl (mk u) H → va_D A (mk u) → va_S A s.heap H locs → decode cc pc = .ok (.lreturn, 1) → W p l e rm s m args below meth c H locs mc ms Q (F0 m pc ls [.long v])) →
      ∀ ls : Array Slot, lv_has ls maxL (lv_args 0 av) → W p l e rm s m args below meth c s.heap [] 0 0 Q (F0 m 0 ls [])) : Wr l y wsy rm D cI cB av ws sz post mk mc ms := by
  refine Met.ofW (cc := cc) (maxL := maxL) (ret := some .long) hy hw ?_
  intro p e s m args below meth c s₁ B hml hv
  obtain ⟨rfl, hsz, hP, hG, hD0⟩ := hv
  subst hsz
  have hl := lv_entry av (n := maxL) ha
  have hlocks := B.notSynchronized
  rw [lg_entry_eq]
  refine body p e s m _ below meth c _ (va_A ws s.heap.size) B.exec B.bytes hml (findClass_of_methodNamed B.named) (atoms_spec (ws := wsy) B.pre) hP hG hD0.self (fun q h => Or.inr h) (fun v u H locs pc ls hv h1 h2 h3 hd => ?_) _ hl
  exact W.lret B.exec B.bytes B.returns (fun t ht _ => ⟨⟨_, u, rfl, hv, by rw [ht]; exact h1, h2⟩, h3.F ht⟩) h3.2.2 hd
theorem ef_startV (hy : plainName y.cls = true) (hw : wsy = Cond.code y cc maxL none :: wt) (ha : (lg_sl av).length ≤ maxL)
    (body : ∀ (p : Program) (e : Env) (s : State) (m : MethodId) (args : Array Value) (below : List Frame) (meth : Method) (c : Code) (Q : State → Prop) (A : Nat → Prop), p.tables.exec = Jvm.exec → c.code = cc → c.maxLocals = maxL → s.vm.findClass y.cls = some m.cls → (∀ w ∈ wsy, w.before args s = true) → va_P D vwCl ws s.heap → gk D cI cB s → va_D A ws → (∀ q : Nat, s.heap.size ≤ q → A q) → meth.name = y.name →
      (∀ (u : S) (H : Heap) (locs : List Loc) (pc : Nat) (ls : Array Slot), post none u → va_P D vwCl (mk u) H → va_D A (mk u) → va_S A s.heap H locs → decode cc pc = .ok (.return_, 1) → W p l e rm s m args below meth c H locs mc ms Q (F0 m pc ls [])) →
      ∀ ls : Array Slot, lv_has ls maxL (lv_args 0 av) → W p l e rm s m args below meth c s.heap [] 0 0 Q (F0 m 0 ls [])) : Wr l y wsy rm D cI cB av ws sz post mk mc ms := by
  refine Met.ofW (cc := cc) (maxL := maxL) (ret := none) hy hw ?_
  intro p e s m args below meth c s₁ B hml hv
  obtain ⟨rfl, hsz, hP, hG, hD0⟩ := hv
  subst hsz
  have hl := lv_entry av (n := maxL) ha
  have hlocks := B.notSynchronized
  rw [lg_entry_eq]
  refine body p e s m _ below meth c _ (va_A ws s.heap.size) B.exec B.bytes hml (findClass_of_methodNamed B.named) (atoms_spec (ws := wsy) B.pre) hP hG hD0.self (fun q h => Or.inr h) (name_of_methodNamed B.named B.method).1 (fun u H locs pc ls hv h1 h2 h3 hd => ?_) _ hl
  exact W.vret B.exec B.bytes B.returns (fun t ht _ => ⟨⟨_, u, rfl, hv, by rw [ht]; exact h1, h2⟩, h3.F ht⟩) h3.2.2 hd
theorem ef_call {A1 : Nat → Prop} {free : Addr → Prop} {a : Array Value} (hr : va_Run p l e R s m args below meth c H locs cells slots mc ms (F0 m pc ls st0) rest (eQ D post mk A1 a) free) (hS : va_S A H0 H locs) (hA : ∀ q, A1 q → A q) (hf : ∀ q, free q → A q)
    (kk : ∀ (v : Option Value) (u : S) (H1 : Heap) (locs1 : List Loc), post v u → va_P D vwCl (mk u) H1 → va_D A1 (mk u) → (∀ q : Nat, q < H.size → ¬ A1 q → H1[q]? = H[q]?) → va_S A H0 H1 locs1 → W p l e R s m args below meth c H1 locs1 (cells + mc) (slots + ms) Q (F0 m (pc + 3) ls (v.toList ++ rest))) : W p l e R s m args below meth c H locs cells slots Q (F0 m pc ls st0) := by
  intro T hT X
  obtain ⟨v, st₀, t, T', L, h0, X', hL, e1, e2, ⟨⟨v', u, hv, hp, hP, hD⟩, hz, hk⟩, st⟩ := hr T hT X
  cases hv
  rw [h0] at hz hk
  obtain ⟨t2, a1, b1⟩ := kk v u T'.heap (locs ++ L) hp (by rw [e1]; exact hP) hD (fun q h1 h2 => by rw [e1]; exact hk q h1 h2)
    ⟨Nat.le_trans hS.1 (by rw [e1]; exact hz), fun q h1 h2 => by rw [e1, hk q (Nat.lt_of_lt_of_le h1 hS.1) (fun z => h2 (hA q z))]; exact hS.2.1 q h1 h2, fun q hq => by
      rcases List.mem_append.mp hq with h | h
      · exact hS.2.2 q h
      · exact hf _ (hL q h)⟩ T' rfl X'
  exact ⟨t2, st t2 a1, b1⟩
theorem ef_V (F : CallFix p m c cc nL s args Ts own) (hG : gk D cI cB s) (hP : va_P D vwCl ws H) (hD : va_D A ws) (hS : va_S A H0 H locs) (hA : ∀ q : Nat, H0.size ≤ q → A q) (hM : Wr l y wsy rm D cI cB (.ref b :: As) wc H.size post mk mc ms) (cw : CallW R s args own C index y bytes maxL ret wsy rm mc ms n)
    (isC isR : List Nat) (hC : isC.map (fun i => ws[i]?) = wc.map some) (hR : isR.map (fun i => ws[i]?) = wr.map some) (hnC : va_nd isC = true) (hnR : va_nd isR = true) (hdis : ∀ i ∈ isR, i ∉ isC)
    (q0 : Nat) {ci : Nat} {fs : List Value} {q : vw_C} (hq : ws[q0]? = some (b, .inr (ci, fs))) (hc : vwCl[ci]? = some q) (hCn : q.1 = C) (hn : As.length = n) (hls : ls.size = nL) (hst : st0 = As.reverse ++ .ref b :: rest) (hrest : (rest.map fun v => v.category).sum ≤ 8) (hdg : decode cc pc = .ok (.invokevirtual index, 3)) (hf : cells + mc ≤ R.cells ∧ slots + ms ≤ R.slots)
    (kk : ∀ (v : Option Value) (u : S) (H1 : Heap) (locs1 : List Loc), post v u → va_P D vwCl (wr ++ mk u) H1 → va_D A (wr ++ mk u) → va_S A H0 H1 locs1 → W p l e R s m args below meth c H1 locs1 (cells + mc) (slots + ms) Q (F0 m (pc + 3) ls (v.toList ++ rest))) : W p l e R s m args below meth c H locs cells slots Q (F0 m pc ls st0) := by
  subst hCn
  have hFc := va_free (wc := wc) hD hS hA isC hC
  have hDc := hD.sub isC hnC hC
  have hPc : va_P D vwCl wc H := by
    intro k x hk
    have h1 : (isC.map (fun i => ws[i]?))[k]? = some (some x) := by rw [hC, List.getElem?_map, hk]; rfl
    rw [List.getElem?_map] at h1
    cases hi : isC[k]? with
    | none => rw [hi] at h1; cases h1
    | some i => rw [hi] at h1; exact hP i x (Option.some.inj h1)
  refine ef_call (va_runV (As := As) (rest := rest) F hM cw ⟨eP_blind, va_recv hG.1 hP hc hq, fun U hU hW => ⟨rfl, by rw [hU], by rw [hU]; exact hPc, gk_warm hW hG, hDc.weaken (fun _ _ _ _ => trivial)⟩⟩ rfl hn hls hst (lv_room hrest) hdg hf) hS hFc hFc (fun v u H1 locs1 hp h1 h2 hk h3 => ?_)
  obtain ⟨g1, g2⟩ := va_join (wr := wr) (w1 := mk u) hP hD isC isR hC hR hnR hdis hk hFc h1 h2
  exact kk v u H1 locs1 hp g1 g2 h3
theorem qa_ld {a : Nat} (hx : p.tables.exec = Jvm.exec) (hb : c.code = cc) (hG : gk D cI cB s) (hP : va_P D vwCl ws H) (q0 : Nat) {N : Nat} {f : Nat → Option Nat} (ha : ws[q0]? = some (a, .inl (cB, N, .inr (.inr (.inr (.inr f)))))) {i : Int32} (j : Nat) (hj : i = nI j) (hlt : j < N) (hN : N < 2 ^ 31) {z : Nat} (hz : f j = some z) (hdg : decode cc pc = .ok (.aaload, 1))
    (kk : W p l e R s m args below meth c H locs cells slots Q (F0 m (pc + 1) ls (.ref z :: rest))) : W p l e R s m args below meth c H locs cells slots Q (F0 m pc ls (.int i :: .ref a :: rest)) := by
  subst hj
  refine va_aldq hx hb hG.1 hP q0 1 ha rfl (vp_in_nI hlt hN) hdg ?_
  rw [nI_clamp (Nat.lt_trans hlt hN), hz]
  exact kk
theorem qa_st {a : Nat} (hx : p.tables.exec = Jvm.exec) (hb : c.code = cc) (hG : gk D cI cB s) (hP : va_P D vwCl ws H) (hD : va_D A ws) (hS : va_S A H0 H locs) (q0 : Nat) {N v : Nat} {f : Nat → Option Nat} {vs : List Value} (ha : ws[q0]? = some (a, .inl (cB, N, .inr (.inr (.inr (.inr f)))))) (q1 : Nat) (hv : ws[q1]? = some (v, .inr (4, vs))) {i : Int32} (j : Nat) (hj : i = nI j) (hlt : j < N) (hN : N < 2 ^ 31) (hdg : decode cc pc = .ok (.aastore, 1))
    (kk : ∀ (H1 : Heap) (locs1 : List Loc), va_P D vwCl (ws.set q0 (a, .inl (cB, N, .inr (.inr (.inr (.inr (va_up f j (some v)))))))) H1 → va_D A (ws.set q0 (a, .inl (cB, N, .inr (.inr (.inr (.inr (va_up f j (some v)))))))) → va_S A H0 H1 locs1 → W p l e R s m args below meth c H1 locs1 cells slots Q (F0 m (pc + 1) ls rest)) : W p l e R s m args below meth c H locs cells slots Q (F0 m pc ls (.ref v :: .int i :: .ref a :: rest)) := by
  subst hj
  refine va_astq hx hb hG.1 hP hD hS q0 1 q1 4 (r := (RX4, TX4, 4)) ha rfl hv rfl (vp_in_nI hlt hN) hdg ?_
  rw [nI_clamp (Nat.lt_trans hlt hN)]
  exact kk
end EF
