/-! The layer of this claim: nest words, the tables' knowledge (gk), contracts that only read (pP, pu_), contracts that write (eP, ef_). -/
/-- the links to private members of nest mates: own, index, method, host -/
def zt : List (String × Nat × MethodName × String) := [(RX5, 9, yX4_init, RX5), (RX5, 18, yX1_init, RX5), (RX0, 17, yX4_init, RX5), (RX5, 41, yX3_init, RX5), (RX3, 11, yX4_init, RX5), (RX4, 44, yX5_contains, RX5), (RX4, 51, yX5_isSubset, RX5), (RX1, 64, yX5_contains, RX5), (RX3, 77, yX5_isAtom, RX5), (RX3, 69, yX5_contains, RX5)]
def zz (U : State) : Prop := ∀ q ∈ zt, va_Nw (.methodLinkNest q.1 q.2.1 q.2.2.1 q.2.2.2) U
theorem zz_warm {s U : State} (hW : s.WarmedH U.vm) (h : zz s) : zz U := fun q hq => va_Nw.warmM hW (h q hq)
theorem zz_same {u U : State} (e : u.vm = U.vm) (h : zz u) : zz U := fun q hq => va_Nw.same rfl e (h q hq)
def gk (D : va_G) (cI cB : ClassId) (U : State) : Prop := va_K D vwCl [(cI, .int), (cB, .object RX4)] U ∧ zz U
theorem gk_warm {D : va_G} {cI cB : ClassId} {s U : State} (hW : s.WarmedH U.vm) (h : gk D cI cB s) : gk D cI cB U := ⟨va_K.moved hW.alike h.1, zz_warm hW h.2⟩
theorem gk_call {D : va_G} {cI cB : ClassId} {U : State} {g : JFrame} {mk : MethodId} {a : Array Value} (h : gk D cI cB U) : gk D cI cB (U.calling g mk a) := ⟨va_K.moved (u := U) (U := U.calling g mk a) (Vm.Alike.refl U.vm) h.1, zz_same rfl h.2⟩
/-- the start of a method that only reads: its arguments, the cells that it reads -/
def pP (D : va_G) (cI cB : ClassId) (av : List Value) (ws : va_W) : Array Value → State → Prop := va_Pc av (fun U => va_P D vwCl ws U.heap ∧ gk D cI cB U)
theorem pP_blind {D : va_G} {cI cB : ClassId} {av : List Value} {ws : va_W} : FrameBlind (pP D cI cB av ws) := fun _ _ _ _ h => ⟨h.1, h.2.1, gk_call h.2.2⟩
abbrev Rd (l : Launch) (y : MethodName) (wsy : List Cond) (rm : Room) (D : va_G) (cI cB : ClassId) (av : List Value) (ws : va_W) (r : Value) : Prop := Met l y wsy rm (pP D cI cB av ws) (k2_QcV r) 0 0 (fun _ => False)
/-- a truth value as the machine has it -/
def bI (b : Bool) : Int32 := if b then nI 1 else nI 0
theorem bI_f {b : Bool} : bI b = 0 ↔ b = false := by cases b <;> decide
theorem bI_t {b : Bool} : ¬ bI b = 0 ↔ b = true := by cases b <;> decide
theorem bI_nar (b : Bool) : narrow .boolean (.int (bI b)) = .int (bI b) := by cases b <;> decide +kernel
theorem nI_s1 (r : Nat) : nI r + Int32.ofInt 1 = nI (r + 1) := nI_1 r
section PU
variable {p : Program} {l : Launch} {e : Env} {R : Room} {s : State} {m : MethodId} {args : Array Value} {below : List Frame} {meth : Method} {c : Code} {H : Heap} {locs : List Loc} {cells slots : Nat} {Q : State → Prop}
variable {D : va_G} {cI cB : ClassId} {y : MethodName} {bytes cc : ByteArray} {maxL nL n index pc : Nat} {ret : Option FieldType} {wsy wt Ts : List Cond} {rm : Room} {own C host : String} {b : Nat} {av As rest st0 : List Value} {r : Value} {ws wc : va_W} {ls : Array Slot}
theorem pu_startI {ri : Int32} (hy : plainName y.cls = true) (hw : wsy = Cond.code y cc maxL (some .int) :: wt) (ha : (lg_sl av).length ≤ maxL)
    (body : ∀ (p : Program) (e : Env) (s : State) (m : MethodId) (args : Array Value) (below : List Frame) (meth : Method) (c : Code) (Q : State → Prop), p.tables.exec = Jvm.exec → c.code = cc → c.maxLocals = maxL → s.vm.findClass y.cls = some m.cls → (∀ w ∈ wsy, w.before args s = true) → va_P D vwCl ws s.heap → gk D cI cB s →
      (∀ (v : Int32) (pc : Nat) (ls : Array Slot), v = ri → decode cc pc = .ok (.ireturn, 1) → W p l e rm s m args below meth c s.heap [] 0 0 Q (F0 m pc ls [.int v])) →
      ∀ ls : Array Slot, lv_has ls maxL (lv_args 0 av) → W p l e rm s m args below meth c s.heap [] 0 0 Q (F0 m 0 ls [])) : Rd l y wsy rm D cI cB av ws (.int ri) := by
  refine Met.ofW (cc := cc) (maxL := maxL) (ret := some .int) hy hw ?_
  intro p e s m args below meth c s₁ B hml hv
  obtain ⟨rfl, hP, hG⟩ := hv
  have hl := lv_entry av (n := maxL) ha
  have hlocks := B.notSynchronized
  rw [lg_entry_eq]
  refine body p e s m _ below meth c _ B.exec B.bytes hml (findClass_of_methodNamed B.named) (atoms_spec (ws := wsy) B.pre) hP hG (fun v pc ls hv hd => ?_) _ hl
  subst hv
  exact W.iret B.exec B.bytes B.returns (fun t ht _ => ⟨rfl, ht⟩) (fun q h => by cases h) hd
theorem pu_startZ {rb : Bool} (hy : plainName y.cls = true) (hw : wsy = Cond.code y cc maxL (some .boolean) :: wt) (ha : (lg_sl av).length ≤ maxL)
    (body : ∀ (p : Program) (e : Env) (s : State) (m : MethodId) (args : Array Value) (below : List Frame) (meth : Method) (c : Code) (Q : State → Prop), p.tables.exec = Jvm.exec → c.code = cc → c.maxLocals = maxL → s.vm.findClass y.cls = some m.cls → (∀ w ∈ wsy, w.before args s = true) → va_P D vwCl ws s.heap → gk D cI cB s →
      (∀ (v : Int32) (pc : Nat) (ls : Array Slot), v = bI rb → decode cc pc = .ok (.ireturn, 1) → W p l e rm s m args below meth c s.heap [] 0 0 Q (F0 m pc ls [.int v])) →
      ∀ ls : Array Slot, lv_has ls maxL (lv_args 0 av) → W p l e rm s m args below meth c s.heap [] 0 0 Q (F0 m 0 ls [])) : Rd l y wsy rm D cI cB av ws (.int (bI rb)) := by
  refine Met.ofW (cc := cc) (maxL := maxL) (ret := some .boolean) hy hw ?_
  intro p e s m args below meth c s₁ B hml hv
  obtain ⟨rfl, hP, hG⟩ := hv
  have hl := lv_entry av (n := maxL) ha
  have hlocks := B.notSynchronized
  rw [lg_entry_eq]
  refine body p e s m _ below meth c _ B.exec B.bytes hml (findClass_of_methodNamed B.named) (atoms_spec (ws := wsy) B.pre) hP hG (fun v pc ls hv hd => ?_) _ hl
  subst hv
  exact W.zret B.exec B.bytes B.returns (bI_nar rb) (fun t ht _ => ⟨rfl, ht⟩) (fun q h => by cases h) hd
theorem pu_startJ {rj : Int64} (hy : plainName y.cls = true) (hw : wsy = Cond.code y cc maxL (some .long) :: wt) (ha : (lg_sl av).length ≤ maxL)
    (body : ∀ (p : Program) (e : Env) (s : State) (m : MethodId) (args : Array Value) (below : List Frame) (meth : Method) (c : Code) (Q : State → Prop), p.tables.exec = Jvm.exec → c.code = cc → c.maxLocals = maxL → s.vm.findClass y.cls = some m.cls → (∀ w ∈ wsy, w.before args s = true) → va_P D vwCl ws s.heap → gk D cI cB s →
      (∀ (v : Int64) (pc : Nat) (ls : Array Slot), v = rj → decode cc pc = .ok (.lreturn, 1) → W p l e rm s m args below meth c s.heap [] 0 0 Q (F0 m pc ls [.long v])) →
      ∀ ls : Array Slot, lv_has ls maxL (lv_args 0 av) → W p l e rm s m args below meth c s.heap [] 0 0 Q (F0 m 0 ls [])) : Rd l y wsy rm D cI cB av ws (.long rj) := by
  refine Met.ofW (cc := cc) (maxL := maxL) (ret := some .long) hy hw ?_
  intro p e s m args below meth c s₁ B hml hv
  obtain ⟨rfl, hP, hG⟩ := hv
  have hl := lv_entry av (n := maxL) ha
  have hlocks := B.notSynchronized
  rw [lg_entry_eq]
  refine body p e s m _ below meth c _ B.exec B.bytes hml (findClass_of_methodNamed B.named) (atoms_spec (ws := wsy) B.pre) hP hG (fun v pc ls hv hd => ?_) _ hl
  subst hv
  exact W.lret B.exec B.bytes B.returns (fun t ht _ => ⟨rfl, ht⟩) (fun q h => by cases h) hd
theorem pu_call {a : Array Value} (hr : va_Run p l e R s m args below meth c H locs cells slots 0 0 (F0 m pc ls st0) rest (k2_QcV r a) (fun _ => False)) (kk : W p l e R s m args below meth c H locs cells slots Q (F0 m (pc + 3) ls (r :: rest))) : W p l e R s m args below meth c H locs cells slots Q (F0 m pc ls st0) := by
  intro T hT X
  obtain ⟨v, st₀, t, T', L, h0, X', hL, e1, e2, ⟨hv, hh⟩, st⟩ := hr T hT X
  cases hv
  obtain ⟨t2, a1, b1⟩ := kk T' (by rw [e1, hh, h0]) (Stand.forget X' (fun q h => (hL q h).elim))
  exact ⟨t2, st t2 a1, b1⟩
theorem pu_V (S : CallFix p m c cc nL s args Ts own) (hG : gk D cI cB s) (hP : va_P D vwCl ws H) (hM : Rd l y wsy rm D cI cB (.ref b :: As) wc r) (cw : CallW R s args own C index y bytes maxL ret wsy rm 0 0 n) (is : List Nat) (hsub : is.filterMap (fun i => ws[i]?) = wc)
    (q0 : Nat) {ci : Nat} {fs : List Value} {q : vw_C} (hq : ws[q0]? = some (b, .inr (ci, fs))) (hc : vwCl[ci]? = some q) (hC : q.1 = C) (hn : As.length = n) (hls : ls.size = nL) (hst : st0 = As.reverse ++ .ref b :: rest) (hrest : (rest.map fun v => v.category).sum ≤ 8) (hdg : decode cc pc = .ok (.invokevirtual index, 3)) (hf : cells ≤ R.cells ∧ slots ≤ R.slots)
    (kk : W p l e R s m args below meth c H locs cells slots Q (F0 m (pc + 3) ls (r :: rest))) : W p l e R s m args below meth c H locs cells slots Q (F0 m pc ls st0) := by
  subst hC
  exact pu_call (va_runV (As := As) (rest := rest) S hM cw ⟨pP_blind, va_recv hG.1 hP hc hq, fun U hU hW => ⟨rfl, by rw [hU]; exact hP.sub is hsub, gk_warm hW hG⟩⟩ rfl hn hls hst (lv_room hrest) hdg hf) kk
theorem pu_S (S : CallFix p m c cc nL s args Ts own) (hG : gk D cI cB s) (hP : va_P D vwCl ws H) (hM : Rd l y wsy rm D cI cB As wc r) (cw : CallB R s args own index y bytes maxL ret wsy rm 0 0 n ∧ (Cond.static y).before args s = true) (is : List Nat) (hsub : is.filterMap (fun i => ws[i]?) = wc)
    (hn : As.length = n) (hls : ls.size = nL) (hst : st0 = As.reverse ++ rest) (hrest : (rest.map fun v => v.category).sum ≤ 8) (hdg : decode cc pc = .ok (.invokestatic index, 3)) (hf : cells ≤ R.cells ∧ slots ≤ R.slots)
    (kk : W p l e R s m args below meth c H locs cells slots Q (F0 m (pc + 3) ls (r :: rest))) : W p l e R s m args below meth c H locs cells slots Q (F0 m pc ls st0) :=
  pu_call (va_runS (As := As) (rest := rest) S hM cw ⟨pP_blind, fun U hU hW => ⟨rfl, by rw [hU]; exact hP.sub is hsub, gk_warm hW hG⟩⟩ rfl hn hls hst (lv_room hrest) hdg hf) kk
theorem pu_SN (S : CallFix p m c cc nL s args Ts own) (hG : gk D cI cB s) (hP : va_P D vwCl ws H) (hM : Rd l y wsy rm D cI cB As wc r) (cw : va_CN R s args own index y host bytes maxL ret wsy rm 0 0 n) (hs : (Cond.static y).before args s = true) (is : List Nat) (hsub : is.filterMap (fun i => ws[i]?) = wc)
    (hn : As.length = n) (hls : ls.size = nL) (hst : st0 = As.reverse ++ rest) (hrest : (rest.map fun v => v.category).sum ≤ 8) (hdg : decode cc pc = .ok (.invokestatic index, 3)) (hf : cells ≤ R.cells ∧ slots ≤ R.slots)
    (kk : W p l e R s m args below meth c H locs cells slots Q (F0 m (pc + 3) ls (r :: rest))) : W p l e R s m args below meth c H locs cells slots Q (F0 m pc ls st0) :=
  pu_call (va_runSN (As := As) (rest := rest) S hM ⟨cw, hs, trivial⟩ ⟨pP_blind, fun U hU hW => ⟨rfl, by rw [hU]; exact hP.sub is hsub, gk_warm hW hG⟩⟩ rfl hn hls hst (lv_room hrest) hdg hf) kk
theorem ia_ld {a : Nat} (hx : p.tables.exec = Jvm.exec) (hb : c.code = cc) (hG : gk D cI cB s) (hP : va_P D vwCl ws H) (q0 : Nat) {N : Nat} {f : Nat → Int32} (ha : ws[q0]? = some (a, .inl (cI, N, .inl f))) {i : Int32} (j : Nat) (hj : i = nI j) (hlt : j < N) (hN : N < 2 ^ 31) (hdg : decode cc pc = .ok (.iaload, 1))
    (kk : W p l e R s m args below meth c H locs cells slots Q (F0 m (pc + 1) ls (.int (f j) :: rest))) : W p l e R s m args below meth c H locs cells slots Q (F0 m pc ls (.int i :: .ref a :: rest)) := by
  subst hj
  refine va_iald hx hb hG.1 hP q0 0 ha rfl (vp_in_nI hlt hN) hdg ?_
  rw [nI_clamp (Nat.lt_trans hlt hN)]
  exact kk
theorem ia_st {a : Nat} {A : Nat → Prop} {H0 : Heap} (hx : p.tables.exec = Jvm.exec) (hb : c.code = cc) (hG : gk D cI cB s) (hP : va_P D vwCl ws H) (hD : va_D A ws) (hS : va_S A H0 H locs) (q0 : Nat) {N : Nat} {f : Nat → Int32} (ha : ws[q0]? = some (a, .inl (cI, N, .inl f))) {i x : Int32} (j : Nat) (hj : i = nI j) (hlt : j < N) (hN : N < 2 ^ 31) (hdg : decode cc pc = .ok (.iastore, 1))
    (kk : ∀ (H1 : Heap) (locs1 : List Loc), va_P D vwCl (ws.set q0 (a, .inl (cI, N, .inl (upd f j x)))) H1 → va_D A (ws.set q0 (a, .inl (cI, N, .inl (upd f j x)))) → va_S A H0 H1 locs1 → W p l e R s m args below meth c H1 locs1 cells slots Q (F0 m (pc + 1) ls rest)) : W p l e R s m args below meth c H locs cells slots Q (F0 m pc ls (.int x :: .int i :: .ref a :: rest)) := by
  subst hj
  refine va_iast hx hb hG.1 hP hD hS q0 0 ha rfl (vp_in_nI hlt hN) hdg ?_
  rw [nI_clamp (Nat.lt_trans hlt hN)]
  exact kk
theorem lv_eqi {x y : Int32} (h : x = y) (k : W p l e R s m args below meth c H locs cells slots Q (F0 m pc ls (.int y :: rest))) : W p l e R s m args below meth c H locs cells slots Q (F0 m pc ls (.int x :: rest)) := h ▸ k
theorem lv_eql {x y : Int64} (h : x = y) (k : W p l e R s m args below meth c H locs cells slots Q (F0 m pc ls (.long y :: rest))) : W p l e R s m args below meth c H locs cells slots Q (F0 m pc ls (.long x :: rest)) := h ▸ k
end PU
