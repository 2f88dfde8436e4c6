/-! sixteenths as a float: the seventeen values -/
def f16 (k : Nat) : UInt32 := FP.fdiv (FP.i2f (nI k)) 1098907648
theorem f16_n : ∀ k, k < 17 → vf_n32 (f16 k) := by unfold vf_n32; decide +kernel
theorem f16_c : ∀ k, k < 17 → Op.cmpValue (FP.fcmp (f16 k) (f16 k)) .l = nI 0 := by decide +kernel
theorem f16_b : ∀ k, k < 17 → (f16 k).toInt32 = bosF (nI k) 5 := by decide +kernel
section PF
variable {p : Program} {l : Launch} {e : Env} {R : Room} {s : State} {m : MethodId} {args : Array Value} {below : List Frame} {meth : Method} {c : Code} {H : Heap} {locs : List Loc} {cells slots : Nat} {Q : State → Prop}
variable {D : va_G} {cI cB : ClassId} {y : MethodName} {bytes cc : ByteArray} {maxL nL n index pc : Nat} {ret : Option FieldType} {wsy wt Ts : List Cond} {rm : Room} {own C host : String} {b : Nat} {av As rest st0 : List Value} {r : Value} {ws wc : va_W} {ls : Array Slot}
theorem pu_startIF {ri : Int32} (hy : plainFor y = true) (hw : wsy = Cond.code y cc maxL (some .int) :: wt) (ha : (lg_sl av).length ≤ maxL)
    (body : ∀ (p : Program) (e : Env) (s : State) (m : MethodId) (args : Array Value) (below : List Frame) (meth : Method) (c : Code) (Q : State → Prop), p.tables.exec = Jvm.exec → c.code = cc → c.maxLocals = maxL → s.vm.findClass y.cls = some m.cls → (∀ w ∈ wsy, w.before args s = true) → va_P D vwCl ws s.heap → gk D cI cB s →
      (∀ (v : Int32) (pc : Nat) (ls : Array Slot), v = ri → decode cc pc = .ok (.ireturn, 1) → W p l e rm s m args below meth c s.heap [] 0 0 Q (F0 m pc ls [.int v])) →
      ∀ ls : Array Slot, lv_has ls maxL (lv_args 0 av) → W p l e rm s m args below meth c s.heap [] 0 0 Q (F0 m 0 ls [])) : Rd l y wsy rm D cI cB av ws (.int ri) := by
  refine va_MetF (cc := cc) (maxL := maxL) (ret := some .int) hy hw ?_
  intro p e s m args below meth c s₁ B hml hv
  obtain ⟨rfl, hP, hG⟩ := hv
  have hl := lv_entry av (n := maxL) ha
  have hlocks := B.notSynchronized
  rw [lg_entry_eq]
  refine body p e s m _ below meth c _ B.exec B.bytes hml (findClass_of_methodNamed B.named) (atoms_spec (ws := wsy) B.pre) hP hG (fun v pc ls hv hd => ?_) _ hl
  subst hv
  exact W.iret B.exec B.bytes B.returns (fun t ht _ => ⟨rfl, ht⟩) (fun q h => by cases h) hd
theorem pu_startZF {rb : Bool} (hy : plainFor y = true) (hw : wsy = Cond.code y cc maxL (some .boolean) :: wt) (ha : (lg_sl av).length ≤ maxL)
    (body : ∀ (p : Program) (e : Env) (s : State) (m : MethodId) (args : Array Value) (below : List Frame) (meth : Method) (c : Code) (Q : State → Prop), p.tables.exec = Jvm.exec → c.code = cc → c.maxLocals = maxL → s.vm.findClass y.cls = some m.cls → (∀ w ∈ wsy, w.before args s = true) → va_P D vwCl ws s.heap → gk D cI cB s →
      (∀ (v : Int32) (pc : Nat) (ls : Array Slot), v = bI rb → decode cc pc = .ok (.ireturn, 1) → W p l e rm s m args below meth c s.heap [] 0 0 Q (F0 m pc ls [.int v])) →
      ∀ ls : Array Slot, lv_has ls maxL (lv_args 0 av) → W p l e rm s m args below meth c s.heap [] 0 0 Q (F0 m 0 ls [])) : Rd l y wsy rm D cI cB av ws (.int (bI rb)) := by
  refine va_MetF (cc := cc) (maxL := maxL) (ret := some .boolean) hy hw ?_
  intro p e s m args below meth c s₁ B hml hv
  obtain ⟨rfl, hP, hG⟩ := hv
  have hl := lv_entry av (n := maxL) ha
  have hlocks := B.notSynchronized
  rw [lg_entry_eq]
  refine body p e s m _ below meth c _ B.exec B.bytes hml (findClass_of_methodNamed B.named) (atoms_spec (ws := wsy) B.pre) hP hG (fun v pc ls hv hd => ?_) _ hl
  subst hv
  exact W.zret B.exec B.bytes B.returns (bI_nar rb) (fun t ht _ => ⟨rfl, ht⟩) (fun q h => by cases h) hd
end PF
