/-! making: arrays, objects, constructors -/
/-- as eP, and the class of arrays of books is there -/
def eO (D : va_G) (cI cB : ClassId) (av : List Value) (ws : va_W) (sz : Nat) : Array Value → State → Prop := va_Pc av (fun U => U.heap.size = sz ∧ va_P D vwCl ws U.heap ∧ gk D cI cB U ∧ va_AO RX4 U ∧ va_D (fun _ => True) ws)
theorem eO_blind {D : va_G} {cI cB : ClassId} {av : List Value} {ws : va_W} {sz : Nat} : FrameBlind (eO D cI cB av ws sz) := fun a U g mk h => ⟨h.1, h.2.1, h.2.2.1, gk_call h.2.2.2.1, va_AO.moved (u := U) (U := U.calling g mk a) (Vm.Alike.refl U.vm) h.2.2.2.2.1, h.2.2.2.2.2⟩
abbrev Wo (l : Launch) (y : MethodName) (wsy : List Cond) (rm : Room) (D : va_G) (cI cB : ClassId) (av : List Value) (ws : va_W) (sz : Nat) {S : Type} (post : Option Value → S → Prop) (mk : S → va_W) (mc ms : Nat) : Prop := Met l y wsy rm (eO D cI cB av ws sz) (eQ D post mk (va_A ws sz)) mc ms (va_A ws sz)
theorem gk_I {D : va_G} {cI cB cA : ClassId} {s : State} (hG : gk D cI cB s) (h : va_K D vwCl ([(cI, .int), (cB, .object RX4)] ++ [(cA, .int)]) s) : cA = cI := by
  have h1 : s.vm.findClass ("[" ++ FieldType.int.toString) = some cA := (h.2 2 _ rfl).2
  have h2 : s.vm.findClass ("[" ++ FieldType.int.toString) = some cI := (hG.1.2 0 _ rfl).2
  exact Option.some.inj (h1.symm.trans h2)
theorem gk_B {D : va_G} {cI cB cA : ClassId} {s : State} (hG : gk D cI cB s) (h : va_K D vwCl ([(cI, .int), (cB, .object RX4)] ++ [(cA, .object RX4)]) s) : cA = cB := by
  obtain ⟨k1, c1, -, -, -, h1⟩ := (h.2 2 _ rfl).2
  obtain ⟨k2, c2, -, -, -, h2⟩ := (hG.1.2 1 _ rfl).2
  exact Option.some.inj (h1.symm.trans h2)
section MK
variable {p : Program} {l : Launch} {e : Env} {R : Room} {s : State} {m : MethodId} {args : Array Value} {below : List Frame} {meth : Method} {c : Code} {H H0 : Heap} {locs : List Loc} {cells slots : Nat} {Q : State → Prop}
variable {D : va_G} {cI cB : ClassId} {y : MethodName} {bytes cc : ByteArray} {maxL nL n index pc mc ms sz : Nat} {ret : Option FieldType} {wsy wt Ts : List Cond} {rm : Room} {own C host : String} {b : Nat} {av As rest st0 : List Value} {ws wc wr : va_W} {ls : Array Slot} {A : Nat → Prop}
variable {S : Type} {post : Option Value → S → Prop} {mk : S → va_W}
theorem ef_newI (hx : p.tables.exec = Jvm.exec) (hb : c.code = cc) (harr : (Cond.arrayClass .int).before args s = true) (hG : gk D cI cB s) (hP : va_P D vwCl ws H) (hD : va_D A ws) (hS : va_S A H0 H locs) (hA : ∀ q : Nat, H0.size ≤ q → A q)
    {i : Int32} (k : Nat) (hi : i = nI k) (hk : k ≤ 1000) (hcells : cells + 1 ≤ R.cells) (hslots : slots + k ≤ R.slots) (hdg : decode cc pc = .ok (.newarray .int, 2))
    (kk : ∀ (q : Nat) (H1 : Heap), va_P D vwCl (ws ++ [(q, .inl (cI, k, .inl (fun _ => 0)))]) H1 → va_D A (ws ++ [(q, .inl (cI, k, .inl (fun _ => 0)))]) → va_S A H0 H1 locs → W p l e R s m args below meth c H1 locs (cells + 1) (slots + k) Q (F0 m (pc + 2) ls (.ref q :: rest))) : W p l e R s m args below meth c H locs cells slots Q (F0 m pc ls (.int i :: rest)) := by
  subst hi
  refine va_newa (atype := .int) (a0 := (k, .inl (fun _ => 0))) (ty := .int) hx hb harr rfl hG.1 hP hD hS hA (fun _ => rfl) (nI_pos (by omega)) (nI_clamp (by omega)) (by show k * 4 ≤ _; omega) hcells hslots hdg (fun q cA H1 g1 g2 g3 g4 => ?_)
  have ec := gk_I hG g1
  subst ec
  exact kk q H1 g2 g3 g4
theorem ef_newB (hx : p.tables.exec = Jvm.exec) (hb : c.code = cc) (hown : s.vm.findClass own = some m.cls) (hclink : (Cond.classLink own index RX4).before args s = true) (hO : va_AO RX4 s) (hG : gk D cI cB s) (hP : va_P D vwCl ws H) (hD : va_D A ws) (hS : va_S A H0 H locs) (hA : ∀ q : Nat, H0.size ≤ q → A q)
    {i : Int32} (k : Nat) (hi : i = nI k) (hk : k ≤ 1000) (hcells : cells + 1 ≤ R.cells) (hslots : slots + k ≤ R.slots) (hdg : decode cc pc = .ok (.anewarray index, 3))
    (kk : ∀ (q : Nat) (H1 : Heap), va_P D vwCl (ws ++ [(q, .inl (cB, k, .inr (.inr (.inr (.inr (fun _ => none))))))]) H1 → va_D A (ws ++ [(q, .inl (cB, k, .inr (.inr (.inr (.inr (fun _ => none))))))]) → va_S A H0 H1 locs → W p l e R s m args below meth c H1 locs (cells + 1) (slots + k) Q (F0 m (pc + 3) ls (.ref q :: rest))) : W p l e R s m args below meth c H locs cells slots Q (F0 m pc ls (.int i :: rest)) := by
  subst hi
  refine va_newq (N' := k) hx hb hown hclink hO hG.1 hP hD hS hA (nI_pos (by omega)) (nI_clamp (by omega)) (by omega) hcells hslots hdg (fun q cA H1 g1 g2 g3 g4 => ?_)
  have ec := gk_B hG g1
  subst ec
  exact kk q H1 g2 g3 g4
theorem ef_I (F : CallFix p m c cc nL s args Ts own) (hG : gk D cI cB s) (hP : va_P D vwCl ws H) (hD : va_D A ws) (hS : va_S A H0 H locs) (hA : ∀ q : Nat, H0.size ≤ q → A q) (hM : Wr l y wsy rm D cI cB (.ref b :: As) wc H.size post mk mc ms) (cw : CallB R s args own index y bytes maxL none wsy rm mc ms n ∧ y.name = "<init>" ∧ (Cond.instanceMethod y).before args s = true)
    (isC isR : List Nat) (hC : isC.map (fun i => ws[i]?) = wc.map some) (hR : isR.map (fun i => ws[i]?) = wr.map some) (hnC : va_nd isC = true) (hnR : va_nd isR = true) (hdis : ∀ i ∈ isR, i ∉ isC)
    (hn : As.length = n) (hls : ls.size = nL) (hst : st0 = As.reverse ++ .ref b :: rest) (hrest : (rest.map fun v => v.category).sum ≤ 8) (hdg : decode cc pc = .ok (.invokespecial index, 3)) (hf : cells + mc ≤ R.cells ∧ slots + ms ≤ R.slots)
    (kk : ∀ (v : Option Value) (u : S) (H1 : Heap) (locs1 : List Loc), post v u → va_P D vwCl (wr ++ mk u) H1 → va_D A (wr ++ mk u) → va_S A H0 H1 locs1 → W p l e R s m args below meth c H1 locs1 (cells + mc) (slots + ms) Q (F0 m (pc + 3) ls (v.toList ++ rest))) : W p l e R s m args below meth c H locs cells slots Q (F0 m pc ls st0) := by
  have hFc := va_free (wc := wc) hD hS hA isC hC
  have hDc := hD.sub isC hnC hC
  have hPc : va_P D vwCl wc H := by
    intro k x hk
    have h1 : (isC.map (fun i => ws[i]?))[k]? = some (some x) := by rw [hC, List.getElem?_map, hk]; rfl
    rw [List.getElem?_map] at h1
    cases hi : isC[k]? with
    | none => rw [hi] at h1; cases h1
    | some i => rw [hi] at h1; exact hP i x (Option.some.inj h1)
  refine ef_call (va_runI (As := As) (rest := rest) F hM cw ⟨eP_blind, fun U hU hW => ⟨rfl, by rw [hU], by rw [hU]; exact hPc, gk_warm hW hG, hDc.weaken (fun _ _ _ _ => trivial)⟩⟩ rfl hn hls hst (lv_room hrest) hdg hf) hS hFc hFc (fun v u H1 locs1 hp h1 h2 hk h3 => ?_)
  obtain ⟨g1, g2⟩ := va_join (wr := wr) (w1 := mk u) hP hD isC isR hC hR hnR hdis hk hFc h1 h2
  exact kk v u H1 locs1 hp g1 g2 h3
theorem ef_IN (F : CallFix p m c cc nL s args Ts own) (hG : gk D cI cB s) (hP : va_P D vwCl ws H) (hD : va_D A ws) (hS : va_S A H0 H locs) (hA : ∀ q : Nat, H0.size ≤ q → A q) (hM : Wr l y wsy rm D cI cB (.ref b :: As) wc H.size post mk mc ms) (cw : va_CN R s args own index y host bytes maxL none wsy rm mc ms n ∧ y.name = "<init>" ∧ (Cond.instanceMethod y).before args s = true)
    (isC isR : List Nat) (hC : isC.map (fun i => ws[i]?) = wc.map some) (hR : isR.map (fun i => ws[i]?) = wr.map some) (hnC : va_nd isC = true) (hnR : va_nd isR = true) (hdis : ∀ i ∈ isR, i ∉ isC)
    (hn : As.length = n) (hls : ls.size = nL) (hst : st0 = As.reverse ++ .ref b :: rest) (hrest : (rest.map fun v => v.category).sum ≤ 8) (hdg : decode cc pc = .ok (.invokespecial index, 3)) (hf : cells + mc ≤ R.cells ∧ slots + ms ≤ R.slots)
    (kk : ∀ (v : Option Value) (u : S) (H1 : Heap) (locs1 : List Loc), post v u → va_P D vwCl (wr ++ mk u) H1 → va_D A (wr ++ mk u) → va_S A H0 H1 locs1 → W p l e R s m args below meth c H1 locs1 (cells + mc) (slots + ms) Q (F0 m (pc + 3) ls (v.toList ++ rest))) : W p l e R s m args below meth c H locs cells slots Q (F0 m pc ls st0) := by
  have hFc := va_free (wc := wc) hD hS hA isC hC
  have hDc := hD.sub isC hnC hC
  have hPc : va_P D vwCl wc H := by
    intro k x hk
    have h1 : (isC.map (fun i => ws[i]?))[k]? = some (some x) := by rw [hC, List.getElem?_map, hk]; rfl
    rw [List.getElem?_map] at h1
    cases hi : isC[k]? with
    | none => rw [hi] at h1; cases h1
    | some i => rw [hi] at h1; exact hP i x (Option.some.inj h1)
  refine ef_call (va_runIN (As := As) (rest := rest) F hM cw ⟨eP_blind, fun U hU hW => ⟨rfl, by rw [hU], by rw [hU]; exact hPc, gk_warm hW hG, hDc.weaken (fun _ _ _ _ => trivial)⟩⟩ rfl hn hls hst (lv_room hrest) hdg hf) hS hFc hFc (fun v u H1 locs1 hp h1 h2 hk h3 => ?_)
  obtain ⟨g1, g2⟩ := va_join (wr := wr) (w1 := mk u) hP hD isC isR hC hR hnR hdis hk hFc h1 h2
  exact kk v u H1 locs1 hp g1 g2 h3
theorem eo_I (F : CallFix p m c cc nL s args Ts own) (hG : gk D cI cB s) (hO : va_AO RX4 s) (hP : va_P D vwCl ws H) (hD : va_D A ws) (hS : va_S A H0 H locs) (hA : ∀ q : Nat, H0.size ≤ q → A q) (hM : Wo l y wsy rm D cI cB (.ref b :: As) wc H.size post mk mc ms) (cw : CallB R s args own index y bytes maxL none wsy rm mc ms n ∧ y.name = "<init>" ∧ (Cond.instanceMethod y).before args s = true)
    (isC isR : List Nat) (hC : isC.map (fun i => ws[i]?) = wc.map some) (hR : isR.map (fun i => ws[i]?) = wr.map some) (hnC : va_nd isC = true) (hnR : va_nd isR = true) (hdis : ∀ i ∈ isR, i ∉ isC)
    (hn : As.length = n) (hls : ls.size = nL) (hst : st0 = As.reverse ++ .ref b :: rest) (hrest : (rest.map fun v => v.category).sum ≤ 8) (hdg : decode cc pc = .ok (.invokespecial index, 3)) (hf : cells + mc ≤ R.cells ∧ slots + ms ≤ R.slots)
    (kk : ∀ (v : Option Value) (u : S) (H1 : Heap) (locs1 : List Loc), post v u → va_P D vwCl (wr ++ mk u) H1 → va_D A (wr ++ mk u) → va_S A H0 H1 locs1 → W p l e R s m args below meth c H1 locs1 (cells + mc) (slots + ms) Q (F0 m (pc + 3) ls (v.toList ++ rest))) : W p l e R s m args below meth c H locs cells slots Q (F0 m pc ls st0) := by
  have hFc := va_free (wc := wc) hD hS hA isC hC
  have hDc := hD.sub isC hnC hC
  have hPc : va_P D vwCl wc H := by
    intro k x hk
    have h1 : (isC.map (fun i => ws[i]?))[k]? = some (some x) := by rw [hC, List.getElem?_map, hk]; rfl
    rw [List.getElem?_map] at h1
    cases hi : isC[k]? with
    | none => rw [hi] at h1; cases h1
    | some i => rw [hi] at h1; exact hP i x (Option.some.inj h1)
  refine ef_call (va_runI (As := As) (rest := rest) F hM cw ⟨eO_blind, fun U hU hW => ⟨rfl, by rw [hU], by rw [hU]; exact hPc, gk_warm hW hG, va_AO.moved hW.alike hO, hDc.weaken (fun _ _ _ _ => trivial)⟩⟩ rfl hn hls hst (lv_room hrest) hdg hf) hS hFc hFc (fun v u H1 locs1 hp h1 h2 hk h3 => ?_)
  obtain ⟨g1, g2⟩ := va_join (wr := wr) (w1 := mk u) hP hD isC isR hC hR hnR hdis hk hFc h1 h2
  exact kk v u H1 locs1 hp g1 g2 h3
theorem eo_startV (hy : plainName y.cls = true) (hw : wsy = Cond.code y cc maxL none :: wt) (ha : (lg_sl av).length ≤ maxL)
    (body : ∀ (p : Program) (e : Env) (s : State) (m : MethodId) (args : Array Value) (below : List Frame) (meth : Method) (c : Code) (Q : State → Prop) (A : Nat → Prop), p.tables.exec = Jvm.exec → c.code = cc → c.maxLocals = maxL → s.vm.findClass y.cls = some m.cls → (∀ w ∈ wsy, w.before args s = true) → va_P D vwCl ws s.heap → gk D cI cB s → va_D A ws → (∀ q : Nat, s.heap.size ≤ q → A q) → va_AO RX4 s → meth.name = y.name →
      (∀ (u : S) (H : Heap) (locs : List Loc) (pc : Nat) (ls : Array Slot), post none u → va_P D vwCl (mk u) H → va_D A (mk u) → va_S A s.heap H locs → decode cc pc = .ok (.return_, 1) → W p l e rm s m args below meth c H locs mc ms Q (F0 m pc ls [])) →
      ∀ ls : Array Slot, lv_has ls maxL (lv_args 0 av) → W p l e rm s m args below meth c s.heap [] 0 0 Q (F0 m 0 ls [])) : Wo l y wsy rm D cI cB av ws sz post mk mc ms := by
  refine Met.ofW (cc := cc) (maxL := maxL) (ret := none) hy hw ?_
  intro p e s m args below meth c s₁ B hml hv
  obtain ⟨rfl, hsz, hP, hG, hO, hD0⟩ := hv
  subst hsz
  have hl := lv_entry av (n := maxL) ha
  have hlocks := B.notSynchronized
  rw [lg_entry_eq]
  refine body p e s m _ below meth c _ (va_A ws s.heap.size) B.exec B.bytes hml (findClass_of_methodNamed B.named) (atoms_spec (ws := wsy) B.pre) hP hG hD0.self (fun q h => Or.inr h) hO (name_of_methodNamed B.named B.method).1 (fun u H locs pc ls hv h1 h2 h3 hd => ?_) _ hl
  exact W.vret B.exec B.bytes B.returns (fun t ht _ => ⟨⟨_, u, rfl, hv, by rw [ht]; exact h1, h2⟩, h3.F ht⟩) h3.2.2 hd
end MK
