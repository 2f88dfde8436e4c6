section
-- ===== PART A: goes FIRST, ahead of the names: the tables' words, and 'selects' of the private methods out of them =====
/-- a private method of a class that the tables say can be made, by its rows of tables_1 -/
def lw_okq (q : MethodName × Nat) : Prop := (q.1.cls ≠ "java/lang/invoke/MethodHandle" ∧ q.1.cls ≠ "java/lang/invoke/VarHandle") ∧ Cond.instantiable q.1.cls q.2 ∈ tables_1 ∧ Cond.privateMethod q.1 ∈ tables_1 ∧ Cond.instanceMethod q.1 ∈ tables_1
theorem lw_p0 : lw_okq (⟨"HornEngine", "fail", "(I)I"⟩, 6) := ⟨⟨by decide +kernel, by decide +kernel⟩, List.mem_of_getElem? (i := 11) (by decide +kernel), List.mem_of_getElem? (i := 143) (by decide +kernel), List.mem_of_getElem? (i := 144) (by decide +kernel)⟩
theorem lw_p1 : lw_okq (⟨"HornEngine$History", "dropOldest", "()V"⟩, 2) := ⟨⟨by decide +kernel, by decide +kernel⟩, List.mem_of_getElem? (i := 71) (by decide +kernel), List.mem_of_getElem? (i := 158) (by decide +kernel), List.mem_of_getElem? (i := 159) (by decide +kernel)⟩
theorem lw_p2 : lw_okq (⟨"HornEngine$Rulebook", "everyRule", "()I"⟩, 4) := ⟨⟨by decide +kernel, by decide +kernel⟩, List.mem_of_getElem? (i := 19) (by decide +kernel), List.mem_of_getElem? (i := 216) (by decide +kernel), List.mem_of_getElem? (i := 217) (by decide +kernel)⟩
theorem lw_p3 : lw_okq (⟨"HornEngine$Rulebook", "closure", "(II)I"⟩, 4) := ⟨⟨by decide +kernel, by decide +kernel⟩, List.mem_of_getElem? (i := 19) (by decide +kernel), List.mem_of_getElem? (i := 220) (by decide +kernel), List.mem_of_getElem? (i := 221) (by decide +kernel)⟩
theorem lw_p4 : lw_okq (⟨"HornEngine$Rulebook", "afterOneRound", "(II)I"⟩, 4) := ⟨⟨by decide +kernel, by decide +kernel⟩, List.mem_of_getElem? (i := 19) (by decide +kernel), List.mem_of_getElem? (i := 224) (by decide +kernel), List.mem_of_getElem? (i := 225) (by decide +kernel)⟩
theorem lw_p5 : lw_okq (⟨"HornEngine$Propagation", "fireFacts", "(LHornEngine$Rulebook;)V"⟩, 4) := ⟨⟨by decide +kernel, by decide +kernel⟩, List.mem_of_getElem? (i := 39) (by decide +kernel), List.mem_of_getElem? (i := 246) (by decide +kernel), List.mem_of_getElem? (i := 247) (by decide +kernel)⟩
theorem lw_p6 : lw_okq (⟨"HornEngine$Propagation", "fire", "(LHornEngine$Rulebook;I)V"⟩, 4) := ⟨⟨by decide +kernel, by decide +kernel⟩, List.mem_of_getElem? (i := 39) (by decide +kernel), List.mem_of_getElem? (i := 253) (by decide +kernel), List.mem_of_getElem? (i := 254) (by decide +kernel)⟩
theorem lw_p7 : lw_okq (⟨"HornEngine$Propagation", "countDown", "(LHornEngine$Rulebook;I)V"⟩, 4) := ⟨⟨by decide +kernel, by decide +kernel⟩, List.mem_of_getElem? (i := 39) (by decide +kernel), List.mem_of_getElem? (i := 275) (by decide +kernel), List.mem_of_getElem? (i := 276) (by decide +kernel)⟩
theorem lw_p8 : lw_okq (⟨"HornEngine", "isDerived", "(I)Z"⟩, 6) := ⟨⟨by decide +kernel, by decide +kernel⟩, List.mem_of_getElem? (i := 11) (by decide +kernel), List.mem_of_getElem? (i := 295) (by decide +kernel), List.mem_of_getElem? (i := 296) (by decide +kernel)⟩
theorem lw_p9 : lw_okq (⟨"HornEngine$Rulebook", "modelWithout", "(I)I"⟩, 4) := ⟨⟨by decide +kernel, by decide +kernel⟩, List.mem_of_getElem? (i := 19) (by decide +kernel), List.mem_of_getElem? (i := 337) (by decide +kernel), List.mem_of_getElem? (i := 338) (by decide +kernel)⟩
theorem lw_p10 : lw_okq (⟨"HornEngine$Rulebook", "bodiesUnder", "(I)I"⟩, 4) := ⟨⟨by decide +kernel, by decide +kernel⟩, List.mem_of_getElem? (i := 19) (by decide +kernel), List.mem_of_getElem? (i := 349) (by decide +kernel), List.mem_of_getElem? (i := 350) (by decide +kernel)⟩
theorem lw_p11 : lw_okq (⟨"HornEngine$RuleReader", "skipSpaces", "(LHornEngine$Row;)V"⟩, 3) := ⟨⟨by decide +kernel, by decide +kernel⟩, List.mem_of_getElem? (i := 89) (by decide +kernel), List.mem_of_getElem? (i := 424) (by decide +kernel), List.mem_of_getElem? (i := 425) (by decide +kernel)⟩
theorem lw_p12 : lw_okq (⟨"HornEngine$RuleReader", "readRule", "(LHornEngine$Row;)Z"⟩, 3) := ⟨⟨by decide +kernel, by decide +kernel⟩, List.mem_of_getElem? (i := 89) (by decide +kernel), List.mem_of_getElem? (i := 430) (by decide +kernel), List.mem_of_getElem? (i := 431) (by decide +kernel)⟩
theorem lw_p13 : lw_okq (⟨"HornEngine$RuleReader", "refuse", "(I)I"⟩, 3) := ⟨⟨by decide +kernel, by decide +kernel⟩, List.mem_of_getElem? (i := 89) (by decide +kernel), List.mem_of_getElem? (i := 435) (by decide +kernel), List.mem_of_getElem? (i := 436) (by decide +kernel)⟩
theorem lw_p14 : lw_okq (⟨"HornEngine$RuleReader", "readAtom", "(LHornEngine$Row;)I"⟩, 3) := ⟨⟨by decide +kernel, by decide +kernel⟩, List.mem_of_getElem? (i := 89) (by decide +kernel), List.mem_of_getElem? (i := 439) (by decide +kernel), List.mem_of_getElem? (i := 440) (by decide +kernel)⟩
theorem lw_p15 : lw_okq (⟨"HornEngine$RuleReader", "take", "(LHornEngine$Row;I)Z"⟩, 3) := ⟨⟨by decide +kernel, by decide +kernel⟩, List.mem_of_getElem? (i := 89) (by decide +kernel), List.mem_of_getElem? (i := 447) (by decide +kernel), List.mem_of_getElem? (i := 448) (by decide +kernel)⟩
def lw_privs_1 : List (MethodName × Nat) := [(⟨"HornEngine", "fail", "(I)I"⟩, 6), (⟨"HornEngine$History", "dropOldest", "()V"⟩, 2), (⟨"HornEngine$Rulebook", "everyRule", "()I"⟩, 4), (⟨"HornEngine$Rulebook", "closure", "(II)I"⟩, 4), (⟨"HornEngine$Rulebook", "afterOneRound", "(II)I"⟩, 4), (⟨"HornEngine$Propagation", "fireFacts", "(LHornEngine$Rulebook;)V"⟩, 4), (⟨"HornEngine$Propagation", "fire", "(LHornEngine$Rulebook;I)V"⟩, 4), (⟨"HornEngine$Propagation", "countDown", "(LHornEngine$Rulebook;I)V"⟩, 4), (⟨"HornEngine", "isDerived", "(I)Z"⟩, 6), (⟨"HornEngine$Rulebook", "modelWithout", "(I)I"⟩, 4), (⟨"HornEngine$Rulebook", "bodiesUnder", "(I)I"⟩, 4), (⟨"HornEngine$RuleReader", "skipSpaces", "(LHornEngine$Row;)V"⟩, 3), (⟨"HornEngine$RuleReader", "readRule", "(LHornEngine$Row;)Z"⟩, 3), (⟨"HornEngine$RuleReader", "refuse", "(I)I"⟩, 3), (⟨"HornEngine$RuleReader", "readAtom", "(LHornEngine$Row;)I"⟩, 3), (⟨"HornEngine$RuleReader", "take", "(LHornEngine$Row;I)Z"⟩, 3)]
theorem lw_r1 : ∀ q ∈ lw_privs_1, lw_okq q := List.forall_mem_cons.mpr ⟨lw_p0, List.forall_mem_cons.mpr ⟨lw_p1, List.forall_mem_cons.mpr ⟨lw_p2, List.forall_mem_cons.mpr ⟨lw_p3, List.forall_mem_cons.mpr ⟨lw_p4, List.forall_mem_cons.mpr ⟨lw_p5, List.forall_mem_cons.mpr ⟨lw_p6, List.forall_mem_cons.mpr ⟨lw_p7, List.forall_mem_cons.mpr ⟨lw_p8, List.forall_mem_cons.mpr ⟨lw_p9, List.forall_mem_cons.mpr ⟨lw_p10, List.forall_mem_cons.mpr ⟨lw_p11, List.forall_mem_cons.mpr ⟨lw_p12, List.forall_mem_cons.mpr ⟨lw_p13, List.forall_mem_cons.mpr ⟨lw_p14, List.forall_mem_cons.mpr ⟨lw_p15, fun _ h => absurd h List.not_mem_nil⟩⟩⟩⟩⟩⟩⟩⟩⟩⟩⟩⟩⟩⟩⟩⟩
theorem lw_p16 : lw_okq (⟨"HornEngine$RuleReader", "readBody", "(LHornEngine$Row;)I"⟩, 3) := ⟨⟨by decide +kernel, by decide +kernel⟩, List.mem_of_getElem? (i := 89) (by decide +kernel), List.mem_of_getElem? (i := 451) (by decide +kernel), List.mem_of_getElem? (i := 452) (by decide +kernel)⟩
theorem lw_p17 : lw_okq (⟨"HornEngine", "mixRules", "(J)J"⟩, 6) := ⟨⟨by decide +kernel, by decide +kernel⟩, List.mem_of_getElem? (i := 11) (by decide +kernel), List.mem_of_getElem? (i := 499) (by decide +kernel), List.mem_of_getElem? (i := 500) (by decide +kernel)⟩
theorem lw_p18 : lw_okq (⟨"HornEngine", "mixPropagation", "(J)J"⟩, 6) := ⟨⟨by decide +kernel, by decide +kernel⟩, List.mem_of_getElem? (i := 11) (by decide +kernel), List.mem_of_getElem? (i := 503) (by decide +kernel), List.mem_of_getElem? (i := 504) (by decide +kernel)⟩
theorem lw_p19 : lw_okq (⟨"HornEngine", "mixAtoms", "(J)J"⟩, 6) := ⟨⟨by decide +kernel, by decide +kernel⟩, List.mem_of_getElem? (i := 11) (by decide +kernel), List.mem_of_getElem? (i := 515) (by decide +kernel), List.mem_of_getElem? (i := 516) (by decide +kernel)⟩
theorem lw_p20 : lw_okq (⟨"HornEngineModel", "error", "(I)I"⟩, 15) := ⟨⟨by decide +kernel, by decide +kernel⟩, List.mem_of_getElem? (i := 519) (by decide +kernel), List.mem_of_getElem? (i := 589) (by decide +kernel), List.mem_of_getElem? (i := 590) (by decide +kernel)⟩
theorem lw_p21 : lw_okq (⟨"HornEngineModel", "save", "()V"⟩, 15) := ⟨⟨by decide +kernel, by decide +kernel⟩, List.mem_of_getElem? (i := 519) (by decide +kernel), List.mem_of_getElem? (i := 593) (by decide +kernel), List.mem_of_getElem? (i := 594) (by decide +kernel)⟩
theorem lw_p22 : lw_okq (⟨"HornEngineModel", "adds", "(II)V"⟩, 15) := ⟨⟨by decide +kernel, by decide +kernel⟩, List.mem_of_getElem? (i := 519) (by decide +kernel), List.mem_of_getElem? (i := 597) (by decide +kernel), List.mem_of_getElem? (i := 598) (by decide +kernel)⟩
theorem lw_p23 : lw_okq (⟨"HornEngineModel", "isRule", "(I)Z"⟩, 15) := ⟨⟨by decide +kernel, by decide +kernel⟩, List.mem_of_getElem? (i := 519) (by decide +kernel), List.mem_of_getElem? (i := 605) (by decide +kernel), List.mem_of_getElem? (i := 606) (by decide +kernel)⟩
theorem lw_p24 : lw_okq (⟨"HornEngineModel", "headOf", "(I)I"⟩, 15) := ⟨⟨by decide +kernel, by decide +kernel⟩, List.mem_of_getElem? (i := 519) (by decide +kernel), List.mem_of_getElem? (i := 617) (by decide +kernel), List.mem_of_getElem? (i := 618) (by decide +kernel)⟩
theorem lw_p25 : lw_okq (⟨"HornEngineModel", "bodyOf", "(I)I"⟩, 15) := ⟨⟨by decide +kernel, by decide +kernel⟩, List.mem_of_getElem? (i := 519) (by decide +kernel), List.mem_of_getElem? (i := 625) (by decide +kernel), List.mem_of_getElem? (i := 626) (by decide +kernel)⟩
theorem lw_p26 : lw_okq (⟨"HornEngineModel", "whole", "()I"⟩, 15) := ⟨⟨by decide +kernel, by decide +kernel⟩, List.mem_of_getElem? (i := 519) (by decide +kernel), List.mem_of_getElem? (i := 633) (by decide +kernel), List.mem_of_getElem? (i := 634) (by decide +kernel)⟩
theorem lw_p27 : lw_okq (⟨"HornEngineModel", "everyRule", "()I"⟩, 15) := ⟨⟨by decide +kernel, by decide +kernel⟩, List.mem_of_getElem? (i := 519) (by decide +kernel), List.mem_of_getElem? (i := 637) (by decide +kernel), List.mem_of_getElem? (i := 638) (by decide +kernel)⟩
theorem lw_p28 : lw_okq (⟨"HornEngineModel", "modelOf", "(II)I"⟩, 15) := ⟨⟨by decide +kernel, by decide +kernel⟩, List.mem_of_getElem? (i := 519) (by decide +kernel), List.mem_of_getElem? (i := 641) (by decide +kernel), List.mem_of_getElem? (i := 642) (by decide +kernel)⟩
theorem lw_p29 : lw_okq (⟨"HornEngineModel", "propagates", "()V"⟩, 15) := ⟨⟨by decide +kernel, by decide +kernel⟩, List.mem_of_getElem? (i := 519) (by decide +kernel), List.mem_of_getElem? (i := 649) (by decide +kernel), List.mem_of_getElem? (i := 650) (by decide +kernel)⟩
theorem lw_p30 : lw_okq (⟨"HornEngineModel", "fires", "(I)V"⟩, 15) := ⟨⟨by decide +kernel, by decide +kernel⟩, List.mem_of_getElem? (i := 519) (by decide +kernel), List.mem_of_getElem? (i := 653) (by decide +kernel), List.mem_of_getElem? (i := 654) (by decide +kernel)⟩
theorem lw_p31 : lw_okq (⟨"HornEngineModel", "asks", "(I)I"⟩, 15) := ⟨⟨by decide +kernel, by decide +kernel⟩, List.mem_of_getElem? (i := 519) (by decide +kernel), List.mem_of_getElem? (i := 665) (by decide +kernel), List.mem_of_getElem? (i := 666) (by decide +kernel)⟩
def lw_privs_2 : List (MethodName × Nat) := [(⟨"HornEngine$RuleReader", "readBody", "(LHornEngine$Row;)I"⟩, 3), (⟨"HornEngine", "mixRules", "(J)J"⟩, 6), (⟨"HornEngine", "mixPropagation", "(J)J"⟩, 6), (⟨"HornEngine", "mixAtoms", "(J)J"⟩, 6), (⟨"HornEngineModel", "error", "(I)I"⟩, 15), (⟨"HornEngineModel", "save", "()V"⟩, 15), (⟨"HornEngineModel", "adds", "(II)V"⟩, 15), (⟨"HornEngineModel", "isRule", "(I)Z"⟩, 15), (⟨"HornEngineModel", "headOf", "(I)I"⟩, 15), (⟨"HornEngineModel", "bodyOf", "(I)I"⟩, 15), (⟨"HornEngineModel", "whole", "()I"⟩, 15), (⟨"HornEngineModel", "everyRule", "()I"⟩, 15), (⟨"HornEngineModel", "modelOf", "(II)I"⟩, 15), (⟨"HornEngineModel", "propagates", "()V"⟩, 15), (⟨"HornEngineModel", "fires", "(I)V"⟩, 15), (⟨"HornEngineModel", "asks", "(I)I"⟩, 15)]
theorem lw_r2 : ∀ q ∈ lw_privs_2, lw_okq q := List.forall_mem_cons.mpr ⟨lw_p16, List.forall_mem_cons.mpr ⟨lw_p17, List.forall_mem_cons.mpr ⟨lw_p18, List.forall_mem_cons.mpr ⟨lw_p19, List.forall_mem_cons.mpr ⟨lw_p20, List.forall_mem_cons.mpr ⟨lw_p21, List.forall_mem_cons.mpr ⟨lw_p22, List.forall_mem_cons.mpr ⟨lw_p23, List.forall_mem_cons.mpr ⟨lw_p24, List.forall_mem_cons.mpr ⟨lw_p25, List.forall_mem_cons.mpr ⟨lw_p26, List.forall_mem_cons.mpr ⟨lw_p27, List.forall_mem_cons.mpr ⟨lw_p28, List.forall_mem_cons.mpr ⟨lw_p29, List.forall_mem_cons.mpr ⟨lw_p30, List.forall_mem_cons.mpr ⟨lw_p31, fun _ h => absurd h List.not_mem_nil⟩⟩⟩⟩⟩⟩⟩⟩⟩⟩⟩⟩⟩⟩⟩⟩
theorem lw_p32 : lw_okq (⟨"HornEngineModel", "isIn", "(I)Z"⟩, 15) := ⟨⟨by decide +kernel, by decide +kernel⟩, List.mem_of_getElem? (i := 519) (by decide +kernel), List.mem_of_getElem? (i := 669) (by decide +kernel), List.mem_of_getElem? (i := 670) (by decide +kernel)⟩
theorem lw_p33 : lw_okq (⟨"HornEngineModel", "levelOf", "(I)I"⟩, 15) := ⟨⟨by decide +kernel, by decide +kernel⟩, List.mem_of_getElem? (i := 519) (by decide +kernel), List.mem_of_getElem? (i := 673) (by decide +kernel), List.mem_of_getElem? (i := 674) (by decide +kernel)⟩
theorem lw_p34 : lw_okq (⟨"HornEngineModel", "reasonOf", "(I)I"⟩, 15) := ⟨⟨by decide +kernel, by decide +kernel⟩, List.mem_of_getElem? (i := 519) (by decide +kernel), List.mem_of_getElem? (i := 700) (by decide +kernel), List.mem_of_getElem? (i := 701) (by decide +kernel)⟩
theorem lw_p35 : lw_okq (⟨"HornEngineModel", "necessaryOf", "(I)I"⟩, 15) := ⟨⟨by decide +kernel, by decide +kernel⟩, List.mem_of_getElem? (i := 519) (by decide +kernel), List.mem_of_getElem? (i := 708) (by decide +kernel), List.mem_of_getElem? (i := 709) (by decide +kernel)⟩
theorem lw_p36 : lw_okq (⟨"HornEngineModel", "dependenciesOf", "(I)I"⟩, 15) := ⟨⟨by decide +kernel, by decide +kernel⟩, List.mem_of_getElem? (i := 519) (by decide +kernel), List.mem_of_getElem? (i := 716) (by decide +kernel), List.mem_of_getElem? (i := 717) (by decide +kernel)⟩
theorem lw_p37 : lw_okq (⟨"HornEngineModel", "overDeletedOf", "(I)I"⟩, 15) := ⟨⟨by decide +kernel, by decide +kernel⟩, List.mem_of_getElem? (i := 519) (by decide +kernel), List.mem_of_getElem? (i := 728) (by decide +kernel), List.mem_of_getElem? (i := 729) (by decide +kernel)⟩
theorem lw_p38 : lw_okq (⟨"HornEngineModel", "lostOf", "(I)I"⟩, 15) := ⟨⟨by decide +kernel, by decide +kernel⟩, List.mem_of_getElem? (i := 519) (by decide +kernel), List.mem_of_getElem? (i := 736) (by decide +kernel), List.mem_of_getElem? (i := 737) (by decide +kernel)⟩
theorem lw_p39 : lw_okq (⟨"HornEngineModel", "next", "()I"⟩, 15) := ⟨⟨by decide +kernel, by decide +kernel⟩, List.mem_of_getElem? (i := 519) (by decide +kernel), List.mem_of_getElem? (i := 765) (by decide +kernel), List.mem_of_getElem? (i := 766) (by decide +kernel)⟩
theorem lw_p40 : lw_okq (⟨"HornEngineModel", "readsAtom", "()I"⟩, 15) := ⟨⟨by decide +kernel, by decide +kernel⟩, List.mem_of_getElem? (i := 519) (by decide +kernel), List.mem_of_getElem? (i := 769) (by decide +kernel), List.mem_of_getElem? (i := 770) (by decide +kernel)⟩
theorem lw_p41 : lw_okq (⟨"HornEngineModel", "isDigitAt", "(I)Z"⟩, 15) := ⟨⟨by decide +kernel, by decide +kernel⟩, List.mem_of_getElem? (i := 519) (by decide +kernel), List.mem_of_getElem? (i := 773) (by decide +kernel), List.mem_of_getElem? (i := 774) (by decide +kernel)⟩
theorem lw_p42 : lw_okq (⟨"HornEngineModel", "readsBody", "()I"⟩, 15) := ⟨⟨by decide +kernel, by decide +kernel⟩, List.mem_of_getElem? (i := 519) (by decide +kernel), List.mem_of_getElem? (i := 779) (by decide +kernel), List.mem_of_getElem? (i := 780) (by decide +kernel)⟩
def lw_privs_3 : List (MethodName × Nat) := [(⟨"HornEngineModel", "isIn", "(I)Z"⟩, 15), (⟨"HornEngineModel", "levelOf", "(I)I"⟩, 15), (⟨"HornEngineModel", "reasonOf", "(I)I"⟩, 15), (⟨"HornEngineModel", "necessaryOf", "(I)I"⟩, 15), (⟨"HornEngineModel", "dependenciesOf", "(I)I"⟩, 15), (⟨"HornEngineModel", "overDeletedOf", "(I)I"⟩, 15), (⟨"HornEngineModel", "lostOf", "(I)I"⟩, 15), (⟨"HornEngineModel", "next", "()I"⟩, 15), (⟨"HornEngineModel", "readsAtom", "()I"⟩, 15), (⟨"HornEngineModel", "isDigitAt", "(I)Z"⟩, 15), (⟨"HornEngineModel", "readsBody", "()I"⟩, 15)]
theorem lw_r3 : ∀ q ∈ lw_privs_3, lw_okq q := List.forall_mem_cons.mpr ⟨lw_p32, List.forall_mem_cons.mpr ⟨lw_p33, List.forall_mem_cons.mpr ⟨lw_p34, List.forall_mem_cons.mpr ⟨lw_p35, List.forall_mem_cons.mpr ⟨lw_p36, List.forall_mem_cons.mpr ⟨lw_p37, List.forall_mem_cons.mpr ⟨lw_p38, List.forall_mem_cons.mpr ⟨lw_p39, List.forall_mem_cons.mpr ⟨lw_p40, List.forall_mem_cons.mpr ⟨lw_p41, List.forall_mem_cons.mpr ⟨lw_p42, fun _ h => absurd h List.not_mem_nil⟩⟩⟩⟩⟩⟩⟩⟩⟩⟩⟩
def lw_privs : List (MethodName × Nat) := lw_privs_1 ++ (lw_privs_2 ++ (lw_privs_3))
def lw_tbl : List Cond := k2_sels lw_privs ++ tables_1
theorem lw_privs_ok : ∀ q ∈ lw_privs, lw_okq q := by
  show ∀ q ∈ lw_privs_1 ++ (lw_privs_2 ++ (lw_privs_3)), lw_okq q
  exact List.forall_mem_append.mpr ⟨lw_r1, List.forall_mem_append.mpr ⟨lw_r2, lw_r3⟩⟩
/-- the streams that the claim lets the run draw from -/
abbrev lw_cs : List Choice := [Jvm.Choice.named "NaN.bits"]
theorem lw_bits : nanBits ∈ lw_cs := by first | decide | exact List.mem_cons_self | simp [lw_cs, nanBits]
-- ===== end of PART A; then your names; then what follows =====
end
section
/-! ===== BEGIN words of one list among another's, by their places ===== -/
theorem goodIn_r {big : List Cond} (ws : List Cond) (ps : List Nat) (hp : ws = ps.filterMap (fun i => big[i]?)) (h : ws.all goodWord = true) : GoodIn big ws := by
  intro w hw
  have h1 := List.all_eq_true.mp h w hw
  rw [hp] at hw
  obtain ⟨i, -, hi⟩ := List.mem_filterMap.mp hw
  have hm : w ∈ big := by first | exact List.mem_of_getElem? hi | exact List.getElem?_mem hi
  exact ⟨hm, good_of_word h1⟩
theorem goodIn_app {big a b : List Cond} (ha : GoodIn big a) (hb : GoodIn big b) : GoodIn big (a ++ b) := fun w h => (List.mem_append.mp h).elim (ha w) (hb w)
theorem goodIn_ca {big a b : List Cond} {c : Cond} (ha : GoodIn big (c :: a)) (hb : GoodIn big b) : GoodIn big (c :: (a ++ b)) := fun w h => (List.mem_cons.mp h).elim (fun e => ha w (List.mem_cons.mpr (Or.inl e))) (fun h => (List.mem_append.mp h).elim (fun h => ha w (List.mem_cons.mpr (Or.inr h))) (hb w))
theorem goodIn_sub {big ws : List Cond} (hm : ∀ w ∈ ws, w ∈ big) (h : ws.all goodWord = true) : GoodIn big ws := fun w hw => ⟨hm w hw, good_of_word (List.all_eq_true.mp h w hw)⟩
/-! ===== END ===== -/

/-! ===== BEGIN printed: names, fields, word lists, decode rows ===== -/
def RX0 : String := "HornEngine$History"
def TX0 : u_T := fun k => match k with
  | 0 => ("HornEngine$History", "saved", "[LHornEngine$Rulebook;", true)
  | _ => ("HornEngine$History", "count", "I", false)
def tyX0 : Nat → FieldType := fun k => match k with
  | 0 => .array (.object "HornEngine$Rulebook")
  | _ => .int
abbrev wsX00 : List Cond := u_ws RX0 TX0 2
theorem nmX0 : ∀ a, a < 2 → ∀ b, b < 2 → a ≠ b → (TX0 a).2.1 ≠ (TX0 b).2.1 := by decide +kernel
theorem tyX0_ok : ∀ k, k < 2 → parseFieldDescriptor (TX0 k).2.2.1 = some (tyX0 k) := by decide +kernel
abbrev cX0_init : ByteArray := prog_2_method_1_code
def yX0_init : MethodName := ⟨RX0, "<init>", "()V"⟩
abbrev cX0_size : ByteArray := prog_2_method_2_code
def yX0_size : MethodName := ⟨RX0, "size", "()I"⟩
abbrev cX0_isEmpty : ByteArray := prog_2_method_3_code
def yX0_isEmpty : MethodName := ⟨RX0, "isEmpty", "()Z"⟩
abbrev cX0_save : ByteArray := prog_2_method_4_code
def yX0_save : MethodName := ⟨RX0, "save", "(LHornEngine$Rulebook;)V"⟩
abbrev cX0_restore : ByteArray := prog_2_method_5_code
def yX0_restore : MethodName := ⟨RX0, "restore", "(LHornEngine$Rulebook;)V"⟩
abbrev cX0_dropOldest : ByteArray := prog_2_method_6_code
def yX0_dropOldest : MethodName := ⟨RX0, "dropOldest", "()V"⟩
def RX1 : String := "HornEngine$Propagation"
def TX1 : u_T := fun k => match k with
  | 0 => ("HornEngine$Propagation", "queue", "LHornEngine$Row;", true)
  | 1 => ("HornEngine$Propagation", "firedRules", "LHornEngine$Row;", true)
  | 2 => ("HornEngine$Propagation", "counters", "[I", true)
  | _ => ("HornEngine$Propagation", "queuedAtoms", "I", false)
def tyX1 : Nat → FieldType := fun k => match k with
  | 0 => .object "HornEngine$Row"
  | 1 => .object "HornEngine$Row"
  | 2 => .array .int
  | _ => .int
abbrev wsX10 : List Cond := u_ws RX1 TX1 4
theorem nmX1 : ∀ a, a < 4 → ∀ b, b < 4 → a ≠ b → (TX1 a).2.1 ≠ (TX1 b).2.1 := by decide +kernel
theorem tyX1_ok : ∀ k, k < 4 → parseFieldDescriptor (TX1 k).2.2.1 = some (tyX1 k) := by decide +kernel
abbrev cX1_init : ByteArray := prog_3_method_1_code
def yX1_init : MethodName := ⟨RX1, "<init>", "()V"⟩
abbrev cX1_atomCount : ByteArray := prog_3_method_2_code
def yX1_atomCount : MethodName := ⟨RX1, "atomCount", "()I"⟩
abbrev cX1_atomAt : ByteArray := prog_3_method_3_code
def yX1_atomAt : MethodName := ⟨RX1, "atomAt", "(I)I"⟩
abbrev cX1_ruleCount : ByteArray := prog_3_method_4_code
def yX1_ruleCount : MethodName := ⟨RX1, "ruleCount", "()I"⟩
abbrev cX1_ruleAt : ByteArray := prog_3_method_5_code
def yX1_ruleAt : MethodName := ⟨RX1, "ruleAt", "(I)I"⟩
abbrev cX1_run : ByteArray := prog_3_method_6_code
def yX1_run : MethodName := ⟨RX1, "run", "(LHornEngine$Rulebook;)V"⟩
abbrev cX1_fireFacts : ByteArray := prog_3_method_7_code
def yX1_fireFacts : MethodName := ⟨RX1, "fireFacts", "(LHornEngine$Rulebook;)V"⟩
abbrev cX1_countDown : ByteArray := prog_3_method_8_code
def yX1_countDown : MethodName := ⟨RX1, "countDown", "(LHornEngine$Rulebook;I)V"⟩
abbrev cX1_fire : ByteArray := prog_3_method_9_code
def yX1_fire : MethodName := ⟨RX1, "fire", "(LHornEngine$Rulebook;I)V"⟩
def RX2 : String := "HornEngine$Row"
def TX2 : u_T := fun k => match k with
  | 0 => ("HornEngine$Row", "items", "[I", true)
  | _ => ("HornEngine$Row", "count", "I", false)
def tyX2 : Nat → FieldType := fun k => match k with
  | 0 => .array .int
  | _ => .int
abbrev wsX20 : List Cond := u_ws RX2 TX2 2
theorem nmX2 : ∀ a, a < 2 → ∀ b, b < 2 → a ≠ b → (TX2 a).2.1 ≠ (TX2 b).2.1 := by decide +kernel
theorem tyX2_ok : ∀ k, k < 2 → parseFieldDescriptor (TX2 k).2.2.1 = some (tyX2 k) := by decide +kernel
abbrev cX2_init : ByteArray := prog_4_method_1_code
def yX2_init : MethodName := ⟨RX2, "<init>", "(I)V"⟩
abbrev cX2_size : ByteArray := prog_4_method_2_code
def yX2_size : MethodName := ⟨RX2, "size", "()I"⟩
abbrev cX2_isFull : ByteArray := prog_4_method_3_code
def yX2_isFull : MethodName := ⟨RX2, "isFull", "()Z"⟩
abbrev cX2_empty : ByteArray := prog_4_method_4_code
def yX2_empty : MethodName := ⟨RX2, "empty", "()V"⟩
abbrev cX2_addLast : ByteArray := prog_4_method_5_code
def yX2_addLast : MethodName := ⟨RX2, "addLast", "(I)V"⟩
abbrev cX2_itemAt : ByteArray := prog_4_method_6_code
def yX2_itemAt : MethodName := ⟨RX2, "itemAt", "(I)I"⟩
def RX3 : String := "HornEngine$RuleReader"
def TX3 : u_T := fun k => match k with
  | 0 => ("HornEngine$RuleReader", "draft", "LHornEngine$Rulebook;", true)
  | 1 => ("HornEngine$RuleReader", "position", "I", false)
  | _ => ("HornEngine$RuleReader", "errorPosition", "I", false)
def tyX3 : Nat → FieldType := fun k => match k with
  | 0 => .object "HornEngine$Rulebook"
  | 1 => .int
  | _ => .int
abbrev wsX30 : List Cond := u_ws RX3 TX3 3
theorem nmX3 : ∀ a, a < 3 → ∀ b, b < 3 → a ≠ b → (TX3 a).2.1 ≠ (TX3 b).2.1 := by decide +kernel
theorem tyX3_ok : ∀ k, k < 3 → parseFieldDescriptor (TX3 k).2.2.1 = some (tyX3 k) := by decide +kernel
abbrev cX3_init : ByteArray := prog_5_method_1_code
def yX3_init : MethodName := ⟨RX3, "<init>", "()V"⟩
abbrev cX3_errorAt : ByteArray := prog_5_method_2_code
def yX3_errorAt : MethodName := ⟨RX3, "errorAt", "()I"⟩
abbrev cX3_copyResultTo : ByteArray := prog_5_method_3_code
def yX3_copyResultTo : MethodName := ⟨RX3, "copyResultTo", "(LHornEngine$Rulebook;)V"⟩
abbrev cX3_readOnto : ByteArray := prog_5_method_4_code
def yX3_readOnto : MethodName := ⟨RX3, "readOnto", "(LHornEngine$Rulebook;LHornEngine$Row;)Z"⟩
abbrev cX3_readRule : ByteArray := prog_5_method_5_code
def yX3_readRule : MethodName := ⟨RX3, "readRule", "(LHornEngine$Row;)Z"⟩
abbrev cX3_readBody : ByteArray := prog_5_method_6_code
def yX3_readBody : MethodName := ⟨RX3, "readBody", "(LHornEngine$Row;)I"⟩
abbrev cX3_readAtom : ByteArray := prog_5_method_7_code
def yX3_readAtom : MethodName := ⟨RX3, "readAtom", "(LHornEngine$Row;)I"⟩
abbrev cX3_take : ByteArray := prog_5_method_8_code
def yX3_take : MethodName := ⟨RX3, "take", "(LHornEngine$Row;I)Z"⟩
abbrev cX3_skipSpaces : ByteArray := prog_5_method_9_code
def yX3_skipSpaces : MethodName := ⟨RX3, "skipSpaces", "(LHornEngine$Row;)V"⟩
abbrev cX3_isDigit : ByteArray := prog_5_method_10_code
def yX3_isDigit : MethodName := ⟨RX3, "isDigit", "(I)Z"⟩
abbrev cX3_refuse : ByteArray := prog_5_method_11_code
def yX3_refuse : MethodName := ⟨RX3, "refuse", "(I)I"⟩
def RX4 : String := "HornEngine$Rulebook"
def TX4 : u_T := fun k => match k with
  | 0 => ("HornEngine$Rulebook", "heads", "[I", true)
  | 1 => ("HornEngine$Rulebook", "bodies", "[I", true)
  | 2 => ("HornEngine$Rulebook", "count", "I", false)
  | _ => ("HornEngine$Rulebook", "assumable", "I", false)
def tyX4 : Nat → FieldType := fun k => match k with
  | 0 => .array .int
  | 1 => .array .int
  | 2 => .int
  | _ => .int
abbrev wsX40 : List Cond := u_ws RX4 TX4 4
theorem nmX4 : ∀ a, a < 4 → ∀ b, b < 4 → a ≠ b → (TX4 a).2.1 ≠ (TX4 b).2.1 := by decide +kernel
theorem tyX4_ok : ∀ k, k < 4 → parseFieldDescriptor (TX4 k).2.2.1 = some (tyX4 k) := by decide +kernel
abbrev cX4_init : ByteArray := prog_6_method_1_code
def yX4_init : MethodName := ⟨RX4, "<init>", "()V"⟩
abbrev cX4_size : ByteArray := prog_6_method_2_code
def yX4_size : MethodName := ⟨RX4, "size", "()I"⟩
abbrev cX4_isFull : ByteArray := prog_6_method_3_code
def yX4_isFull : MethodName := ⟨RX4, "isFull", "()Z"⟩
abbrev cX4_hasRule : ByteArray := prog_6_method_4_code
def yX4_hasRule : MethodName := ⟨RX4, "hasRule", "(I)Z"⟩
abbrev cX4_headOf : ByteArray := prog_6_method_5_code
def yX4_headOf : MethodName := ⟨RX4, "headOf", "(I)I"⟩
abbrev cX4_bodyOf : ByteArray := prog_6_method_6_code
def yX4_bodyOf : MethodName := ⟨RX4, "bodyOf", "(I)I"⟩
abbrev cX4_assumableAtoms : ByteArray := prog_6_method_7_code
def yX4_assumableAtoms : MethodName := ⟨RX4, "assumableAtoms", "()I"⟩
abbrev cX4_addLast : ByteArray := prog_6_method_8_code
def yX4_addLast : MethodName := ⟨RX4, "addLast", "(II)V"⟩
abbrev cX4_removeAt : ByteArray := prog_6_method_9_code
def yX4_removeAt : MethodName := ⟨RX4, "removeAt", "(I)V"⟩
abbrev cX4_replaceAssumable : ByteArray := prog_6_method_10_code
def yX4_replaceAssumable : MethodName := ⟨RX4, "replaceAssumable", "(I)I"⟩
abbrev cX4_copyFrom : ByteArray := prog_6_method_11_code
def yX4_copyFrom : MethodName := ⟨RX4, "copyFrom", "(LHornEngine$Rulebook;)V"⟩
abbrev cX4_leastModel : ByteArray := prog_6_method_12_code
def yX4_leastModel : MethodName := ⟨RX4, "leastModel", "()I"⟩
abbrev cX4_levelOf : ByteArray := prog_6_method_13_code
def yX4_levelOf : MethodName := ⟨RX4, "levelOf", "(I)I"⟩
abbrev cX4_supportsOf : ByteArray := prog_6_method_14_code
def yX4_supportsOf : MethodName := ⟨RX4, "supportsOf", "(I)I"⟩
abbrev cX4_reasonFor : ByteArray := prog_6_method_15_code
def yX4_reasonFor : MethodName := ⟨RX4, "reasonFor", "(I)I"⟩
abbrev cX4_necessaryFor : ByteArray := prog_6_method_16_code
def yX4_necessaryFor : MethodName := ⟨RX4, "necessaryFor", "(I)I"⟩
abbrev cX4_dependenciesOf : ByteArray := prog_6_method_17_code
def yX4_dependenciesOf : MethodName := ⟨RX4, "dependenciesOf", "(I)I"⟩
abbrev cX4_atomsOnCycles : ByteArray := prog_6_method_18_code
def yX4_atomsOnCycles : MethodName := ⟨RX4, "atomsOnCycles", "()I"⟩
abbrev cX4_overDeletedBy : ByteArray := prog_6_method_19_code
def yX4_overDeletedBy : MethodName := ⟨RX4, "overDeletedBy", "(I)I"⟩
abbrev cX4_lostWithout : ByteArray := prog_6_method_20_code
def yX4_lostWithout : MethodName := ⟨RX4, "lostWithout", "(I)I"⟩
abbrev cX4_gainedWith : ByteArray := prog_6_method_21_code
def yX4_gainedWith : MethodName := ⟨RX4, "gainedWith", "(II)I"⟩
abbrev cX4_bestExplanation : ByteArray := prog_6_method_22_code
def yX4_bestExplanation : MethodName := ⟨RX4, "bestExplanation", "(I)I"⟩
abbrev cX4_everyRule : ByteArray := prog_6_method_23_code
def yX4_everyRule : MethodName := ⟨RX4, "everyRule", "()I"⟩
abbrev cX4_modelWithout : ByteArray := prog_6_method_24_code
def yX4_modelWithout : MethodName := ⟨RX4, "modelWithout", "(I)I"⟩
abbrev cX4_closure : ByteArray := prog_6_method_25_code
def yX4_closure : MethodName := ⟨RX4, "closure", "(II)I"⟩
abbrev cX4_afterOneRound : ByteArray := prog_6_method_26_code
def yX4_afterOneRound : MethodName := ⟨RX4, "afterOneRound", "(II)I"⟩
abbrev cX4_bodiesUnder : ByteArray := prog_6_method_27_code
def yX4_bodiesUnder : MethodName := ⟨RX4, "bodiesUnder", "(I)I"⟩
def RX5 : String := "HornEngine"
def TX5 : u_T := fun k => match k with
  | 0 => ("HornEngine", "current", "LHornEngine$Rulebook;", true)
  | 1 => ("HornEngine", "propagation", "LHornEngine$Propagation;", true)
  | 2 => ("HornEngine", "history", "LHornEngine$History;", true)
  | 3 => ("HornEngine", "text", "LHornEngine$Row;", true)
  | 4 => ("HornEngine", "reader", "LHornEngine$RuleReader;", true)
  | _ => ("HornEngine", "errorCounters", "[I", true)
def tyX5 : Nat → FieldType := fun k => match k with
  | 0 => .object "HornEngine$Rulebook"
  | 1 => .object "HornEngine$Propagation"
  | 2 => .object "HornEngine$History"
  | 3 => .object "HornEngine$Row"
  | 4 => .object "HornEngine$RuleReader"
  | _ => .array .int
abbrev wsX50 : List Cond := u_ws RX5 TX5 6
theorem nmX5 : ∀ a, a < 6 → ∀ b, b < 6 → a ≠ b → (TX5 a).2.1 ≠ (TX5 b).2.1 := by decide +kernel
theorem tyX5_ok : ∀ k, k < 6 → parseFieldDescriptor (TX5 k).2.2.1 = some (tyX5 k) := by decide +kernel
abbrev cX5_init : ByteArray := prog_1_method_1_code
def yX5_init : MethodName := ⟨RX5, "<init>", "()V"⟩
abbrev cX5_addRule : ByteArray := prog_1_method_2_code
def yX5_addRule : MethodName := ⟨RX5, "addRule", "(II)I"⟩
abbrev cX5_removeRule : ByteArray := prog_1_method_3_code
def yX5_removeRule : MethodName := ⟨RX5, "removeRule", "(I)I"⟩
abbrev cX5_rules : ByteArray := prog_1_method_4_code
def yX5_rules : MethodName := ⟨RX5, "rules", "()I"⟩
abbrev cX5_head : ByteArray := prog_1_method_5_code
def yX5_head : MethodName := ⟨RX5, "head", "(I)I"⟩
abbrev cX5_body : ByteArray := prog_1_method_6_code
def yX5_body : MethodName := ⟨RX5, "body", "(I)I"⟩
abbrev cX5_model : ByteArray := prog_1_method_7_code
def yX5_model : MethodName := ⟨RX5, "model", "()I"⟩
abbrev cX5_derived : ByteArray := prog_1_method_8_code
def yX5_derived : MethodName := ⟨RX5, "derived", "(I)I"⟩
abbrev cX5_fired : ByteArray := prog_1_method_9_code
def yX5_fired : MethodName := ⟨RX5, "fired", "(I)I"⟩
abbrev cX5_level : ByteArray := prog_1_method_10_code
def yX5_level : MethodName := ⟨RX5, "level", "(I)I"⟩
abbrev cX5_modelShareBits : ByteArray := prog_1_method_11_code
def yX5_modelShareBits : MethodName := ⟨RX5, "modelShareBits", "()I"⟩
abbrev cX5_supports : ByteArray := prog_1_method_12_code
def yX5_supports : MethodName := ⟨RX5, "supports", "(I)I"⟩
abbrev cX5_reason : ByteArray := prog_1_method_13_code
def yX5_reason : MethodName := ⟨RX5, "reason", "(I)I"⟩
abbrev cX5_necessary : ByteArray := prog_1_method_14_code
def yX5_necessary : MethodName := ⟨RX5, "necessary", "(I)I"⟩
abbrev cX5_dependencies : ByteArray := prog_1_method_15_code
def yX5_dependencies : MethodName := ⟨RX5, "dependencies", "(I)I"⟩
abbrev cX5_cyclicAtoms : ByteArray := prog_1_method_16_code
def yX5_cyclicAtoms : MethodName := ⟨RX5, "cyclicAtoms", "()I"⟩
abbrev cX5_overDeleted : ByteArray := prog_1_method_17_code
def yX5_overDeleted : MethodName := ⟨RX5, "overDeleted", "(I)I"⟩
abbrev cX5_lost : ByteArray := prog_1_method_18_code
def yX5_lost : MethodName := ⟨RX5, "lost", "(I)I"⟩
abbrev cX5_gained : ByteArray := prog_1_method_19_code
def yX5_gained : MethodName := ⟨RX5, "gained", "(II)I"⟩
abbrev cX5_setAssumable : ByteArray := prog_1_method_20_code
def yX5_setAssumable : MethodName := ⟨RX5, "setAssumable", "(I)I"⟩
abbrev cX5_explanation : ByteArray := prog_1_method_21_code
def yX5_explanation : MethodName := ⟨RX5, "explanation", "(I)I"⟩
abbrev cX5_append : ByteArray := prog_1_method_22_code
def yX5_append : MethodName := ⟨RX5, "append", "(I)I"⟩
abbrev cX5_clearText : ByteArray := prog_1_method_23_code
def yX5_clearText : MethodName := ⟨RX5, "clearText", "()I"⟩
abbrev cX5_parse : ByteArray := prog_1_method_24_code
def yX5_parse : MethodName := ⟨RX5, "parse", "()I"⟩
abbrev cX5_undo : ByteArray := prog_1_method_25_code
def yX5_undo : MethodName := ⟨RX5, "undo", "()I"⟩
abbrev cX5_errorCount : ByteArray := prog_1_method_26_code
def yX5_errorCount : MethodName := ⟨RX5, "errorCount", "(I)I"⟩
abbrev cX5_digest : ByteArray := prog_1_method_27_code
def yX5_digest : MethodName := ⟨RX5, "digest", "()J"⟩
abbrev cX5_mixRules : ByteArray := prog_1_method_28_code
def yX5_mixRules : MethodName := ⟨RX5, "mixRules", "(J)J"⟩
abbrev cX5_mixPropagation : ByteArray := prog_1_method_29_code
def yX5_mixPropagation : MethodName := ⟨RX5, "mixPropagation", "(J)J"⟩
abbrev cX5_mixAtoms : ByteArray := prog_1_method_30_code
def yX5_mixAtoms : MethodName := ⟨RX5, "mixAtoms", "(J)J"⟩
abbrev cX5_mix : ByteArray := prog_1_method_31_code
def yX5_mix : MethodName := ⟨RX5, "mix", "(JI)J"⟩
abbrev cX5_fail : ByteArray := prog_1_method_32_code
def yX5_fail : MethodName := ⟨RX5, "fail", "(I)I"⟩
abbrev cX5_isDerived : ByteArray := prog_1_method_33_code
def yX5_isDerived : MethodName := ⟨RX5, "isDerived", "(I)Z"⟩
abbrev cX5_isErrorCode : ByteArray := prog_1_method_34_code
def yX5_isErrorCode : MethodName := ⟨RX5, "isErrorCode", "(I)Z"⟩
abbrev cX5_isAtom : ByteArray := prog_1_method_35_code
def yX5_isAtom : MethodName := ⟨RX5, "isAtom", "(I)Z"⟩
abbrev cX5_isAtomSet : ByteArray := prog_1_method_36_code
def yX5_isAtomSet : MethodName := ⟨RX5, "isAtomSet", "(II)Z"⟩
abbrev cX5_contains : ByteArray := prog_1_method_37_code
def yX5_contains : MethodName := ⟨RX5, "contains", "(II)Z"⟩
abbrev cX5_isSubset : ByteArray := prog_1_method_38_code
def yX5_isSubset : MethodName := ⟨RX5, "isSubset", "(II)Z"⟩
abbrev cX5_bitsOfSixteenths : ByteArray := prog_1_method_39_code
def yX5_bitsOfSixteenths : MethodName := ⟨RX5, "bitsOfSixteenths", "(I)I"⟩
def RX6 : String := "HornEngineModel"
def TX6 : u_T := fun k => match k with
  | 0 => ("HornEngineModel", "all", "[I", true)
  | 1 => ("HornEngineModel", "saved", "[I", true)
  | 2 => ("HornEngineModel", "savedMany", "I", false)
  | 3 => ("HornEngineModel", "errors", "[I", true)
  | 4 => ("HornEngineModel", "text", "[I", true)
  | 5 => ("HornEngineModel", "textLong", "I", false)
  | 6 => ("HornEngineModel", "queue", "[I", true)
  | 7 => ("HornEngineModel", "queued", "I", false)
  | 8 => ("HornEngineModel", "fires", "[I", true)
  | 9 => ("HornEngineModel", "fireMany", "I", false)
  | 10 => ("HornEngineModel", "counters", "[I", true)
  | 11 => ("HornEngineModel", "at", "I", false)
  | 12 => ("HornEngineModel", "place", "I", false)
  | 13 => ("HornEngineModel", "heads", "[I", true)
  | _ => ("HornEngineModel", "bodies", "[I", true)
def tyX6 : Nat → FieldType := fun k => match k with
  | 0 => .array .int
  | 1 => .array .int
  | 2 => .int
  | 3 => .array .int
  | 4 => .array .int
  | 5 => .int
  | 6 => .array .int
  | 7 => .int
  | 8 => .array .int
  | 9 => .int
  | 10 => .array .int
  | 11 => .int
  | 12 => .int
  | 13 => .array .int
  | _ => .array .int
abbrev wsX60 : List Cond := u_ws RX6 TX6 15
theorem nmX6 : ∀ a, a < 15 → ∀ b, b < 15 → a ≠ b → (TX6 a).2.1 ≠ (TX6 b).2.1 := by decide +kernel
theorem tyX6_ok : ∀ k, k < 15 → parseFieldDescriptor (TX6 k).2.2.1 = some (tyX6 k) := by decide +kernel
abbrev cX6_init : ByteArray := prog_8_method_1_code
def yX6_init : MethodName := ⟨RX6, "<init>", "()V"⟩
abbrev cX6_in : ByteArray := prog_8_method_3_code
def yX6_in : MethodName := ⟨RX6, "in", "(JJJ)Z"⟩
abbrev cX6_error : ByteArray := prog_8_method_4_code
def yX6_error : MethodName := ⟨RX6, "error", "(I)I"⟩
abbrev cX6_save : ByteArray := prog_8_method_5_code
def yX6_save : MethodName := ⟨RX6, "save", "()V"⟩
abbrev cX6_isAtom : ByteArray := prog_8_method_6_code
def yX6_isAtom : MethodName := ⟨RX6, "isAtom", "(I)Z"⟩
abbrev cX6_size : ByteArray := prog_8_method_7_code
def yX6_size : MethodName := ⟨RX6, "size", "(I)I"⟩
abbrev cX6_isBody : ByteArray := prog_8_method_8_code
def yX6_isBody : MethodName := ⟨RX6, "isBody", "(I)Z"⟩
abbrev cX6_isRule : ByteArray := prog_8_method_9_code
def yX6_isRule : MethodName := ⟨RX6, "isRule", "(I)Z"⟩
abbrev cX6_headOf : ByteArray := prog_8_method_10_code
def yX6_headOf : MethodName := ⟨RX6, "headOf", "(I)I"⟩
abbrev cX6_bodyOf : ByteArray := prog_8_method_11_code
def yX6_bodyOf : MethodName := ⟨RX6, "bodyOf", "(I)I"⟩
abbrev cX6_adds : ByteArray := prog_8_method_12_code
def yX6_adds : MethodName := ⟨RX6, "adds", "(II)V"⟩
abbrev cX6_addRule : ByteArray := prog_8_method_13_code
def yX6_addRule : MethodName := ⟨RX6, "addRule", "(II)I"⟩
abbrev cX6_removeRule : ByteArray := prog_8_method_14_code
def yX6_removeRule : MethodName := ⟨RX6, "removeRule", "(I)I"⟩
abbrev cX6_rules : ByteArray := prog_8_method_15_code
def yX6_rules : MethodName := ⟨RX6, "rules", "()I"⟩
abbrev cX6_head : ByteArray := prog_8_method_16_code
def yX6_head : MethodName := ⟨RX6, "head", "(I)I"⟩
abbrev cX6_body : ByteArray := prog_8_method_17_code
def yX6_body : MethodName := ⟨RX6, "body", "(I)I"⟩
abbrev cX6_everyRule : ByteArray := prog_8_method_18_code
def yX6_everyRule : MethodName := ⟨RX6, "everyRule", "()I"⟩
abbrev cX6_modelOf : ByteArray := prog_8_method_19_code
def yX6_modelOf : MethodName := ⟨RX6, "modelOf", "(II)I"⟩
abbrev cX6_whole : ByteArray := prog_8_method_20_code
def yX6_whole : MethodName := ⟨RX6, "whole", "()I"⟩
abbrev cX6_model : ByteArray := prog_8_method_21_code
def yX6_model : MethodName := ⟨RX6, "model", "()I"⟩
abbrev cX6_fires : ByteArray := prog_8_method_22_code
def yX6_fires : MethodName := ⟨RX6, "fires", "(I)V"⟩
abbrev cX6_propagates : ByteArray := prog_8_method_23_code
def yX6_propagates : MethodName := ⟨RX6, "propagates", "()V"⟩
abbrev cX6_derived : ByteArray := prog_8_method_24_code
def yX6_derived : MethodName := ⟨RX6, "derived", "(I)I"⟩
abbrev cX6_fired : ByteArray := prog_8_method_25_code
def yX6_fired : MethodName := ⟨RX6, "fired", "(I)I"⟩
abbrev cX6_levelOf : ByteArray := prog_8_method_26_code
def yX6_levelOf : MethodName := ⟨RX6, "levelOf", "(I)I"⟩
abbrev cX6_isIn : ByteArray := prog_8_method_27_code
def yX6_isIn : MethodName := ⟨RX6, "isIn", "(I)Z"⟩
abbrev cX6_asks : ByteArray := prog_8_method_28_code
def yX6_asks : MethodName := ⟨RX6, "asks", "(I)I"⟩
abbrev cX6_level : ByteArray := prog_8_method_29_code
def yX6_level : MethodName := ⟨RX6, "level", "(I)I"⟩
abbrev cX6_modelShareBits : ByteArray := prog_8_method_30_code
def yX6_modelShareBits : MethodName := ⟨RX6, "modelShareBits", "()I"⟩
abbrev cX6_supports : ByteArray := prog_8_method_31_code
def yX6_supports : MethodName := ⟨RX6, "supports", "(I)I"⟩
abbrev cX6_reasonOf : ByteArray := prog_8_method_32_code
def yX6_reasonOf : MethodName := ⟨RX6, "reasonOf", "(I)I"⟩
abbrev cX6_reason : ByteArray := prog_8_method_33_code
def yX6_reason : MethodName := ⟨RX6, "reason", "(I)I"⟩
abbrev cX6_necessaryOf : ByteArray := prog_8_method_34_code
def yX6_necessaryOf : MethodName := ⟨RX6, "necessaryOf", "(I)I"⟩
abbrev cX6_necessary : ByteArray := prog_8_method_35_code
def yX6_necessary : MethodName := ⟨RX6, "necessary", "(I)I"⟩
abbrev cX6_dependenciesOf : ByteArray := prog_8_method_36_code
def yX6_dependenciesOf : MethodName := ⟨RX6, "dependenciesOf", "(I)I"⟩
abbrev cX6_dependencies : ByteArray := prog_8_method_37_code
def yX6_dependencies : MethodName := ⟨RX6, "dependencies", "(I)I"⟩
abbrev cX6_cyclicAtoms : ByteArray := prog_8_method_38_code
def yX6_cyclicAtoms : MethodName := ⟨RX6, "cyclicAtoms", "()I"⟩
abbrev cX6_overDeletedOf : ByteArray := prog_8_method_39_code
def yX6_overDeletedOf : MethodName := ⟨RX6, "overDeletedOf", "(I)I"⟩
abbrev cX6_overDeleted : ByteArray := prog_8_method_40_code
def yX6_overDeleted : MethodName := ⟨RX6, "overDeleted", "(I)I"⟩
abbrev cX6_lostOf : ByteArray := prog_8_method_41_code
def yX6_lostOf : MethodName := ⟨RX6, "lostOf", "(I)I"⟩
abbrev cX6_lost : ByteArray := prog_8_method_42_code
def yX6_lost : MethodName := ⟨RX6, "lost", "(I)I"⟩
abbrev cX6_gained : ByteArray := prog_8_method_43_code
def yX6_gained : MethodName := ⟨RX6, "gained", "(II)I"⟩
abbrev cX6_setAssumable : ByteArray := prog_8_method_44_code
def yX6_setAssumable : MethodName := ⟨RX6, "setAssumable", "(I)I"⟩
abbrev cX6_explanation : ByteArray := prog_8_method_45_code
def yX6_explanation : MethodName := ⟨RX6, "explanation", "(I)I"⟩
abbrev cX6_append : ByteArray := prog_8_method_46_code
def yX6_append : MethodName := ⟨RX6, "append", "(I)I"⟩
abbrev cX6_clearText : ByteArray := prog_8_method_47_code
def yX6_clearText : MethodName := ⟨RX6, "clearText", "()I"⟩
abbrev cX6_next : ByteArray := prog_8_method_48_code
def yX6_next : MethodName := ⟨RX6, "next", "()I"⟩
abbrev cX6_isDigitAt : ByteArray := prog_8_method_49_code
def yX6_isDigitAt : MethodName := ⟨RX6, "isDigitAt", "(I)Z"⟩
abbrev cX6_readsAtom : ByteArray := prog_8_method_50_code
def yX6_readsAtom : MethodName := ⟨RX6, "readsAtom", "()I"⟩
abbrev cX6_readsBody : ByteArray := prog_8_method_51_code
def yX6_readsBody : MethodName := ⟨RX6, "readsBody", "()I"⟩
abbrev cX6_parse : ByteArray := prog_8_method_52_code
def yX6_parse : MethodName := ⟨RX6, "parse", "()I"⟩
abbrev cX6_undo : ByteArray := prog_8_method_53_code
def yX6_undo : MethodName := ⟨RX6, "undo", "()I"⟩
abbrev cX6_errorCount : ByteArray := prog_8_method_54_code
def yX6_errorCount : MethodName := ⟨RX6, "errorCount", "(I)I"⟩
abbrev cX6_digest : ByteArray := prog_8_method_55_code
def yX6_digest : MethodName := ⟨RX6, "digest", "()J"⟩
def RJxf58ca : String := "java/lang/Float"
def TJxf58ca : u_T := fun k => match k with
  | _ => ("", "", "", false)
def tyJxf58ca : Nat → FieldType := fun k => match k with
  | _ => .int
abbrev wsJxf58ca0 : List Cond := u_ws RJxf58ca TJxf58ca 0
theorem nmJxf58ca : ∀ a, a < 0 → ∀ b, b < 0 → a ≠ b → (TJxf58ca a).2.1 ≠ (TJxf58ca b).2.1 := by decide +kernel
theorem tyJxf58ca_ok : ∀ k, k < 0 → parseFieldDescriptor (TJxf58ca k).2.2.1 = some (tyJxf58ca k) := by decide +kernel
abbrev cJxf58ca_isNaN_12338 : ByteArray := prog_9_method_6_code
def yJxf58ca_isNaN_12338 : MethodName := ⟨RJxf58ca, "isNaN", "(F)Z"⟩
abbrev cJxf58ca_floatToIntBits_5c35a : ByteArray := prog_9_method_24_code
def yJxf58ca_floatToIntBits_5c35a : MethodName := ⟨RJxf58ca, "floatToIntBits", "(F)I"⟩
def RJ6 : String := "java/lang/Integer"
def TJ6 : u_T := fun k => match k with
  | _ => ("", "", "", false)
def tyJ6 : Nat → FieldType := fun k => match k with
  | _ => .int
abbrev wsJ60 : List Cond := u_ws RJ6 TJ6 0
theorem nmJ6 : ∀ a, a < 0 → ∀ b, b < 0 → a ≠ b → (TJ6 a).2.1 ≠ (TJ6 b).2.1 := by decide +kernel
theorem tyJ6_ok : ∀ k, k < 0 → parseFieldDescriptor (TJ6 k).2.2.1 = some (tyJ6 k) := by decide +kernel
abbrev cJ6_bitCount_0f7a4 : ByteArray := prog_10_method_49_code
def yJ6_bitCount_0f7a4 : MethodName := ⟨RJ6, "bitCount", "(I)I"⟩
def RL : String := "HornEngineLaw"
def wsX4_init : List Cond := .code yX4_init cX4_init 1 none :: ([.methodLink RX4 3 objectInit, .instanceMethod objectInit, .code objectInit ⟨#[0xb1]⟩ 1 none, .arrayClass .int, .fieldLink RX4 9 "HornEngine$Rulebook" "heads" "[I", .fieldLink RX4 15 "HornEngine$Rulebook" "bodies" "[I"] ++ wsX40)
def wsX0_init : List Cond := .code yX0_init cX0_init 2 none :: ([.methodLink RX0 3 objectInit, .instanceMethod objectInit, .code objectInit ⟨#[0xb1]⟩ 1 none, .classLink RX0 9 RX4, .fieldLink RX0 11 "HornEngine$History" "saved" "[LHornEngine$Rulebook;", .instantiable RX4 4, .initialized RX4, .instanceMethod yX4_init, .code yX4_init cX4_init 1 none, .methodLink RX4 3 objectInit, .arrayClass .int, .fieldLink RX4 9 "HornEngine$Rulebook" "heads" "[I", .fieldLink RX4 15 "HornEngine$Rulebook" "bodies" "[I"] ++ wsX00 ++ wsX40)
def wsX0_size : List Cond := .code yX0_size cX0_size 1 (some .int) :: ([.fieldLink RX0 18 "HornEngine$History" "count" "I"] ++ wsX00)
def wsX0_isEmpty : List Cond := .code yX0_isEmpty cX0_isEmpty 1 (some .boolean) :: ([.fieldLink RX0 18 "HornEngine$History" "count" "I"] ++ wsX00)
def wsX0_dropOldest : List Cond := .code yX0_dropOldest cX0_dropOldest 3 none :: ([.fieldLink RX0 11 "HornEngine$History" "saved" "[LHornEngine$Rulebook;", .fieldLink RX0 18 "HornEngine$History" "count" "I"] ++ wsX00)
def wsX4_copyFrom : List Cond := .code yX4_copyFrom cX4_copyFrom 3 none :: ([.fieldLink RX4 18 "HornEngine$Rulebook" "count" "I", .fieldLink RX4 9 "HornEngine$Rulebook" "heads" "[I", .fieldLink RX4 15 "HornEngine$Rulebook" "bodies" "[I", .fieldLink RX4 26 "HornEngine$Rulebook" "assumable" "I"] ++ wsX40)
def wsX0_save : List Cond := .code yX0_save cX0_save 2 none :: ([.fieldLink RX0 18 "HornEngine$History" "count" "I", .fieldLink RX0 11 "HornEngine$History" "saved" "[LHornEngine$Rulebook;", .methodLink RX0 22 yX0_dropOldest, .instanceMethod yX0_dropOldest, .selects RX0 yX0_dropOldest yX0_dropOldest, .initialized RX0, .code yX0_dropOldest cX0_dropOldest 3 none, .methodLink RX0 25 yX4_copyFrom, .instanceMethod yX4_copyFrom, .selects RX4 yX4_copyFrom yX4_copyFrom, .initialized RX4, .code yX4_copyFrom cX4_copyFrom 3 none, .fieldLink RX4 18 "HornEngine$Rulebook" "count" "I", .fieldLink RX4 9 "HornEngine$Rulebook" "heads" "[I", .fieldLink RX4 15 "HornEngine$Rulebook" "bodies" "[I", .fieldLink RX4 26 "HornEngine$Rulebook" "assumable" "I"] ++ wsX00 ++ wsX40)
def wsX0_restore : List Cond := .code yX0_restore cX0_restore 2 none :: ([.fieldLink RX0 18 "HornEngine$History" "count" "I", .fieldLink RX0 11 "HornEngine$History" "saved" "[LHornEngine$Rulebook;", .methodLink RX0 29 yX0_isEmpty, .instanceMethod yX0_isEmpty, .selects RX0 yX0_isEmpty yX0_isEmpty, .initialized RX0, .code yX0_isEmpty cX0_isEmpty 1 (some .boolean), .methodLink RX0 25 yX4_copyFrom, .instanceMethod yX4_copyFrom, .selects RX4 yX4_copyFrom yX4_copyFrom, .initialized RX4, .code yX4_copyFrom cX4_copyFrom 3 none, .fieldLink RX4 18 "HornEngine$Rulebook" "count" "I", .fieldLink RX4 9 "HornEngine$Rulebook" "heads" "[I", .fieldLink RX4 15 "HornEngine$Rulebook" "bodies" "[I", .fieldLink RX4 26 "HornEngine$Rulebook" "assumable" "I"] ++ wsX00 ++ wsX40)
def wsX2_init : List Cond := .code yX2_init cX2_init 2 none :: ([.methodLink RX2 3 objectInit, .instanceMethod objectInit, .code objectInit ⟨#[0xb1]⟩ 1 none, .arrayClass .int, .fieldLink RX2 9 "HornEngine$Row" "items" "[I"] ++ wsX20)
def wsX1_init : List Cond := .code yX1_init cX1_init 1 none :: ([.methodLink RX1 3 objectInit, .instanceMethod objectInit, .code objectInit ⟨#[0xb1]⟩ 1 none, .classLink RX1 9 RX2, .instantiable RX2 2, .initialized RX2, .fieldLink RX1 14 "HornEngine$Propagation" "queue" "LHornEngine$Row;", .fieldLink RX1 20 "HornEngine$Propagation" "firedRules" "LHornEngine$Row;", .arrayClass .int, .fieldLink RX1 23 "HornEngine$Propagation" "counters" "[I", .methodLink RX1 11 yX2_init, .instanceMethod yX2_init, .code yX2_init cX2_init 2 none, .methodLink RX2 3 objectInit, .fieldLink RX2 9 "HornEngine$Row" "items" "[I"] ++ wsX20 ++ wsX10)
def wsX2_size : List Cond := .code yX2_size cX2_size 1 (some .int) :: ([.fieldLink RX2 15 "HornEngine$Row" "count" "I"] ++ wsX20)
def wsX1_atomCount : List Cond := .code yX1_atomCount cX1_atomCount 1 (some .int) :: ([.fieldLink RX1 14 "HornEngine$Propagation" "queue" "LHornEngine$Row;", .methodLink RX1 27 yX2_size, .instanceMethod yX2_size, .selects RX2 yX2_size yX2_size, .initialized RX2, .code yX2_size cX2_size 1 (some .int), .fieldLink RX2 15 "HornEngine$Row" "count" "I"] ++ wsX10 ++ wsX20)
def wsX2_itemAt : List Cond := .code yX2_itemAt cX2_itemAt 2 (some .int) :: ([.fieldLink RX2 15 "HornEngine$Row" "count" "I", .fieldLink RX2 9 "HornEngine$Row" "items" "[I"] ++ wsX20)
def wsX1_atomAt : List Cond := .code yX1_atomAt cX1_atomAt 2 (some .int) :: ([.fieldLink RX1 14 "HornEngine$Propagation" "queue" "LHornEngine$Row;", .methodLink RX1 31 yX2_itemAt, .instanceMethod yX2_itemAt, .selects RX2 yX2_itemAt yX2_itemAt, .initialized RX2, .code yX2_itemAt cX2_itemAt 2 (some .int), .fieldLink RX2 15 "HornEngine$Row" "count" "I", .fieldLink RX2 9 "HornEngine$Row" "items" "[I"] ++ wsX10 ++ wsX20)
def wsX1_ruleCount : List Cond := .code yX1_ruleCount cX1_ruleCount 1 (some .int) :: ([.fieldLink RX1 20 "HornEngine$Propagation" "firedRules" "LHornEngine$Row;", .methodLink RX1 27 yX2_size, .instanceMethod yX2_size, .selects RX2 yX2_size yX2_size, .initialized RX2, .code yX2_size cX2_size 1 (some .int), .fieldLink RX2 15 "HornEngine$Row" "count" "I"] ++ wsX10 ++ wsX20)
def wsX1_ruleAt : List Cond := .code yX1_ruleAt cX1_ruleAt 2 (some .int) :: ([.fieldLink RX1 20 "HornEngine$Propagation" "firedRules" "LHornEngine$Row;", .methodLink RX1 31 yX2_itemAt, .instanceMethod yX2_itemAt, .selects RX2 yX2_itemAt yX2_itemAt, .initialized RX2, .code yX2_itemAt cX2_itemAt 2 (some .int), .fieldLink RX2 15 "HornEngine$Row" "count" "I", .fieldLink RX2 9 "HornEngine$Row" "items" "[I"] ++ wsX10 ++ wsX20)
def wsX2_empty : List Cond := .code yX2_empty cX2_empty 1 none :: ([.fieldLink RX2 15 "HornEngine$Row" "count" "I"] ++ wsX20)
def wsX4_size : List Cond := .code yX4_size cX4_size 1 (some .int) :: ([.fieldLink RX4 18 "HornEngine$Rulebook" "count" "I"] ++ wsX40)
def wsX4_hasRule : List Cond := .code yX4_hasRule cX4_hasRule 2 (some .boolean) :: ([.fieldLink RX4 18 "HornEngine$Rulebook" "count" "I"] ++ wsX40)
def wsX4_bodyOf : List Cond := .code yX4_bodyOf cX4_bodyOf 2 (some .int) :: ([.fieldLink RX4 15 "HornEngine$Rulebook" "bodies" "[I", .methodLink RX4 22 yX4_hasRule, .instanceMethod yX4_hasRule, .selects RX4 yX4_hasRule yX4_hasRule, .initialized RX4, .code yX4_hasRule cX4_hasRule 2 (some .boolean), .fieldLink RX4 18 "HornEngine$Rulebook" "count" "I"] ++ wsX40)
def wsJ6_bitCount_0f7a4 : List Cond := .code yJ6_bitCount_0f7a4 cJ6_bitCount_0f7a4 1 (some .int) :: ([.constant RJ6 265 (1431655765), .constant RJ6 266 (858993459), .constant RJ6 267 (252645135)])
def wsX4_headOf : List Cond := .code yX4_headOf cX4_headOf 2 (some .int) :: ([.fieldLink RX4 9 "HornEngine$Rulebook" "heads" "[I", .methodLink RX4 22 yX4_hasRule, .instanceMethod yX4_hasRule, .selects RX4 yX4_hasRule yX4_hasRule, .initialized RX4, .code yX4_hasRule cX4_hasRule 2 (some .boolean), .fieldLink RX4 18 "HornEngine$Rulebook" "count" "I"] ++ wsX40)
def wsX2_isFull : List Cond := .code yX2_isFull cX2_isFull 1 (some .boolean) :: ([.fieldLink RX2 15 "HornEngine$Row" "count" "I", .fieldLink RX2 9 "HornEngine$Row" "items" "[I"] ++ wsX20)
def wsX2_addLast : List Cond := .code yX2_addLast cX2_addLast 2 none :: ([.fieldLink RX2 9 "HornEngine$Row" "items" "[I", .fieldLink RX2 15 "HornEngine$Row" "count" "I", .methodLink RX2 19 yX2_isFull, .instanceMethod yX2_isFull, .selects RX2 yX2_isFull yX2_isFull, .initialized RX2, .code yX2_isFull cX2_isFull 1 (some .boolean)] ++ wsX20)
def wsX5_contains : List Cond := .code yX5_contains cX5_contains 2 (some .boolean) :: ([])
def wsX1_fire_r1 : List Cond := [Cond.fieldLink RX1 20 "HornEngine$Propagation" "firedRules" "LHornEngine$Row;", Cond.fieldLink RX1 38 "HornEngine$Propagation" "queuedAtoms" "I", Cond.fieldLink RX1 14 "HornEngine$Propagation" "queue" "LHornEngine$Row;", Cond.methodLink RX1 68 yX4_headOf, Cond.instanceMethod yX4_headOf, Cond.selects RX4 yX4_headOf yX4_headOf, Cond.initialized RX4, Cond.code yX4_headOf cX4_headOf 2 (some .int), Cond.fieldLink RX4 9 "HornEngine$Rulebook" "heads" "[I", Cond.methodLink RX4 22 yX4_hasRule, Cond.instanceMethod yX4_hasRule, Cond.selects RX4 yX4_hasRule yX4_hasRule, Cond.code yX4_hasRule cX4_hasRule 2 (some .boolean), Cond.fieldLink RX4 18 "HornEngine$Rulebook" "count" "I", Cond.methodLink RX1 71 yX2_addLast, Cond.instanceMethod yX2_addLast, Cond.selects RX2 yX2_addLast yX2_addLast, Cond.initialized RX2, Cond.code yX2_addLast cX2_addLast 2 none, Cond.fieldLink RX2 9 "HornEngine$Row" "items" "[I", Cond.fieldLink RX2 15 "HornEngine$Row" "count" "I", Cond.methodLink RX2 19 yX2_isFull, Cond.instanceMethod yX2_isFull, Cond.selects RX2 yX2_isFull yX2_isFull]
def wsX1_fire_r2 : List Cond := [Cond.code yX2_isFull cX2_isFull 1 (some .boolean), Cond.static yX5_contains, Cond.initialized RX5, Cond.code yX5_contains cX5_contains 2 (some .boolean)]
def wsX1_fire : List Cond := .code yX1_fire cX1_fire 4 none :: ((wsX1_fire_r1 ++ wsX1_fire_r2) ++ wsX10 ++ wsX40 ++ wsX20)
def wsX1_fireFacts_r1 : List Cond := [Cond.fieldLink RX1 23 "HornEngine$Propagation" "counters" "[I", Cond.methodLink RX1 50 yX4_size, Cond.instanceMethod yX4_size, Cond.selects RX4 yX4_size yX4_size, Cond.initialized RX4, Cond.code yX4_size cX4_size 1 (some .int), Cond.fieldLink RX4 18 "HornEngine$Rulebook" "count" "I", Cond.methodLink RX1 53 yX4_bodyOf, Cond.instanceMethod yX4_bodyOf, Cond.selects RX4 yX4_bodyOf yX4_bodyOf, Cond.code yX4_bodyOf cX4_bodyOf 2 (some .int), Cond.fieldLink RX4 15 "HornEngine$Rulebook" "bodies" "[I", Cond.methodLink RX4 22 yX4_hasRule, Cond.instanceMethod yX4_hasRule, Cond.selects RX4 yX4_hasRule yX4_hasRule, Cond.code yX4_hasRule cX4_hasRule 2 (some .boolean), Cond.methodLink RX1 56 yJ6_bitCount_0f7a4, Cond.static yJ6_bitCount_0f7a4, Cond.initialized RJ6, Cond.code yJ6_bitCount_0f7a4 cJ6_bitCount_0f7a4 1 (some .int), Cond.constant RJ6 265 (1431655765), Cond.constant RJ6 266 (858993459), Cond.constant RJ6 267 (252645135), Cond.methodLink RX1 61 yX1_fire]
def wsX1_fireFacts_r2 : List Cond := [Cond.instanceMethod yX1_fire, Cond.selects RX1 yX1_fire yX1_fire, Cond.initialized RX1, Cond.code yX1_fire cX1_fire 4 none, Cond.fieldLink RX1 20 "HornEngine$Propagation" "firedRules" "LHornEngine$Row;", Cond.fieldLink RX1 38 "HornEngine$Propagation" "queuedAtoms" "I", Cond.fieldLink RX1 14 "HornEngine$Propagation" "queue" "LHornEngine$Row;", Cond.methodLink RX1 68 yX4_headOf, Cond.instanceMethod yX4_headOf, Cond.selects RX4 yX4_headOf yX4_headOf, Cond.code yX4_headOf cX4_headOf 2 (some .int), Cond.fieldLink RX4 9 "HornEngine$Rulebook" "heads" "[I", Cond.methodLink RX1 71 yX2_addLast, Cond.instanceMethod yX2_addLast, Cond.selects RX2 yX2_addLast yX2_addLast, Cond.initialized RX2, Cond.code yX2_addLast cX2_addLast 2 none, Cond.fieldLink RX2 9 "HornEngine$Row" "items" "[I", Cond.fieldLink RX2 15 "HornEngine$Row" "count" "I", Cond.methodLink RX2 19 yX2_isFull, Cond.instanceMethod yX2_isFull, Cond.selects RX2 yX2_isFull yX2_isFull, Cond.code yX2_isFull cX2_isFull 1 (some .boolean), Cond.static yX5_contains]
def wsX1_fireFacts_r3 : List Cond := [Cond.initialized RX5, Cond.code yX5_contains cX5_contains 2 (some .boolean)]
def wsX1_fireFacts : List Cond := .code yX1_fireFacts cX1_fireFacts 3 none :: ((wsX1_fireFacts_r1 ++ (wsX1_fireFacts_r2 ++ wsX1_fireFacts_r3)) ++ wsX10 ++ wsX40 ++ wsX20)
def wsX1_countDown_r1 : List Cond := [Cond.fieldLink RX1 23 "HornEngine$Propagation" "counters" "[I", Cond.methodLink RX1 50 yX4_size, Cond.instanceMethod yX4_size, Cond.selects RX4 yX4_size yX4_size, Cond.initialized RX4, Cond.code yX4_size cX4_size 1 (some .int), Cond.fieldLink RX4 18 "HornEngine$Rulebook" "count" "I", Cond.methodLink RX1 53 yX4_bodyOf, Cond.instanceMethod yX4_bodyOf, Cond.selects RX4 yX4_bodyOf yX4_bodyOf, Cond.code yX4_bodyOf cX4_bodyOf 2 (some .int), Cond.fieldLink RX4 15 "HornEngine$Rulebook" "bodies" "[I", Cond.methodLink RX4 22 yX4_hasRule, Cond.instanceMethod yX4_hasRule, Cond.selects RX4 yX4_hasRule yX4_hasRule, Cond.code yX4_hasRule cX4_hasRule 2 (some .boolean), Cond.static yX5_contains, Cond.initialized RX5, Cond.code yX5_contains cX5_contains 2 (some .boolean), Cond.methodLink RX1 61 yX1_fire, Cond.instanceMethod yX1_fire, Cond.selects RX1 yX1_fire yX1_fire, Cond.initialized RX1, Cond.code yX1_fire cX1_fire 4 none]
def wsX1_countDown_r2 : List Cond := [Cond.fieldLink RX1 20 "HornEngine$Propagation" "firedRules" "LHornEngine$Row;", Cond.fieldLink RX1 38 "HornEngine$Propagation" "queuedAtoms" "I", Cond.fieldLink RX1 14 "HornEngine$Propagation" "queue" "LHornEngine$Row;", Cond.methodLink RX1 68 yX4_headOf, Cond.instanceMethod yX4_headOf, Cond.selects RX4 yX4_headOf yX4_headOf, Cond.code yX4_headOf cX4_headOf 2 (some .int), Cond.fieldLink RX4 9 "HornEngine$Rulebook" "heads" "[I", Cond.methodLink RX1 71 yX2_addLast, Cond.instanceMethod yX2_addLast, Cond.selects RX2 yX2_addLast yX2_addLast, Cond.initialized RX2, Cond.code yX2_addLast cX2_addLast 2 none, Cond.fieldLink RX2 9 "HornEngine$Row" "items" "[I", Cond.fieldLink RX2 15 "HornEngine$Row" "count" "I", Cond.methodLink RX2 19 yX2_isFull, Cond.instanceMethod yX2_isFull, Cond.selects RX2 yX2_isFull yX2_isFull, Cond.code yX2_isFull cX2_isFull 1 (some .boolean)]
def wsX1_countDown : List Cond := .code yX1_countDown cX1_countDown 4 none :: ((wsX1_countDown_r1 ++ wsX1_countDown_r2) ++ wsX10 ++ wsX40 ++ wsX20)
def wsX1_run_r1 : List Cond := [Cond.fieldLink RX1 14 "HornEngine$Propagation" "queue" "LHornEngine$Row;", Cond.fieldLink RX1 20 "HornEngine$Propagation" "firedRules" "LHornEngine$Row;", Cond.fieldLink RX1 38 "HornEngine$Propagation" "queuedAtoms" "I", Cond.methodLink RX1 35 yX2_empty, Cond.instanceMethod yX2_empty, Cond.selects RX2 yX2_empty yX2_empty, Cond.initialized RX2, Cond.code yX2_empty cX2_empty 1 none, Cond.fieldLink RX2 15 "HornEngine$Row" "count" "I", Cond.methodLink RX1 42 yX1_fireFacts, Cond.instanceMethod yX1_fireFacts, Cond.selects RX1 yX1_fireFacts yX1_fireFacts, Cond.initialized RX1, Cond.code yX1_fireFacts cX1_fireFacts 3 none, Cond.fieldLink RX1 23 "HornEngine$Propagation" "counters" "[I", Cond.methodLink RX1 50 yX4_size, Cond.instanceMethod yX4_size, Cond.selects RX4 yX4_size yX4_size, Cond.initialized RX4, Cond.code yX4_size cX4_size 1 (some .int), Cond.fieldLink RX4 18 "HornEngine$Rulebook" "count" "I", Cond.methodLink RX1 53 yX4_bodyOf, Cond.instanceMethod yX4_bodyOf, Cond.selects RX4 yX4_bodyOf yX4_bodyOf]
def wsX1_run_r2 : List Cond := [Cond.code yX4_bodyOf cX4_bodyOf 2 (some .int), Cond.fieldLink RX4 15 "HornEngine$Rulebook" "bodies" "[I", Cond.methodLink RX4 22 yX4_hasRule, Cond.instanceMethod yX4_hasRule, Cond.selects RX4 yX4_hasRule yX4_hasRule, Cond.code yX4_hasRule cX4_hasRule 2 (some .boolean), Cond.methodLink RX1 56 yJ6_bitCount_0f7a4, Cond.static yJ6_bitCount_0f7a4, Cond.initialized RJ6, Cond.code yJ6_bitCount_0f7a4 cJ6_bitCount_0f7a4 1 (some .int), Cond.constant RJ6 265 (1431655765), Cond.constant RJ6 266 (858993459), Cond.constant RJ6 267 (252645135), Cond.methodLink RX1 61 yX1_fire, Cond.instanceMethod yX1_fire, Cond.selects RX1 yX1_fire yX1_fire, Cond.code yX1_fire cX1_fire 4 none, Cond.methodLink RX1 68 yX4_headOf, Cond.instanceMethod yX4_headOf, Cond.selects RX4 yX4_headOf yX4_headOf, Cond.code yX4_headOf cX4_headOf 2 (some .int), Cond.fieldLink RX4 9 "HornEngine$Rulebook" "heads" "[I", Cond.methodLink RX1 71 yX2_addLast, Cond.instanceMethod yX2_addLast]
def wsX1_run_r3 : List Cond := [Cond.selects RX2 yX2_addLast yX2_addLast, Cond.code yX2_addLast cX2_addLast 2 none, Cond.fieldLink RX2 9 "HornEngine$Row" "items" "[I", Cond.methodLink RX2 19 yX2_isFull, Cond.instanceMethod yX2_isFull, Cond.selects RX2 yX2_isFull yX2_isFull, Cond.code yX2_isFull cX2_isFull 1 (some .boolean), Cond.static yX5_contains, Cond.initialized RX5, Cond.code yX5_contains cX5_contains 2 (some .boolean), Cond.methodLink RX1 27 yX2_size, Cond.instanceMethod yX2_size, Cond.selects RX2 yX2_size yX2_size, Cond.code yX2_size cX2_size 1 (some .int), Cond.methodLink RX1 31 yX2_itemAt, Cond.instanceMethod yX2_itemAt, Cond.selects RX2 yX2_itemAt yX2_itemAt, Cond.code yX2_itemAt cX2_itemAt 2 (some .int), Cond.methodLink RX1 46 yX1_countDown, Cond.instanceMethod yX1_countDown, Cond.selects RX1 yX1_countDown yX1_countDown, Cond.code yX1_countDown cX1_countDown 4 none]
def wsX1_run : List Cond := .code yX1_run cX1_run 3 none :: ((wsX1_run_r1 ++ (wsX1_run_r2 ++ wsX1_run_r3)) ++ wsX10 ++ wsX20 ++ wsX40)
def wsX3_init : List Cond := .code yX3_init cX3_init 1 none :: ([.methodLink RX3 3 objectInit, .instanceMethod objectInit, .code objectInit ⟨#[0xb1]⟩ 1 none, .classLink RX3 9 RX4, .instantiable RX4 4, .initialized RX4, .fieldLink RX3 12 "HornEngine$RuleReader" "draft" "LHornEngine$Rulebook;", .instanceMethod yX4_init, .code yX4_init cX4_init 1 none, .methodLink RX4 3 objectInit, .arrayClass .int, .fieldLink RX4 9 "HornEngine$Rulebook" "heads" "[I", .fieldLink RX4 15 "HornEngine$Rulebook" "bodies" "[I"] ++ wsX40 ++ wsX30)
def wsX3_errorAt : List Cond := .code yX3_errorAt cX3_errorAt 1 (some .int) :: ([.fieldLink RX3 18 "HornEngine$RuleReader" "errorPosition" "I"] ++ wsX30)
def wsX3_copyResultTo : List Cond := .code yX3_copyResultTo cX3_copyResultTo 2 none :: ([.fieldLink RX3 12 "HornEngine$RuleReader" "draft" "LHornEngine$Rulebook;", .methodLink RX3 22 yX4_copyFrom, .instanceMethod yX4_copyFrom, .selects RX4 yX4_copyFrom yX4_copyFrom, .initialized RX4, .code yX4_copyFrom cX4_copyFrom 3 none, .fieldLink RX4 18 "HornEngine$Rulebook" "count" "I", .fieldLink RX4 9 "HornEngine$Rulebook" "heads" "[I", .fieldLink RX4 15 "HornEngine$Rulebook" "bodies" "[I", .fieldLink RX4 26 "HornEngine$Rulebook" "assumable" "I"] ++ wsX30 ++ wsX40)
def wsX3_skipSpaces : List Cond := .code yX3_skipSpaces cX3_skipSpaces 2 none :: ([.fieldLink RX3 26 "HornEngine$RuleReader" "position" "I", .methodLink RX3 33 yX2_size, .instanceMethod yX2_size, .selects RX2 yX2_size yX2_size, .initialized RX2, .code yX2_size cX2_size 1 (some .int), .fieldLink RX2 15 "HornEngine$Row" "count" "I", .methodLink RX3 66 yX2_itemAt, .instanceMethod yX2_itemAt, .selects RX2 yX2_itemAt yX2_itemAt, .code yX2_itemAt cX2_itemAt 2 (some .int), .fieldLink RX2 9 "HornEngine$Row" "items" "[I"] ++ wsX30 ++ wsX20)
def wsX4_isFull : List Cond := .code yX4_isFull cX4_isFull 1 (some .boolean) :: ([.fieldLink RX4 18 "HornEngine$Rulebook" "count" "I"] ++ wsX40)
def wsX3_refuse : List Cond := .code yX3_refuse cX3_refuse 2 (some .int) :: ([.fieldLink RX3 18 "HornEngine$RuleReader" "errorPosition" "I"] ++ wsX30)
def wsX3_isDigit : List Cond := .code yX3_isDigit cX3_isDigit 1 (some .boolean) :: ([])
def wsX5_isAtom : List Cond := .code yX5_isAtom cX5_isAtom 1 (some .boolean) :: ([])
def wsX3_readAtom : List Cond := .code yX3_readAtom cX3_readAtom 4 (some .int) :: ([.fieldLink RX3 26 "HornEngine$RuleReader" "position" "I", .methodLink RX3 66 yX2_itemAt, .instanceMethod yX2_itemAt, .selects RX2 yX2_itemAt yX2_itemAt, .initialized RX2, .code yX2_itemAt cX2_itemAt 2 (some .int), .fieldLink RX2 15 "HornEngine$Row" "count" "I", .fieldLink RX2 9 "HornEngine$Row" "items" "[I", .methodLink RX3 73 yX3_isDigit, .static yX3_isDigit, .initialized RX3, .code yX3_isDigit cX3_isDigit 1 (some .boolean), .methodLink RX3 47 yX3_refuse, .instanceMethod yX3_refuse, .selects RX3 yX3_refuse yX3_refuse, .code yX3_refuse cX3_refuse 2 (some .int), .fieldLink RX3 18 "HornEngine$RuleReader" "errorPosition" "I", .static yX5_isAtom, .initialized RX5, .code yX5_isAtom cX5_isAtom 1 (some .boolean)] ++ wsX30 ++ wsX20)
def wsX3_take : List Cond := .code yX3_take cX3_take 3 (some .boolean) :: ([.fieldLink RX3 26 "HornEngine$RuleReader" "position" "I", .methodLink RX3 29 yX3_skipSpaces, .instanceMethod yX3_skipSpaces, .selects RX3 yX3_skipSpaces yX3_skipSpaces, .initialized RX3, .code yX3_skipSpaces cX3_skipSpaces 2 none, .methodLink RX3 33 yX2_size, .instanceMethod yX2_size, .selects RX2 yX2_size yX2_size, .initialized RX2, .code yX2_size cX2_size 1 (some .int), .fieldLink RX2 15 "HornEngine$Row" "count" "I", .methodLink RX3 66 yX2_itemAt, .instanceMethod yX2_itemAt, .selects RX2 yX2_itemAt yX2_itemAt, .code yX2_itemAt cX2_itemAt 2 (some .int), .fieldLink RX2 9 "HornEngine$Row" "items" "[I", .methodLink RX3 47 yX3_refuse, .instanceMethod yX3_refuse, .selects RX3 yX3_refuse yX3_refuse, .code yX3_refuse cX3_refuse 2 (some .int), .fieldLink RX3 18 "HornEngine$RuleReader" "errorPosition" "I"] ++ wsX30 ++ wsX20)
def wsX3_readBody_r1 : List Cond := [Cond.fieldLink RX3 26 "HornEngine$RuleReader" "position" "I", Cond.methodLink RX3 29 yX3_skipSpaces, Cond.instanceMethod yX3_skipSpaces, Cond.selects RX3 yX3_skipSpaces yX3_skipSpaces, Cond.initialized RX3, Cond.code yX3_skipSpaces cX3_skipSpaces 2 none, Cond.methodLink RX3 33 yX2_size, Cond.instanceMethod yX2_size, Cond.selects RX2 yX2_size yX2_size, Cond.initialized RX2, Cond.code yX2_size cX2_size 1 (some .int), Cond.fieldLink RX2 15 "HornEngine$Row" "count" "I", Cond.methodLink RX3 66 yX2_itemAt, Cond.instanceMethod yX2_itemAt, Cond.selects RX2 yX2_itemAt yX2_itemAt, Cond.code yX2_itemAt cX2_itemAt 2 (some .int), Cond.fieldLink RX2 9 "HornEngine$Row" "items" "[I", Cond.methodLink RX3 51 yX3_readAtom, Cond.instanceMethod yX3_readAtom, Cond.selects RX3 yX3_readAtom yX3_readAtom, Cond.code yX3_readAtom cX3_readAtom 4 (some .int), Cond.methodLink RX3 73 yX3_isDigit, Cond.static yX3_isDigit, Cond.code yX3_isDigit cX3_isDigit 1 (some .boolean)]
def wsX3_readBody_r2 : List Cond := [Cond.methodLink RX3 47 yX3_refuse, Cond.instanceMethod yX3_refuse, Cond.selects RX3 yX3_refuse yX3_refuse, Cond.code yX3_refuse cX3_refuse 2 (some .int), Cond.fieldLink RX3 18 "HornEngine$RuleReader" "errorPosition" "I", Cond.static yX5_isAtom, Cond.initialized RX5, Cond.code yX5_isAtom cX5_isAtom 1 (some .boolean), Cond.static yX5_contains, Cond.code yX5_contains cX5_contains 2 (some .boolean)]
def wsX3_readBody : List Cond := .code yX3_readBody cX3_readBody 6 (some .int) :: ((wsX3_readBody_r1 ++ wsX3_readBody_r2) ++ wsX30 ++ wsX20)
def wsX4_addLast : List Cond := .code yX4_addLast cX4_addLast 3 none :: ([.fieldLink RX4 9 "HornEngine$Rulebook" "heads" "[I", .fieldLink RX4 18 "HornEngine$Rulebook" "count" "I", .fieldLink RX4 15 "HornEngine$Rulebook" "bodies" "[I", .methodLink RX4 29 yX4_isFull, .instanceMethod yX4_isFull, .selects RX4 yX4_isFull yX4_isFull, .initialized RX4, .code yX4_isFull cX4_isFull 1 (some .boolean)] ++ wsX40)
def wsX3_readRule_r1 : List Cond := [Cond.fieldLink RX3 12 "HornEngine$RuleReader" "draft" "LHornEngine$Rulebook;", Cond.fieldLink RX3 26 "HornEngine$RuleReader" "position" "I", Cond.methodLink RX3 43 yX4_isFull, Cond.instanceMethod yX4_isFull, Cond.selects RX4 yX4_isFull yX4_isFull, Cond.initialized RX4, Cond.code yX4_isFull cX4_isFull 1 (some .boolean), Cond.fieldLink RX4 18 "HornEngine$Rulebook" "count" "I", Cond.methodLink RX3 47 yX3_refuse, Cond.instanceMethod yX3_refuse, Cond.selects RX3 yX3_refuse yX3_refuse, Cond.initialized RX3, Cond.code yX3_refuse cX3_refuse 2 (some .int), Cond.fieldLink RX3 18 "HornEngine$RuleReader" "errorPosition" "I", Cond.methodLink RX3 51 yX3_readAtom, Cond.instanceMethod yX3_readAtom, Cond.selects RX3 yX3_readAtom yX3_readAtom, Cond.code yX3_readAtom cX3_readAtom 4 (some .int), Cond.methodLink RX3 66 yX2_itemAt, Cond.instanceMethod yX2_itemAt, Cond.selects RX2 yX2_itemAt yX2_itemAt, Cond.initialized RX2, Cond.code yX2_itemAt cX2_itemAt 2 (some .int), Cond.fieldLink RX2 15 "HornEngine$Row" "count" "I"]
def wsX3_readRule_r2 : List Cond := [Cond.fieldLink RX2 9 "HornEngine$Row" "items" "[I", Cond.methodLink RX3 73 yX3_isDigit, Cond.static yX3_isDigit, Cond.code yX3_isDigit cX3_isDigit 1 (some .boolean), Cond.static yX5_isAtom, Cond.initialized RX5, Cond.code yX5_isAtom cX5_isAtom 1 (some .boolean), Cond.methodLink RX3 55 yX3_take, Cond.instanceMethod yX3_take, Cond.selects RX3 yX3_take yX3_take, Cond.code yX3_take cX3_take 3 (some .boolean), Cond.methodLink RX3 29 yX3_skipSpaces, Cond.instanceMethod yX3_skipSpaces, Cond.selects RX3 yX3_skipSpaces yX3_skipSpaces, Cond.code yX3_skipSpaces cX3_skipSpaces 2 none, Cond.methodLink RX3 33 yX2_size, Cond.instanceMethod yX2_size, Cond.selects RX2 yX2_size yX2_size, Cond.code yX2_size cX2_size 1 (some .int), Cond.methodLink RX3 59 yX3_readBody, Cond.instanceMethod yX3_readBody, Cond.selects RX3 yX3_readBody yX3_readBody, Cond.code yX3_readBody cX3_readBody 6 (some .int), Cond.static yX5_contains]
def wsX3_readRule_r3 : List Cond := [Cond.code yX5_contains cX5_contains 2 (some .boolean), Cond.methodLink RX3 62 yX4_addLast, Cond.instanceMethod yX4_addLast, Cond.selects RX4 yX4_addLast yX4_addLast, Cond.code yX4_addLast cX4_addLast 3 none, Cond.fieldLink RX4 9 "HornEngine$Rulebook" "heads" "[I", Cond.fieldLink RX4 15 "HornEngine$Rulebook" "bodies" "[I", Cond.methodLink RX4 29 yX4_isFull]
def wsX3_readRule : List Cond := .code yX3_readRule cX3_readRule 4 (some .boolean) :: ((wsX3_readRule_r1 ++ (wsX3_readRule_r2 ++ wsX3_readRule_r3)) ++ wsX30 ++ wsX40 ++ wsX20)
def wsX3_readOnto_r1 : List Cond := [Cond.fieldLink RX3 12 "HornEngine$RuleReader" "draft" "LHornEngine$Rulebook;", Cond.fieldLink RX3 26 "HornEngine$RuleReader" "position" "I", Cond.methodLink RX3 22 yX4_copyFrom, Cond.instanceMethod yX4_copyFrom, Cond.selects RX4 yX4_copyFrom yX4_copyFrom, Cond.initialized RX4, Cond.code yX4_copyFrom cX4_copyFrom 3 none, Cond.fieldLink RX4 18 "HornEngine$Rulebook" "count" "I", Cond.fieldLink RX4 9 "HornEngine$Rulebook" "heads" "[I", Cond.fieldLink RX4 15 "HornEngine$Rulebook" "bodies" "[I", Cond.fieldLink RX4 26 "HornEngine$Rulebook" "assumable" "I", Cond.methodLink RX3 29 yX3_skipSpaces, Cond.instanceMethod yX3_skipSpaces, Cond.selects RX3 yX3_skipSpaces yX3_skipSpaces, Cond.initialized RX3, Cond.code yX3_skipSpaces cX3_skipSpaces 2 none, Cond.methodLink RX3 33 yX2_size, Cond.instanceMethod yX2_size, Cond.selects RX2 yX2_size yX2_size, Cond.initialized RX2, Cond.code yX2_size cX2_size 1 (some .int), Cond.fieldLink RX2 15 "HornEngine$Row" "count" "I", Cond.methodLink RX3 66 yX2_itemAt, Cond.instanceMethod yX2_itemAt]
def wsX3_readOnto_r2 : List Cond := [Cond.selects RX2 yX2_itemAt yX2_itemAt, Cond.code yX2_itemAt cX2_itemAt 2 (some .int), Cond.fieldLink RX2 9 "HornEngine$Row" "items" "[I", Cond.methodLink RX3 39 yX3_readRule, Cond.instanceMethod yX3_readRule, Cond.selects RX3 yX3_readRule yX3_readRule, Cond.code yX3_readRule cX3_readRule 4 (some .boolean), Cond.methodLink RX3 43 yX4_isFull, Cond.instanceMethod yX4_isFull, Cond.selects RX4 yX4_isFull yX4_isFull, Cond.code yX4_isFull cX4_isFull 1 (some .boolean), Cond.methodLink RX3 47 yX3_refuse, Cond.instanceMethod yX3_refuse, Cond.selects RX3 yX3_refuse yX3_refuse, Cond.code yX3_refuse cX3_refuse 2 (some .int), Cond.fieldLink RX3 18 "HornEngine$RuleReader" "errorPosition" "I", Cond.methodLink RX3 51 yX3_readAtom, Cond.instanceMethod yX3_readAtom, Cond.selects RX3 yX3_readAtom yX3_readAtom, Cond.code yX3_readAtom cX3_readAtom 4 (some .int), Cond.methodLink RX3 73 yX3_isDigit, Cond.static yX3_isDigit, Cond.code yX3_isDigit cX3_isDigit 1 (some .boolean), Cond.static yX5_isAtom]
def wsX3_readOnto_r3 : List Cond := [Cond.initialized RX5, Cond.code yX5_isAtom cX5_isAtom 1 (some .boolean), Cond.methodLink RX3 55 yX3_take, Cond.instanceMethod yX3_take, Cond.selects RX3 yX3_take yX3_take, Cond.code yX3_take cX3_take 3 (some .boolean), Cond.methodLink RX3 59 yX3_readBody, Cond.instanceMethod yX3_readBody, Cond.selects RX3 yX3_readBody yX3_readBody, Cond.code yX3_readBody cX3_readBody 6 (some .int), Cond.static yX5_contains, Cond.code yX5_contains cX5_contains 2 (some .boolean), Cond.methodLink RX3 62 yX4_addLast, Cond.instanceMethod yX4_addLast, Cond.selects RX4 yX4_addLast yX4_addLast, Cond.code yX4_addLast cX4_addLast 3 none, Cond.methodLink RX4 29 yX4_isFull]
def wsX3_readOnto : List Cond := .code yX3_readOnto cX3_readOnto 4 (some .boolean) :: ((wsX3_readOnto_r1 ++ (wsX3_readOnto_r2 ++ wsX3_readOnto_r3)) ++ wsX30 ++ wsX40 ++ wsX20)
def wsX4_assumableAtoms : List Cond := .code yX4_assumableAtoms cX4_assumableAtoms 1 (some .int) :: ([.fieldLink RX4 26 "HornEngine$Rulebook" "assumable" "I"] ++ wsX40)
def wsX4_removeAt : List Cond := .code yX4_removeAt cX4_removeAt 3 none :: ([.fieldLink RX4 18 "HornEngine$Rulebook" "count" "I", .fieldLink RX4 9 "HornEngine$Rulebook" "heads" "[I", .fieldLink RX4 15 "HornEngine$Rulebook" "bodies" "[I", .methodLink RX4 22 yX4_hasRule, .instanceMethod yX4_hasRule, .selects RX4 yX4_hasRule yX4_hasRule, .initialized RX4, .code yX4_hasRule cX4_hasRule 2 (some .boolean)] ++ wsX40)
def wsX4_replaceAssumable : List Cond := .code yX4_replaceAssumable cX4_replaceAssumable 3 (some .int) :: ([.fieldLink RX4 26 "HornEngine$Rulebook" "assumable" "I"] ++ wsX40)
def wsX4_everyRule : List Cond := .code yX4_everyRule cX4_everyRule 1 (some .int) :: ([.fieldLink RX4 18 "HornEngine$Rulebook" "count" "I"] ++ wsX40)
def wsX5_isSubset : List Cond := .code yX5_isSubset cX5_isSubset 2 (some .boolean) :: ([])
def wsX4_afterOneRound : List Cond := .code yX4_afterOneRound cX4_afterOneRound 5 (some .int) :: ([.fieldLink RX4 18 "HornEngine$Rulebook" "count" "I", .fieldLink RX4 15 "HornEngine$Rulebook" "bodies" "[I", .fieldLink RX4 9 "HornEngine$Rulebook" "heads" "[I", .static yX5_contains, .initialized RX5, .code yX5_contains cX5_contains 2 (some .boolean), .static yX5_isSubset, .code yX5_isSubset cX5_isSubset 2 (some .boolean)] ++ wsX40)
def wsX4_closure : List Cond := .code yX4_closure cX4_closure 6 (some .int) :: ([.methodLink RX4 41 yX4_afterOneRound, .instanceMethod yX4_afterOneRound, .selects RX4 yX4_afterOneRound yX4_afterOneRound, .initialized RX4, .code yX4_afterOneRound cX4_afterOneRound 5 (some .int), .fieldLink RX4 18 "HornEngine$Rulebook" "count" "I", .fieldLink RX4 15 "HornEngine$Rulebook" "bodies" "[I", .fieldLink RX4 9 "HornEngine$Rulebook" "heads" "[I", .static yX5_contains, .initialized RX5, .code yX5_contains cX5_contains 2 (some .boolean), .static yX5_isSubset, .code yX5_isSubset cX5_isSubset 2 (some .boolean)] ++ wsX40)
def wsX4_leastModel : List Cond := .code yX4_leastModel cX4_leastModel 1 (some .int) :: ([.methodLink RX4 33 yX4_everyRule, .instanceMethod yX4_everyRule, .selects RX4 yX4_everyRule yX4_everyRule, .initialized RX4, .code yX4_everyRule cX4_everyRule 1 (some .int), .fieldLink RX4 18 "HornEngine$Rulebook" "count" "I", .methodLink RX4 37 yX4_closure, .instanceMethod yX4_closure, .selects RX4 yX4_closure yX4_closure, .code yX4_closure cX4_closure 6 (some .int), .methodLink RX4 41 yX4_afterOneRound, .instanceMethod yX4_afterOneRound, .selects RX4 yX4_afterOneRound yX4_afterOneRound, .code yX4_afterOneRound cX4_afterOneRound 5 (some .int), .fieldLink RX4 15 "HornEngine$Rulebook" "bodies" "[I", .fieldLink RX4 9 "HornEngine$Rulebook" "heads" "[I", .static yX5_contains, .initialized RX5, .code yX5_contains cX5_contains 2 (some .boolean), .static yX5_isSubset, .code yX5_isSubset cX5_isSubset 2 (some .boolean)] ++ wsX40)
def wsX4_levelOf : List Cond := .code yX4_levelOf cX4_levelOf 4 (some .int) :: ([.methodLink RX4 33 yX4_everyRule, .instanceMethod yX4_everyRule, .selects RX4 yX4_everyRule yX4_everyRule, .initialized RX4, .code yX4_everyRule cX4_everyRule 1 (some .int), .fieldLink RX4 18 "HornEngine$Rulebook" "count" "I", .methodLink RX4 41 yX4_afterOneRound, .instanceMethod yX4_afterOneRound, .selects RX4 yX4_afterOneRound yX4_afterOneRound, .code yX4_afterOneRound cX4_afterOneRound 5 (some .int), .fieldLink RX4 15 "HornEngine$Rulebook" "bodies" "[I", .fieldLink RX4 9 "HornEngine$Rulebook" "heads" "[I", .static yX5_contains, .initialized RX5, .code yX5_contains cX5_contains 2 (some .boolean), .static yX5_isSubset, .code yX5_isSubset cX5_isSubset 2 (some .boolean)] ++ wsX40)
def wsX4_supportsOf_r1 : List Cond := [Cond.fieldLink RX4 18 "HornEngine$Rulebook" "count" "I", Cond.fieldLink RX4 9 "HornEngine$Rulebook" "heads" "[I", Cond.fieldLink RX4 15 "HornEngine$Rulebook" "bodies" "[I", Cond.methodLink RX4 48 yX4_leastModel, Cond.instanceMethod yX4_leastModel, Cond.selects RX4 yX4_leastModel yX4_leastModel, Cond.initialized RX4, Cond.code yX4_leastModel cX4_leastModel 1 (some .int), Cond.methodLink RX4 33 yX4_everyRule, Cond.instanceMethod yX4_everyRule, Cond.selects RX4 yX4_everyRule yX4_everyRule, Cond.code yX4_everyRule cX4_everyRule 1 (some .int), Cond.methodLink RX4 37 yX4_closure, Cond.instanceMethod yX4_closure, Cond.selects RX4 yX4_closure yX4_closure, Cond.code yX4_closure cX4_closure 6 (some .int), Cond.methodLink RX4 41 yX4_afterOneRound, Cond.instanceMethod yX4_afterOneRound, Cond.selects RX4 yX4_afterOneRound yX4_afterOneRound, Cond.code yX4_afterOneRound cX4_afterOneRound 5 (some .int), Cond.static yX5_contains, Cond.initialized RX5, Cond.code yX5_contains cX5_contains 2 (some .boolean), Cond.static yX5_isSubset]
def wsX4_supportsOf_r2 : List Cond := [Cond.code yX5_isSubset cX5_isSubset 2 (some .boolean)]
def wsX4_supportsOf : List Cond := .code yX4_supportsOf cX4_supportsOf 5 (some .int) :: ((wsX4_supportsOf_r1 ++ wsX4_supportsOf_r2) ++ wsX40)
def wsX4_reasonFor : List Cond := .code yX4_reasonFor cX4_reasonFor 5 (some .int) :: ([.fieldLink RX4 18 "HornEngine$Rulebook" "count" "I", .methodLink RX4 33 yX4_everyRule, .instanceMethod yX4_everyRule, .selects RX4 yX4_everyRule yX4_everyRule, .initialized RX4, .code yX4_everyRule cX4_everyRule 1 (some .int), .methodLink RX4 37 yX4_closure, .instanceMethod yX4_closure, .selects RX4 yX4_closure yX4_closure, .code yX4_closure cX4_closure 6 (some .int), .methodLink RX4 41 yX4_afterOneRound, .instanceMethod yX4_afterOneRound, .selects RX4 yX4_afterOneRound yX4_afterOneRound, .code yX4_afterOneRound cX4_afterOneRound 5 (some .int), .fieldLink RX4 15 "HornEngine$Rulebook" "bodies" "[I", .fieldLink RX4 9 "HornEngine$Rulebook" "heads" "[I", .static yX5_contains, .initialized RX5, .code yX5_contains cX5_contains 2 (some .boolean), .static yX5_isSubset, .code yX5_isSubset cX5_isSubset 2 (some .boolean)] ++ wsX40)
def wsX4_modelWithout : List Cond := .code yX4_modelWithout cX4_modelWithout 2 (some .int) :: ([.methodLink RX4 33 yX4_everyRule, .instanceMethod yX4_everyRule, .selects RX4 yX4_everyRule yX4_everyRule, .initialized RX4, .code yX4_everyRule cX4_everyRule 1 (some .int), .fieldLink RX4 18 "HornEngine$Rulebook" "count" "I", .methodLink RX4 37 yX4_closure, .instanceMethod yX4_closure, .selects RX4 yX4_closure yX4_closure, .code yX4_closure cX4_closure 6 (some .int), .methodLink RX4 41 yX4_afterOneRound, .instanceMethod yX4_afterOneRound, .selects RX4 yX4_afterOneRound yX4_afterOneRound, .code yX4_afterOneRound cX4_afterOneRound 5 (some .int), .fieldLink RX4 15 "HornEngine$Rulebook" "bodies" "[I", .fieldLink RX4 9 "HornEngine$Rulebook" "heads" "[I", .static yX5_contains, .initialized RX5, .code yX5_contains cX5_contains 2 (some .boolean), .static yX5_isSubset, .code yX5_isSubset cX5_isSubset 2 (some .boolean)] ++ wsX40)
def wsX4_necessaryFor_r1 : List Cond := [Cond.fieldLink RX4 18 "HornEngine$Rulebook" "count" "I", Cond.methodLink RX4 54 yX4_modelWithout, Cond.instanceMethod yX4_modelWithout, Cond.selects RX4 yX4_modelWithout yX4_modelWithout, Cond.initialized RX4, Cond.code yX4_modelWithout cX4_modelWithout 2 (some .int), Cond.methodLink RX4 33 yX4_everyRule, Cond.instanceMethod yX4_everyRule, Cond.selects RX4 yX4_everyRule yX4_everyRule, Cond.code yX4_everyRule cX4_everyRule 1 (some .int), Cond.methodLink RX4 37 yX4_closure, Cond.instanceMethod yX4_closure, Cond.selects RX4 yX4_closure yX4_closure, Cond.code yX4_closure cX4_closure 6 (some .int), Cond.methodLink RX4 41 yX4_afterOneRound, Cond.instanceMethod yX4_afterOneRound, Cond.selects RX4 yX4_afterOneRound yX4_afterOneRound, Cond.code yX4_afterOneRound cX4_afterOneRound 5 (some .int), Cond.fieldLink RX4 15 "HornEngine$Rulebook" "bodies" "[I", Cond.fieldLink RX4 9 "HornEngine$Rulebook" "heads" "[I", Cond.static yX5_contains, Cond.initialized RX5, Cond.code yX5_contains cX5_contains 2 (some .boolean), Cond.static yX5_isSubset]
def wsX4_necessaryFor_r2 : List Cond := [Cond.code yX5_isSubset cX5_isSubset 2 (some .boolean)]
def wsX4_necessaryFor : List Cond := .code yX4_necessaryFor cX4_necessaryFor 4 (some .int) :: ((wsX4_necessaryFor_r1 ++ wsX4_necessaryFor_r2) ++ wsX40)
def wsX4_bodiesUnder : List Cond := .code yX4_bodiesUnder cX4_bodiesUnder 4 (some .int) :: ([.fieldLink RX4 18 "HornEngine$Rulebook" "count" "I", .fieldLink RX4 9 "HornEngine$Rulebook" "heads" "[I", .fieldLink RX4 15 "HornEngine$Rulebook" "bodies" "[I", .static yX5_contains, .initialized RX5, .code yX5_contains cX5_contains 2 (some .boolean)] ++ wsX40)
def wsX4_dependenciesOf : List Cond := .code yX4_dependenciesOf cX4_dependenciesOf 4 (some .int) :: ([.methodLink RX4 58 yX4_bodiesUnder, .instanceMethod yX4_bodiesUnder, .selects RX4 yX4_bodiesUnder yX4_bodiesUnder, .initialized RX4, .code yX4_bodiesUnder cX4_bodiesUnder 4 (some .int), .fieldLink RX4 18 "HornEngine$Rulebook" "count" "I", .fieldLink RX4 9 "HornEngine$Rulebook" "heads" "[I", .fieldLink RX4 15 "HornEngine$Rulebook" "bodies" "[I", .static yX5_contains, .initialized RX5, .code yX5_contains cX5_contains 2 (some .boolean)] ++ wsX40)
def wsX4_atomsOnCycles : List Cond := .code yX4_atomsOnCycles cX4_atomsOnCycles 3 (some .int) :: ([.methodLink RX4 61 yX4_dependenciesOf, .instanceMethod yX4_dependenciesOf, .selects RX4 yX4_dependenciesOf yX4_dependenciesOf, .initialized RX4, .code yX4_dependenciesOf cX4_dependenciesOf 4 (some .int), .methodLink RX4 58 yX4_bodiesUnder, .instanceMethod yX4_bodiesUnder, .selects RX4 yX4_bodiesUnder yX4_bodiesUnder, .code yX4_bodiesUnder cX4_bodiesUnder 4 (some .int), .fieldLink RX4 18 "HornEngine$Rulebook" "count" "I", .fieldLink RX4 9 "HornEngine$Rulebook" "heads" "[I", .fieldLink RX4 15 "HornEngine$Rulebook" "bodies" "[I", .static yX5_contains, .initialized RX5, .code yX5_contains cX5_contains 2 (some .boolean)] ++ wsX40)
def wsX4_overDeletedBy_r1 : List Cond := [Cond.fieldLink RX4 15 "HornEngine$Rulebook" "bodies" "[I", Cond.fieldLink RX4 9 "HornEngine$Rulebook" "heads" "[I", Cond.fieldLink RX4 18 "HornEngine$Rulebook" "count" "I", Cond.methodLink RX4 48 yX4_leastModel, Cond.instanceMethod yX4_leastModel, Cond.selects RX4 yX4_leastModel yX4_leastModel, Cond.initialized RX4, Cond.code yX4_leastModel cX4_leastModel 1 (some .int), Cond.methodLink RX4 33 yX4_everyRule, Cond.instanceMethod yX4_everyRule, Cond.selects RX4 yX4_everyRule yX4_everyRule, Cond.code yX4_everyRule cX4_everyRule 1 (some .int), Cond.methodLink RX4 37 yX4_closure, Cond.instanceMethod yX4_closure, Cond.selects RX4 yX4_closure yX4_closure, Cond.code yX4_closure cX4_closure 6 (some .int), Cond.methodLink RX4 41 yX4_afterOneRound, Cond.instanceMethod yX4_afterOneRound, Cond.selects RX4 yX4_afterOneRound yX4_afterOneRound, Cond.code yX4_afterOneRound cX4_afterOneRound 5 (some .int), Cond.static yX5_contains, Cond.initialized RX5, Cond.code yX5_contains cX5_contains 2 (some .boolean), Cond.static yX5_isSubset]
def wsX4_overDeletedBy_r2 : List Cond := [Cond.code yX5_isSubset cX5_isSubset 2 (some .boolean), Cond.methodLink RX4 22 yX4_hasRule, Cond.instanceMethod yX4_hasRule, Cond.selects RX4 yX4_hasRule yX4_hasRule, Cond.code yX4_hasRule cX4_hasRule 2 (some .boolean)]
def wsX4_overDeletedBy : List Cond := .code yX4_overDeletedBy cX4_overDeletedBy 6 (some .int) :: ((wsX4_overDeletedBy_r1 ++ wsX4_overDeletedBy_r2) ++ wsX40)
def wsX4_lostWithout_r1 : List Cond := [Cond.methodLink RX4 48 yX4_leastModel, Cond.instanceMethod yX4_leastModel, Cond.selects RX4 yX4_leastModel yX4_leastModel, Cond.initialized RX4, Cond.code yX4_leastModel cX4_leastModel 1 (some .int), Cond.methodLink RX4 33 yX4_everyRule, Cond.instanceMethod yX4_everyRule, Cond.selects RX4 yX4_everyRule yX4_everyRule, Cond.code yX4_everyRule cX4_everyRule 1 (some .int), Cond.fieldLink RX4 18 "HornEngine$Rulebook" "count" "I", Cond.methodLink RX4 37 yX4_closure, Cond.instanceMethod yX4_closure, Cond.selects RX4 yX4_closure yX4_closure, Cond.code yX4_closure cX4_closure 6 (some .int), Cond.methodLink RX4 41 yX4_afterOneRound, Cond.instanceMethod yX4_afterOneRound, Cond.selects RX4 yX4_afterOneRound yX4_afterOneRound, Cond.code yX4_afterOneRound cX4_afterOneRound 5 (some .int), Cond.fieldLink RX4 15 "HornEngine$Rulebook" "bodies" "[I", Cond.fieldLink RX4 9 "HornEngine$Rulebook" "heads" "[I", Cond.static yX5_contains, Cond.initialized RX5, Cond.code yX5_contains cX5_contains 2 (some .boolean), Cond.static yX5_isSubset]
def wsX4_lostWithout_r2 : List Cond := [Cond.code yX5_isSubset cX5_isSubset 2 (some .boolean), Cond.methodLink RX4 54 yX4_modelWithout, Cond.instanceMethod yX4_modelWithout, Cond.selects RX4 yX4_modelWithout yX4_modelWithout, Cond.code yX4_modelWithout cX4_modelWithout 2 (some .int)]
def wsX4_lostWithout : List Cond := .code yX4_lostWithout cX4_lostWithout 2 (some .int) :: ((wsX4_lostWithout_r1 ++ wsX4_lostWithout_r2) ++ wsX40)
def wsX4_gainedWith_r1 : List Cond := [Cond.methodLink RX4 48 yX4_leastModel, Cond.instanceMethod yX4_leastModel, Cond.selects RX4 yX4_leastModel yX4_leastModel, Cond.initialized RX4, Cond.code yX4_leastModel cX4_leastModel 1 (some .int), Cond.methodLink RX4 33 yX4_everyRule, Cond.instanceMethod yX4_everyRule, Cond.selects RX4 yX4_everyRule yX4_everyRule, Cond.code yX4_everyRule cX4_everyRule 1 (some .int), Cond.fieldLink RX4 18 "HornEngine$Rulebook" "count" "I", Cond.methodLink RX4 37 yX4_closure, Cond.instanceMethod yX4_closure, Cond.selects RX4 yX4_closure yX4_closure, Cond.code yX4_closure cX4_closure 6 (some .int), Cond.methodLink RX4 41 yX4_afterOneRound, Cond.instanceMethod yX4_afterOneRound, Cond.selects RX4 yX4_afterOneRound yX4_afterOneRound, Cond.code yX4_afterOneRound cX4_afterOneRound 5 (some .int), Cond.fieldLink RX4 15 "HornEngine$Rulebook" "bodies" "[I", Cond.fieldLink RX4 9 "HornEngine$Rulebook" "heads" "[I", Cond.static yX5_contains, Cond.initialized RX5, Cond.code yX5_contains cX5_contains 2 (some .boolean), Cond.static yX5_isSubset]
def wsX4_gainedWith_r2 : List Cond := [Cond.code yX5_isSubset cX5_isSubset 2 (some .boolean)]
def wsX4_gainedWith : List Cond := .code yX4_gainedWith cX4_gainedWith 4 (some .int) :: ((wsX4_gainedWith_r1 ++ wsX4_gainedWith_r2) ++ wsX40)
def wsX4_bestExplanation_r1 : List Cond := [Cond.fieldLink RX4 26 "HornEngine$Rulebook" "assumable" "I", Cond.methodLink RX4 64 yJ6_bitCount_0f7a4, Cond.static yJ6_bitCount_0f7a4, Cond.initialized RJ6, Cond.code yJ6_bitCount_0f7a4 cJ6_bitCount_0f7a4 1 (some .int), Cond.constant RJ6 265 (1431655765), Cond.constant RJ6 266 (858993459), Cond.constant RJ6 267 (252645135), Cond.methodLink RX4 33 yX4_everyRule, Cond.instanceMethod yX4_everyRule, Cond.selects RX4 yX4_everyRule yX4_everyRule, Cond.initialized RX4, Cond.code yX4_everyRule cX4_everyRule 1 (some .int), Cond.fieldLink RX4 18 "HornEngine$Rulebook" "count" "I", Cond.methodLink RX4 37 yX4_closure, Cond.instanceMethod yX4_closure, Cond.selects RX4 yX4_closure yX4_closure, Cond.code yX4_closure cX4_closure 6 (some .int), Cond.methodLink RX4 41 yX4_afterOneRound, Cond.instanceMethod yX4_afterOneRound, Cond.selects RX4 yX4_afterOneRound yX4_afterOneRound, Cond.code yX4_afterOneRound cX4_afterOneRound 5 (some .int), Cond.fieldLink RX4 15 "HornEngine$Rulebook" "bodies" "[I", Cond.fieldLink RX4 9 "HornEngine$Rulebook" "heads" "[I"]
def wsX4_bestExplanation_r2 : List Cond := [Cond.static yX5_contains, Cond.initialized RX5, Cond.code yX5_contains cX5_contains 2 (some .boolean), Cond.static yX5_isSubset, Cond.code yX5_isSubset cX5_isSubset 2 (some .boolean)]
def wsX4_bestExplanation : List Cond := .code yX4_bestExplanation cX4_bestExplanation 8 (some .int) :: ((wsX4_bestExplanation_r1 ++ wsX4_bestExplanation_r2) ++ wsX40)
def wsX5_init_r1 : List Cond := [Cond.methodLink RX5 1 objectInit, Cond.instanceMethod objectInit, Cond.code objectInit ⟨#[0xb1]⟩ 1 none, Cond.classLink RX5 7 RX4, Cond.instantiable RX4 4, Cond.initialized RX4, Cond.fieldLink RX5 10 "HornEngine" "current" "LHornEngine$Rulebook;", Cond.classLink RX5 16 RX1, Cond.instantiable RX1 4, Cond.initialized RX1, Cond.fieldLink RX5 19 "HornEngine" "propagation" "LHornEngine$Propagation;", Cond.classLink RX5 23 RX0, Cond.instantiable RX0 2, Cond.initialized RX0, Cond.fieldLink RX5 26 "HornEngine" "history" "LHornEngine$History;", Cond.classLink RX5 30 RX2, Cond.instantiable RX2 2, Cond.initialized RX2, Cond.fieldLink RX5 35 "HornEngine" "text" "LHornEngine$Row;", Cond.classLink RX5 39 RX3, Cond.instantiable RX3 3, Cond.initialized RX3, Cond.fieldLink RX5 42 "HornEngine" "reader" "LHornEngine$RuleReader;", Cond.arrayClass .int]
def wsX5_init_r2 : List Cond := [Cond.fieldLink RX5 46 "HornEngine" "errorCounters" "[I", Cond.instanceMethod yX4_init, Cond.code yX4_init cX4_init 1 none, Cond.methodLink RX4 3 objectInit, Cond.fieldLink RX4 9 "HornEngine$Rulebook" "heads" "[I", Cond.fieldLink RX4 15 "HornEngine$Rulebook" "bodies" "[I", Cond.instanceMethod yX1_init, Cond.code yX1_init cX1_init 1 none, Cond.methodLink RX1 3 objectInit, Cond.classLink RX1 9 RX2, Cond.fieldLink RX1 14 "HornEngine$Propagation" "queue" "LHornEngine$Row;", Cond.fieldLink RX1 20 "HornEngine$Propagation" "firedRules" "LHornEngine$Row;", Cond.fieldLink RX1 23 "HornEngine$Propagation" "counters" "[I", Cond.methodLink RX1 11 yX2_init, Cond.instanceMethod yX2_init, Cond.code yX2_init cX2_init 2 none, Cond.methodLink RX2 3 objectInit, Cond.fieldLink RX2 9 "HornEngine$Row" "items" "[I", Cond.methodLink RX5 25 yX0_init, Cond.instanceMethod yX0_init, Cond.code yX0_init cX0_init 2 none, Cond.methodLink RX0 3 objectInit, Cond.classLink RX0 9 RX4, Cond.fieldLink RX0 11 "HornEngine$History" "saved" "[LHornEngine$Rulebook;"]
def wsX5_init_r3 : List Cond := [Cond.methodLink RX5 32 yX2_init, Cond.instanceMethod yX3_init, Cond.code yX3_init cX3_init 1 none, Cond.methodLink RX3 3 objectInit, Cond.classLink RX3 9 RX4, Cond.fieldLink RX3 12 "HornEngine$RuleReader" "draft" "LHornEngine$Rulebook;"]
def wsX5_init : List Cond := .code yX5_init cX5_init 1 none :: ((wsX5_init_r1 ++ (wsX5_init_r2 ++ wsX5_init_r3)) ++ wsX40 ++ wsX50 ++ wsX10 ++ wsX00 ++ wsX20 ++ wsX30)
def wsX5_isAtomSet : List Cond := .code yX5_isAtomSet cX5_isAtomSet 2 (some .boolean) :: ([.constant RX5 204 (65535), .methodLink RX5 108 yJ6_bitCount_0f7a4, .static yJ6_bitCount_0f7a4, .initialized RJ6, .code yJ6_bitCount_0f7a4 cJ6_bitCount_0f7a4 1 (some .int), .constant RJ6 265 (1431655765), .constant RJ6 266 (858993459), .constant RJ6 267 (252645135)])
def wsX5_isErrorCode : List Cond := .code yX5_isErrorCode cX5_isErrorCode 1 (some .boolean) :: ([])
def wsX5_fail : List Cond := .code yX5_fail cX5_fail 2 (some .int) :: ([.fieldLink RX5 46 "HornEngine" "errorCounters" "[I", .methodLink RX5 171 yX5_isErrorCode, .static yX5_isErrorCode, .initialized RX5, .code yX5_isErrorCode cX5_isErrorCode 1 (some .boolean)] ++ wsX50)
def wsX5_addRule_r1 : List Cond := [Cond.fieldLink RX5 10 "HornEngine" "current" "LHornEngine$Rulebook;", Cond.fieldLink RX5 26 "HornEngine" "history" "LHornEngine$History;", Cond.methodLink RX5 50 yX5_isAtom, Cond.static yX5_isAtom, Cond.initialized RX5, Cond.code yX5_isAtom cX5_isAtom 1 (some .boolean), Cond.methodLink RX5 54 yX5_isAtomSet, Cond.static yX5_isAtomSet, Cond.code yX5_isAtomSet cX5_isAtomSet 2 (some .boolean), Cond.constant RX5 204 (65535), Cond.methodLink RX5 108 yJ6_bitCount_0f7a4, Cond.static yJ6_bitCount_0f7a4, Cond.initialized RJ6, Cond.code yJ6_bitCount_0f7a4 cJ6_bitCount_0f7a4 1 (some .int), Cond.constant RJ6 265 (1431655765), Cond.constant RJ6 266 (858993459), Cond.constant RJ6 267 (252645135), Cond.methodLink RX5 58 yX5_fail, Cond.instanceMethod yX5_fail, Cond.selects RX5 yX5_fail yX5_fail, Cond.code yX5_fail cX5_fail 2 (some .int), Cond.fieldLink RX5 46 "HornEngine" "errorCounters" "[I", Cond.methodLink RX5 171 yX5_isErrorCode, Cond.static yX5_isErrorCode]
def wsX5_addRule_r2 : List Cond := [Cond.code yX5_isErrorCode cX5_isErrorCode 1 (some .boolean), Cond.methodLink RX5 62 yX4_isFull, Cond.instanceMethod yX4_isFull, Cond.selects RX4 yX4_isFull yX4_isFull, Cond.initialized RX4, Cond.code yX4_isFull cX4_isFull 1 (some .boolean), Cond.fieldLink RX4 18 "HornEngine$Rulebook" "count" "I", Cond.methodLink RX5 66 yX0_save, Cond.instanceMethod yX0_save, Cond.selects RX0 yX0_save yX0_save, Cond.initialized RX0, Cond.code yX0_save cX0_save 2 none, Cond.fieldLink RX0 18 "HornEngine$History" "count" "I", Cond.fieldLink RX0 11 "HornEngine$History" "saved" "[LHornEngine$Rulebook;", Cond.methodLink RX0 22 yX0_dropOldest, Cond.instanceMethod yX0_dropOldest, Cond.selects RX0 yX0_dropOldest yX0_dropOldest, Cond.code yX0_dropOldest cX0_dropOldest 3 none, Cond.methodLink RX0 25 yX4_copyFrom, Cond.instanceMethod yX4_copyFrom, Cond.selects RX4 yX4_copyFrom yX4_copyFrom, Cond.code yX4_copyFrom cX4_copyFrom 3 none, Cond.fieldLink RX4 9 "HornEngine$Rulebook" "heads" "[I", Cond.fieldLink RX4 15 "HornEngine$Rulebook" "bodies" "[I"]
def wsX5_addRule_r3 : List Cond := [Cond.fieldLink RX4 26 "HornEngine$Rulebook" "assumable" "I", Cond.methodLink RX5 70 yX4_addLast, Cond.instanceMethod yX4_addLast, Cond.selects RX4 yX4_addLast yX4_addLast, Cond.code yX4_addLast cX4_addLast 3 none, Cond.methodLink RX4 29 yX4_isFull, Cond.methodLink RX5 74 yX4_size, Cond.instanceMethod yX4_size, Cond.selects RX4 yX4_size yX4_size, Cond.code yX4_size cX4_size 1 (some .int)]
def wsX5_addRule : List Cond := .code yX5_addRule cX5_addRule 3 (some .int) :: ((wsX5_addRule_r1 ++ (wsX5_addRule_r2 ++ wsX5_addRule_r3)) ++ wsX50 ++ wsX40 ++ wsX00)
def wsX5_removeRule_r1 : List Cond := [Cond.fieldLink RX5 10 "HornEngine" "current" "LHornEngine$Rulebook;", Cond.fieldLink RX5 26 "HornEngine" "history" "LHornEngine$History;", Cond.methodLink RX5 78 yX4_hasRule, Cond.instanceMethod yX4_hasRule, Cond.selects RX4 yX4_hasRule yX4_hasRule, Cond.initialized RX4, Cond.code yX4_hasRule cX4_hasRule 2 (some .boolean), Cond.fieldLink RX4 18 "HornEngine$Rulebook" "count" "I", Cond.methodLink RX5 58 yX5_fail, Cond.instanceMethod yX5_fail, Cond.selects RX5 yX5_fail yX5_fail, Cond.initialized RX5, Cond.code yX5_fail cX5_fail 2 (some .int), Cond.fieldLink RX5 46 "HornEngine" "errorCounters" "[I", Cond.methodLink RX5 171 yX5_isErrorCode, Cond.static yX5_isErrorCode, Cond.code yX5_isErrorCode cX5_isErrorCode 1 (some .boolean), Cond.methodLink RX5 66 yX0_save, Cond.instanceMethod yX0_save, Cond.selects RX0 yX0_save yX0_save, Cond.initialized RX0, Cond.code yX0_save cX0_save 2 none, Cond.fieldLink RX0 18 "HornEngine$History" "count" "I", Cond.fieldLink RX0 11 "HornEngine$History" "saved" "[LHornEngine$Rulebook;"]
def wsX5_removeRule_r2 : List Cond := [Cond.methodLink RX0 22 yX0_dropOldest, Cond.instanceMethod yX0_dropOldest, Cond.selects RX0 yX0_dropOldest yX0_dropOldest, Cond.code yX0_dropOldest cX0_dropOldest 3 none, Cond.methodLink RX0 25 yX4_copyFrom, Cond.instanceMethod yX4_copyFrom, Cond.selects RX4 yX4_copyFrom yX4_copyFrom, Cond.code yX4_copyFrom cX4_copyFrom 3 none, Cond.fieldLink RX4 9 "HornEngine$Rulebook" "heads" "[I", Cond.fieldLink RX4 15 "HornEngine$Rulebook" "bodies" "[I", Cond.fieldLink RX4 26 "HornEngine$Rulebook" "assumable" "I", Cond.methodLink RX5 81 yX4_removeAt, Cond.instanceMethod yX4_removeAt, Cond.selects RX4 yX4_removeAt yX4_removeAt, Cond.code yX4_removeAt cX4_removeAt 3 none, Cond.methodLink RX4 22 yX4_hasRule, Cond.methodLink RX5 74 yX4_size, Cond.instanceMethod yX4_size, Cond.selects RX4 yX4_size yX4_size, Cond.code yX4_size cX4_size 1 (some .int)]
def wsX5_removeRule : List Cond := .code yX5_removeRule cX5_removeRule 2 (some .int) :: ((wsX5_removeRule_r1 ++ wsX5_removeRule_r2) ++ wsX50 ++ wsX40 ++ wsX00)
def wsX5_rules : List Cond := .code yX5_rules cX5_rules 1 (some .int) :: ([.fieldLink RX5 10 "HornEngine" "current" "LHornEngine$Rulebook;", .methodLink RX5 74 yX4_size, .instanceMethod yX4_size, .selects RX4 yX4_size yX4_size, .initialized RX4, .code yX4_size cX4_size 1 (some .int), .fieldLink RX4 18 "HornEngine$Rulebook" "count" "I"] ++ wsX50 ++ wsX40)
def wsX5_head : List Cond := .code yX5_head cX5_head 2 (some .int) :: ([.fieldLink RX5 10 "HornEngine" "current" "LHornEngine$Rulebook;", .methodLink RX5 78 yX4_hasRule, .instanceMethod yX4_hasRule, .selects RX4 yX4_hasRule yX4_hasRule, .initialized RX4, .code yX4_hasRule cX4_hasRule 2 (some .boolean), .fieldLink RX4 18 "HornEngine$Rulebook" "count" "I", .methodLink RX5 84 yX4_headOf, .instanceMethod yX4_headOf, .selects RX4 yX4_headOf yX4_headOf, .code yX4_headOf cX4_headOf 2 (some .int), .fieldLink RX4 9 "HornEngine$Rulebook" "heads" "[I", .methodLink RX4 22 yX4_hasRule, .methodLink RX5 58 yX5_fail, .instanceMethod yX5_fail, .selects RX5 yX5_fail yX5_fail, .initialized RX5, .code yX5_fail cX5_fail 2 (some .int), .fieldLink RX5 46 "HornEngine" "errorCounters" "[I", .methodLink RX5 171 yX5_isErrorCode, .static yX5_isErrorCode, .code yX5_isErrorCode cX5_isErrorCode 1 (some .boolean)] ++ wsX50 ++ wsX40)
def wsX5_body : List Cond := .code yX5_body cX5_body 2 (some .int) :: ([.fieldLink RX5 10 "HornEngine" "current" "LHornEngine$Rulebook;", .methodLink RX5 78 yX4_hasRule, .instanceMethod yX4_hasRule, .selects RX4 yX4_hasRule yX4_hasRule, .initialized RX4, .code yX4_hasRule cX4_hasRule 2 (some .boolean), .fieldLink RX4 18 "HornEngine$Rulebook" "count" "I", .methodLink RX5 87 yX4_bodyOf, .instanceMethod yX4_bodyOf, .selects RX4 yX4_bodyOf yX4_bodyOf, .code yX4_bodyOf cX4_bodyOf 2 (some .int), .fieldLink RX4 15 "HornEngine$Rulebook" "bodies" "[I", .methodLink RX4 22 yX4_hasRule, .methodLink RX5 58 yX5_fail, .instanceMethod yX5_fail, .selects RX5 yX5_fail yX5_fail, .initialized RX5, .code yX5_fail cX5_fail 2 (some .int), .fieldLink RX5 46 "HornEngine" "errorCounters" "[I", .methodLink RX5 171 yX5_isErrorCode, .static yX5_isErrorCode, .code yX5_isErrorCode cX5_isErrorCode 1 (some .boolean)] ++ wsX50 ++ wsX40)
def wsX5_model_r1 : List Cond := [Cond.fieldLink RX5 10 "HornEngine" "current" "LHornEngine$Rulebook;", Cond.methodLink RX5 90 yX4_leastModel, Cond.instanceMethod yX4_leastModel, Cond.selects RX4 yX4_leastModel yX4_leastModel, Cond.initialized RX4, Cond.code yX4_leastModel cX4_leastModel 1 (some .int), Cond.methodLink RX4 33 yX4_everyRule, Cond.instanceMethod yX4_everyRule, Cond.selects RX4 yX4_everyRule yX4_everyRule, Cond.code yX4_everyRule cX4_everyRule 1 (some .int), Cond.fieldLink RX4 18 "HornEngine$Rulebook" "count" "I", Cond.methodLink RX4 37 yX4_closure, Cond.instanceMethod yX4_closure, Cond.selects RX4 yX4_closure yX4_closure, Cond.code yX4_closure cX4_closure 6 (some .int), Cond.methodLink RX4 41 yX4_afterOneRound, Cond.instanceMethod yX4_afterOneRound, Cond.selects RX4 yX4_afterOneRound yX4_afterOneRound, Cond.code yX4_afterOneRound cX4_afterOneRound 5 (some .int), Cond.fieldLink RX4 15 "HornEngine$Rulebook" "bodies" "[I", Cond.fieldLink RX4 9 "HornEngine$Rulebook" "heads" "[I", Cond.static yX5_contains, Cond.initialized RX5, Cond.code yX5_contains cX5_contains 2 (some .boolean)]
def wsX5_model_r2 : List Cond := [Cond.static yX5_isSubset, Cond.code yX5_isSubset cX5_isSubset 2 (some .boolean)]
def wsX5_model : List Cond := .code yX5_model cX5_model 1 (some .int) :: ((wsX5_model_r1 ++ wsX5_model_r2) ++ wsX50 ++ wsX40)
def wsX5_derived_r1 : List Cond := [Cond.fieldLink RX5 19 "HornEngine" "propagation" "LHornEngine$Propagation;", Cond.fieldLink RX5 10 "HornEngine" "current" "LHornEngine$Rulebook;", Cond.methodLink RX5 58 yX5_fail, Cond.instanceMethod yX5_fail, Cond.selects RX5 yX5_fail yX5_fail, Cond.initialized RX5, Cond.code yX5_fail cX5_fail 2 (some .int), Cond.fieldLink RX5 46 "HornEngine" "errorCounters" "[I", Cond.methodLink RX5 171 yX5_isErrorCode, Cond.static yX5_isErrorCode, Cond.code yX5_isErrorCode cX5_isErrorCode 1 (some .boolean), Cond.methodLink RX5 93 yX1_run, Cond.instanceMethod yX1_run, Cond.selects RX1 yX1_run yX1_run, Cond.initialized RX1, Cond.code yX1_run cX1_run 3 none, Cond.fieldLink RX1 14 "HornEngine$Propagation" "queue" "LHornEngine$Row;", Cond.fieldLink RX1 20 "HornEngine$Propagation" "firedRules" "LHornEngine$Row;", Cond.fieldLink RX1 38 "HornEngine$Propagation" "queuedAtoms" "I", Cond.methodLink RX1 35 yX2_empty, Cond.instanceMethod yX2_empty, Cond.selects RX2 yX2_empty yX2_empty, Cond.initialized RX2, Cond.code yX2_empty cX2_empty 1 none]
def wsX5_derived_r2 : List Cond := [Cond.fieldLink RX2 15 "HornEngine$Row" "count" "I", Cond.methodLink RX1 42 yX1_fireFacts, Cond.instanceMethod yX1_fireFacts, Cond.selects RX1 yX1_fireFacts yX1_fireFacts, Cond.code yX1_fireFacts cX1_fireFacts 3 none, Cond.fieldLink RX1 23 "HornEngine$Propagation" "counters" "[I", Cond.methodLink RX1 50 yX4_size, Cond.instanceMethod yX4_size, Cond.selects RX4 yX4_size yX4_size, Cond.initialized RX4, Cond.code yX4_size cX4_size 1 (some .int), Cond.fieldLink RX4 18 "HornEngine$Rulebook" "count" "I", Cond.methodLink RX1 53 yX4_bodyOf, Cond.instanceMethod yX4_bodyOf, Cond.selects RX4 yX4_bodyOf yX4_bodyOf, Cond.code yX4_bodyOf cX4_bodyOf 2 (some .int), Cond.fieldLink RX4 15 "HornEngine$Rulebook" "bodies" "[I", Cond.methodLink RX4 22 yX4_hasRule, Cond.instanceMethod yX4_hasRule, Cond.selects RX4 yX4_hasRule yX4_hasRule, Cond.code yX4_hasRule cX4_hasRule 2 (some .boolean), Cond.methodLink RX1 56 yJ6_bitCount_0f7a4, Cond.static yJ6_bitCount_0f7a4, Cond.initialized RJ6]
def wsX5_derived_r3 : List Cond := [Cond.code yJ6_bitCount_0f7a4 cJ6_bitCount_0f7a4 1 (some .int), Cond.constant RJ6 265 (1431655765), Cond.constant RJ6 266 (858993459), Cond.constant RJ6 267 (252645135), Cond.methodLink RX1 61 yX1_fire, Cond.instanceMethod yX1_fire, Cond.selects RX1 yX1_fire yX1_fire, Cond.code yX1_fire cX1_fire 4 none, Cond.methodLink RX1 68 yX4_headOf, Cond.instanceMethod yX4_headOf, Cond.selects RX4 yX4_headOf yX4_headOf, Cond.code yX4_headOf cX4_headOf 2 (some .int), Cond.fieldLink RX4 9 "HornEngine$Rulebook" "heads" "[I", Cond.methodLink RX1 71 yX2_addLast, Cond.instanceMethod yX2_addLast, Cond.selects RX2 yX2_addLast yX2_addLast, Cond.code yX2_addLast cX2_addLast 2 none, Cond.fieldLink RX2 9 "HornEngine$Row" "items" "[I", Cond.methodLink RX2 19 yX2_isFull, Cond.instanceMethod yX2_isFull, Cond.selects RX2 yX2_isFull yX2_isFull, Cond.code yX2_isFull cX2_isFull 1 (some .boolean), Cond.static yX5_contains, Cond.code yX5_contains cX5_contains 2 (some .boolean)]
def wsX5_derived_r4 : List Cond := [Cond.methodLink RX1 27 yX2_size, Cond.instanceMethod yX2_size, Cond.selects RX2 yX2_size yX2_size, Cond.code yX2_size cX2_size 1 (some .int), Cond.methodLink RX1 31 yX2_itemAt, Cond.instanceMethod yX2_itemAt, Cond.selects RX2 yX2_itemAt yX2_itemAt, Cond.code yX2_itemAt cX2_itemAt 2 (some .int), Cond.methodLink RX1 46 yX1_countDown, Cond.instanceMethod yX1_countDown, Cond.selects RX1 yX1_countDown yX1_countDown, Cond.code yX1_countDown cX1_countDown 4 none, Cond.methodLink RX5 96 yX1_atomAt, Cond.instanceMethod yX1_atomAt, Cond.selects RX1 yX1_atomAt yX1_atomAt, Cond.code yX1_atomAt cX1_atomAt 2 (some .int)]
def wsX5_derived : List Cond := .code yX5_derived cX5_derived 2 (some .int) :: ((wsX5_derived_r1 ++ (wsX5_derived_r2 ++ (wsX5_derived_r3 ++ wsX5_derived_r4))) ++ wsX50 ++ wsX10 ++ wsX20 ++ wsX40)
def wsX5_fired_r1 : List Cond := [Cond.fieldLink RX5 19 "HornEngine" "propagation" "LHornEngine$Propagation;", Cond.fieldLink RX5 10 "HornEngine" "current" "LHornEngine$Rulebook;", Cond.methodLink RX5 58 yX5_fail, Cond.instanceMethod yX5_fail, Cond.selects RX5 yX5_fail yX5_fail, Cond.initialized RX5, Cond.code yX5_fail cX5_fail 2 (some .int), Cond.fieldLink RX5 46 "HornEngine" "errorCounters" "[I", Cond.methodLink RX5 171 yX5_isErrorCode, Cond.static yX5_isErrorCode, Cond.code yX5_isErrorCode cX5_isErrorCode 1 (some .boolean), Cond.methodLink RX5 93 yX1_run, Cond.instanceMethod yX1_run, Cond.selects RX1 yX1_run yX1_run, Cond.initialized RX1, Cond.code yX1_run cX1_run 3 none, Cond.fieldLink RX1 14 "HornEngine$Propagation" "queue" "LHornEngine$Row;", Cond.fieldLink RX1 20 "HornEngine$Propagation" "firedRules" "LHornEngine$Row;", Cond.fieldLink RX1 38 "HornEngine$Propagation" "queuedAtoms" "I", Cond.methodLink RX1 35 yX2_empty, Cond.instanceMethod yX2_empty, Cond.selects RX2 yX2_empty yX2_empty, Cond.initialized RX2, Cond.code yX2_empty cX2_empty 1 none]
def wsX5_fired_r2 : List Cond := [Cond.fieldLink RX2 15 "HornEngine$Row" "count" "I", Cond.methodLink RX1 42 yX1_fireFacts, Cond.instanceMethod yX1_fireFacts, Cond.selects RX1 yX1_fireFacts yX1_fireFacts, Cond.code yX1_fireFacts cX1_fireFacts 3 none, Cond.fieldLink RX1 23 "HornEngine$Propagation" "counters" "[I", Cond.methodLink RX1 50 yX4_size, Cond.instanceMethod yX4_size, Cond.selects RX4 yX4_size yX4_size, Cond.initialized RX4, Cond.code yX4_size cX4_size 1 (some .int), Cond.fieldLink RX4 18 "HornEngine$Rulebook" "count" "I", Cond.methodLink RX1 53 yX4_bodyOf, Cond.instanceMethod yX4_bodyOf, Cond.selects RX4 yX4_bodyOf yX4_bodyOf, Cond.code yX4_bodyOf cX4_bodyOf 2 (some .int), Cond.fieldLink RX4 15 "HornEngine$Rulebook" "bodies" "[I", Cond.methodLink RX4 22 yX4_hasRule, Cond.instanceMethod yX4_hasRule, Cond.selects RX4 yX4_hasRule yX4_hasRule, Cond.code yX4_hasRule cX4_hasRule 2 (some .boolean), Cond.methodLink RX1 56 yJ6_bitCount_0f7a4, Cond.static yJ6_bitCount_0f7a4, Cond.initialized RJ6]
def wsX5_fired_r3 : List Cond := [Cond.code yJ6_bitCount_0f7a4 cJ6_bitCount_0f7a4 1 (some .int), Cond.constant RJ6 265 (1431655765), Cond.constant RJ6 266 (858993459), Cond.constant RJ6 267 (252645135), Cond.methodLink RX1 61 yX1_fire, Cond.instanceMethod yX1_fire, Cond.selects RX1 yX1_fire yX1_fire, Cond.code yX1_fire cX1_fire 4 none, Cond.methodLink RX1 68 yX4_headOf, Cond.instanceMethod yX4_headOf, Cond.selects RX4 yX4_headOf yX4_headOf, Cond.code yX4_headOf cX4_headOf 2 (some .int), Cond.fieldLink RX4 9 "HornEngine$Rulebook" "heads" "[I", Cond.methodLink RX1 71 yX2_addLast, Cond.instanceMethod yX2_addLast, Cond.selects RX2 yX2_addLast yX2_addLast, Cond.code yX2_addLast cX2_addLast 2 none, Cond.fieldLink RX2 9 "HornEngine$Row" "items" "[I", Cond.methodLink RX2 19 yX2_isFull, Cond.instanceMethod yX2_isFull, Cond.selects RX2 yX2_isFull yX2_isFull, Cond.code yX2_isFull cX2_isFull 1 (some .boolean), Cond.static yX5_contains, Cond.code yX5_contains cX5_contains 2 (some .boolean)]
def wsX5_fired_r4 : List Cond := [Cond.methodLink RX1 27 yX2_size, Cond.instanceMethod yX2_size, Cond.selects RX2 yX2_size yX2_size, Cond.code yX2_size cX2_size 1 (some .int), Cond.methodLink RX1 31 yX2_itemAt, Cond.instanceMethod yX2_itemAt, Cond.selects RX2 yX2_itemAt yX2_itemAt, Cond.code yX2_itemAt cX2_itemAt 2 (some .int), Cond.methodLink RX1 46 yX1_countDown, Cond.instanceMethod yX1_countDown, Cond.selects RX1 yX1_countDown yX1_countDown, Cond.code yX1_countDown cX1_countDown 4 none, Cond.methodLink RX5 99 yX1_ruleAt, Cond.instanceMethod yX1_ruleAt, Cond.selects RX1 yX1_ruleAt yX1_ruleAt, Cond.code yX1_ruleAt cX1_ruleAt 2 (some .int)]
def wsX5_fired : List Cond := .code yX5_fired cX5_fired 2 (some .int) :: ((wsX5_fired_r1 ++ (wsX5_fired_r2 ++ (wsX5_fired_r3 ++ wsX5_fired_r4))) ++ wsX50 ++ wsX10 ++ wsX20 ++ wsX40)
def wsX5_isDerived_r1 : List Cond := [Cond.fieldLink RX5 10 "HornEngine" "current" "LHornEngine$Rulebook;", Cond.methodLink RX5 90 yX4_leastModel, Cond.instanceMethod yX4_leastModel, Cond.selects RX4 yX4_leastModel yX4_leastModel, Cond.initialized RX4, Cond.code yX4_leastModel cX4_leastModel 1 (some .int), Cond.methodLink RX4 33 yX4_everyRule, Cond.instanceMethod yX4_everyRule, Cond.selects RX4 yX4_everyRule yX4_everyRule, Cond.code yX4_everyRule cX4_everyRule 1 (some .int), Cond.fieldLink RX4 18 "HornEngine$Rulebook" "count" "I", Cond.methodLink RX4 37 yX4_closure, Cond.instanceMethod yX4_closure, Cond.selects RX4 yX4_closure yX4_closure, Cond.code yX4_closure cX4_closure 6 (some .int), Cond.methodLink RX4 41 yX4_afterOneRound, Cond.instanceMethod yX4_afterOneRound, Cond.selects RX4 yX4_afterOneRound yX4_afterOneRound, Cond.code yX4_afterOneRound cX4_afterOneRound 5 (some .int), Cond.fieldLink RX4 15 "HornEngine$Rulebook" "bodies" "[I", Cond.fieldLink RX4 9 "HornEngine$Rulebook" "heads" "[I", Cond.static yX5_contains, Cond.initialized RX5, Cond.code yX5_contains cX5_contains 2 (some .boolean)]
def wsX5_isDerived_r2 : List Cond := [Cond.static yX5_isSubset, Cond.code yX5_isSubset cX5_isSubset 2 (some .boolean), Cond.methodLink RX5 199 yX5_contains]
def wsX5_isDerived : List Cond := .code yX5_isDerived cX5_isDerived 2 (some .boolean) :: ((wsX5_isDerived_r1 ++ wsX5_isDerived_r2) ++ wsX50 ++ wsX40)
def wsX5_level_r1 : List Cond := [Cond.fieldLink RX5 10 "HornEngine" "current" "LHornEngine$Rulebook;", Cond.methodLink RX5 50 yX5_isAtom, Cond.static yX5_isAtom, Cond.initialized RX5, Cond.code yX5_isAtom cX5_isAtom 1 (some .boolean), Cond.methodLink RX5 58 yX5_fail, Cond.instanceMethod yX5_fail, Cond.selects RX5 yX5_fail yX5_fail, Cond.code yX5_fail cX5_fail 2 (some .int), Cond.fieldLink RX5 46 "HornEngine" "errorCounters" "[I", Cond.methodLink RX5 171 yX5_isErrorCode, Cond.static yX5_isErrorCode, Cond.code yX5_isErrorCode cX5_isErrorCode 1 (some .boolean), Cond.methodLink RX5 102 yX5_isDerived, Cond.instanceMethod yX5_isDerived, Cond.selects RX5 yX5_isDerived yX5_isDerived, Cond.code yX5_isDerived cX5_isDerived 2 (some .boolean), Cond.methodLink RX5 90 yX4_leastModel, Cond.instanceMethod yX4_leastModel, Cond.selects RX4 yX4_leastModel yX4_leastModel, Cond.initialized RX4, Cond.code yX4_leastModel cX4_leastModel 1 (some .int), Cond.methodLink RX4 33 yX4_everyRule, Cond.instanceMethod yX4_everyRule]
def wsX5_level_r2 : List Cond := [Cond.selects RX4 yX4_everyRule yX4_everyRule, Cond.code yX4_everyRule cX4_everyRule 1 (some .int), Cond.fieldLink RX4 18 "HornEngine$Rulebook" "count" "I", Cond.methodLink RX4 37 yX4_closure, Cond.instanceMethod yX4_closure, Cond.selects RX4 yX4_closure yX4_closure, Cond.code yX4_closure cX4_closure 6 (some .int), Cond.methodLink RX4 41 yX4_afterOneRound, Cond.instanceMethod yX4_afterOneRound, Cond.selects RX4 yX4_afterOneRound yX4_afterOneRound, Cond.code yX4_afterOneRound cX4_afterOneRound 5 (some .int), Cond.fieldLink RX4 15 "HornEngine$Rulebook" "bodies" "[I", Cond.fieldLink RX4 9 "HornEngine$Rulebook" "heads" "[I", Cond.static yX5_contains, Cond.code yX5_contains cX5_contains 2 (some .boolean), Cond.static yX5_isSubset, Cond.code yX5_isSubset cX5_isSubset 2 (some .boolean), Cond.methodLink RX5 199 yX5_contains, Cond.methodLink RX5 105 yX4_levelOf, Cond.instanceMethod yX4_levelOf, Cond.selects RX4 yX4_levelOf yX4_levelOf, Cond.code yX4_levelOf cX4_levelOf 4 (some .int)]
def wsX5_level : List Cond := .code yX5_level cX5_level 2 (some .int) :: ((wsX5_level_r1 ++ wsX5_level_r2) ++ wsX50 ++ wsX40)
def wsX5_bitsOfSixteenths : List Cond := .code yX5_bitsOfSixteenths cX5_bitsOfSixteenths 4 (some .int) :: ([.constant RX5 205 (8388607), .methodLink RX5 199 yX5_contains, .static yX5_contains, .initialized RX5, .code yX5_contains cX5_contains 2 (some .boolean)])
def wsX5_modelShareBits_r1 : List Cond := [Cond.fieldLink RX5 10 "HornEngine" "current" "LHornEngine$Rulebook;", Cond.methodLink RX5 90 yX4_leastModel, Cond.instanceMethod yX4_leastModel, Cond.selects RX4 yX4_leastModel yX4_leastModel, Cond.initialized RX4, Cond.code yX4_leastModel cX4_leastModel 1 (some .int), Cond.methodLink RX4 33 yX4_everyRule, Cond.instanceMethod yX4_everyRule, Cond.selects RX4 yX4_everyRule yX4_everyRule, Cond.code yX4_everyRule cX4_everyRule 1 (some .int), Cond.fieldLink RX4 18 "HornEngine$Rulebook" "count" "I", Cond.methodLink RX4 37 yX4_closure, Cond.instanceMethod yX4_closure, Cond.selects RX4 yX4_closure yX4_closure, Cond.code yX4_closure cX4_closure 6 (some .int), Cond.methodLink RX4 41 yX4_afterOneRound, Cond.instanceMethod yX4_afterOneRound, Cond.selects RX4 yX4_afterOneRound yX4_afterOneRound, Cond.code yX4_afterOneRound cX4_afterOneRound 5 (some .int), Cond.fieldLink RX4 15 "HornEngine$Rulebook" "bodies" "[I", Cond.fieldLink RX4 9 "HornEngine$Rulebook" "heads" "[I", Cond.static yX5_contains, Cond.initialized RX5, Cond.code yX5_contains cX5_contains 2 (some .boolean)]
def wsX5_modelShareBits_r2 : List Cond := [Cond.static yX5_isSubset, Cond.code yX5_isSubset cX5_isSubset 2 (some .boolean), Cond.methodLink RX5 108 yJ6_bitCount_0f7a4, Cond.static yJ6_bitCount_0f7a4, Cond.initialized RJ6, Cond.code yJ6_bitCount_0f7a4 cJ6_bitCount_0f7a4 1 (some .int), Cond.constant RJ6 265 (1431655765), Cond.constant RJ6 266 (858993459), Cond.constant RJ6 267 (252645135), Cond.methodLink RX5 113 yX5_bitsOfSixteenths, Cond.static yX5_bitsOfSixteenths, Cond.code yX5_bitsOfSixteenths cX5_bitsOfSixteenths 4 (some .int), Cond.constant RX5 205 (8388607), Cond.methodLink RX5 199 yX5_contains]
def wsX5_modelShareBits : List Cond := .code yX5_modelShareBits cX5_modelShareBits 1 (some .int) :: ((wsX5_modelShareBits_r1 ++ wsX5_modelShareBits_r2) ++ wsX50 ++ wsX40)
def wsX5_supports_r1 : List Cond := [Cond.fieldLink RX5 10 "HornEngine" "current" "LHornEngine$Rulebook;", Cond.methodLink RX5 50 yX5_isAtom, Cond.static yX5_isAtom, Cond.initialized RX5, Cond.code yX5_isAtom cX5_isAtom 1 (some .boolean), Cond.methodLink RX5 116 yX4_supportsOf, Cond.instanceMethod yX4_supportsOf, Cond.selects RX4 yX4_supportsOf yX4_supportsOf, Cond.initialized RX4, Cond.code yX4_supportsOf cX4_supportsOf 5 (some .int), Cond.fieldLink RX4 18 "HornEngine$Rulebook" "count" "I", Cond.fieldLink RX4 9 "HornEngine$Rulebook" "heads" "[I", Cond.fieldLink RX4 15 "HornEngine$Rulebook" "bodies" "[I", Cond.methodLink RX4 48 yX4_leastModel, Cond.instanceMethod yX4_leastModel, Cond.selects RX4 yX4_leastModel yX4_leastModel, Cond.code yX4_leastModel cX4_leastModel 1 (some .int), Cond.methodLink RX4 33 yX4_everyRule, Cond.instanceMethod yX4_everyRule, Cond.selects RX4 yX4_everyRule yX4_everyRule, Cond.code yX4_everyRule cX4_everyRule 1 (some .int), Cond.methodLink RX4 37 yX4_closure, Cond.instanceMethod yX4_closure, Cond.selects RX4 yX4_closure yX4_closure]
def wsX5_supports_r2 : List Cond := [Cond.code yX4_closure cX4_closure 6 (some .int), Cond.methodLink RX4 41 yX4_afterOneRound, Cond.instanceMethod yX4_afterOneRound, Cond.selects RX4 yX4_afterOneRound yX4_afterOneRound, Cond.code yX4_afterOneRound cX4_afterOneRound 5 (some .int), Cond.static yX5_contains, Cond.code yX5_contains cX5_contains 2 (some .boolean), Cond.static yX5_isSubset, Cond.code yX5_isSubset cX5_isSubset 2 (some .boolean), Cond.methodLink RX5 58 yX5_fail, Cond.instanceMethod yX5_fail, Cond.selects RX5 yX5_fail yX5_fail, Cond.code yX5_fail cX5_fail 2 (some .int), Cond.fieldLink RX5 46 "HornEngine" "errorCounters" "[I", Cond.methodLink RX5 171 yX5_isErrorCode, Cond.static yX5_isErrorCode, Cond.code yX5_isErrorCode cX5_isErrorCode 1 (some .boolean)]
def wsX5_supports : List Cond := .code yX5_supports cX5_supports 2 (some .int) :: ((wsX5_supports_r1 ++ wsX5_supports_r2) ++ wsX50 ++ wsX40)
def wsX5_reason_r1 : List Cond := [Cond.fieldLink RX5 10 "HornEngine" "current" "LHornEngine$Rulebook;", Cond.methodLink RX5 50 yX5_isAtom, Cond.static yX5_isAtom, Cond.initialized RX5, Cond.code yX5_isAtom cX5_isAtom 1 (some .boolean), Cond.methodLink RX5 58 yX5_fail, Cond.instanceMethod yX5_fail, Cond.selects RX5 yX5_fail yX5_fail, Cond.code yX5_fail cX5_fail 2 (some .int), Cond.fieldLink RX5 46 "HornEngine" "errorCounters" "[I", Cond.methodLink RX5 171 yX5_isErrorCode, Cond.static yX5_isErrorCode, Cond.code yX5_isErrorCode cX5_isErrorCode 1 (some .boolean), Cond.methodLink RX5 102 yX5_isDerived, Cond.instanceMethod yX5_isDerived, Cond.selects RX5 yX5_isDerived yX5_isDerived, Cond.code yX5_isDerived cX5_isDerived 2 (some .boolean), Cond.methodLink RX5 90 yX4_leastModel, Cond.instanceMethod yX4_leastModel, Cond.selects RX4 yX4_leastModel yX4_leastModel, Cond.initialized RX4, Cond.code yX4_leastModel cX4_leastModel 1 (some .int), Cond.methodLink RX4 33 yX4_everyRule, Cond.instanceMethod yX4_everyRule]
def wsX5_reason_r2 : List Cond := [Cond.selects RX4 yX4_everyRule yX4_everyRule, Cond.code yX4_everyRule cX4_everyRule 1 (some .int), Cond.fieldLink RX4 18 "HornEngine$Rulebook" "count" "I", Cond.methodLink RX4 37 yX4_closure, Cond.instanceMethod yX4_closure, Cond.selects RX4 yX4_closure yX4_closure, Cond.code yX4_closure cX4_closure 6 (some .int), Cond.methodLink RX4 41 yX4_afterOneRound, Cond.instanceMethod yX4_afterOneRound, Cond.selects RX4 yX4_afterOneRound yX4_afterOneRound, Cond.code yX4_afterOneRound cX4_afterOneRound 5 (some .int), Cond.fieldLink RX4 15 "HornEngine$Rulebook" "bodies" "[I", Cond.fieldLink RX4 9 "HornEngine$Rulebook" "heads" "[I", Cond.static yX5_contains, Cond.code yX5_contains cX5_contains 2 (some .boolean), Cond.static yX5_isSubset, Cond.code yX5_isSubset cX5_isSubset 2 (some .boolean), Cond.methodLink RX5 199 yX5_contains, Cond.methodLink RX5 119 yX4_reasonFor, Cond.instanceMethod yX4_reasonFor, Cond.selects RX4 yX4_reasonFor yX4_reasonFor, Cond.code yX4_reasonFor cX4_reasonFor 5 (some .int)]
def wsX5_reason : List Cond := .code yX5_reason cX5_reason 2 (some .int) :: ((wsX5_reason_r1 ++ wsX5_reason_r2) ++ wsX50 ++ wsX40)
def wsX5_necessary_r1 : List Cond := [Cond.fieldLink RX5 10 "HornEngine" "current" "LHornEngine$Rulebook;", Cond.methodLink RX5 50 yX5_isAtom, Cond.static yX5_isAtom, Cond.initialized RX5, Cond.code yX5_isAtom cX5_isAtom 1 (some .boolean), Cond.methodLink RX5 58 yX5_fail, Cond.instanceMethod yX5_fail, Cond.selects RX5 yX5_fail yX5_fail, Cond.code yX5_fail cX5_fail 2 (some .int), Cond.fieldLink RX5 46 "HornEngine" "errorCounters" "[I", Cond.methodLink RX5 171 yX5_isErrorCode, Cond.static yX5_isErrorCode, Cond.code yX5_isErrorCode cX5_isErrorCode 1 (some .boolean), Cond.methodLink RX5 102 yX5_isDerived, Cond.instanceMethod yX5_isDerived, Cond.selects RX5 yX5_isDerived yX5_isDerived, Cond.code yX5_isDerived cX5_isDerived 2 (some .boolean), Cond.methodLink RX5 90 yX4_leastModel, Cond.instanceMethod yX4_leastModel, Cond.selects RX4 yX4_leastModel yX4_leastModel, Cond.initialized RX4, Cond.code yX4_leastModel cX4_leastModel 1 (some .int), Cond.methodLink RX4 33 yX4_everyRule, Cond.instanceMethod yX4_everyRule]
def wsX5_necessary_r2 : List Cond := [Cond.selects RX4 yX4_everyRule yX4_everyRule, Cond.code yX4_everyRule cX4_everyRule 1 (some .int), Cond.fieldLink RX4 18 "HornEngine$Rulebook" "count" "I", Cond.methodLink RX4 37 yX4_closure, Cond.instanceMethod yX4_closure, Cond.selects RX4 yX4_closure yX4_closure, Cond.code yX4_closure cX4_closure 6 (some .int), Cond.methodLink RX4 41 yX4_afterOneRound, Cond.instanceMethod yX4_afterOneRound, Cond.selects RX4 yX4_afterOneRound yX4_afterOneRound, Cond.code yX4_afterOneRound cX4_afterOneRound 5 (some .int), Cond.fieldLink RX4 15 "HornEngine$Rulebook" "bodies" "[I", Cond.fieldLink RX4 9 "HornEngine$Rulebook" "heads" "[I", Cond.static yX5_contains, Cond.code yX5_contains cX5_contains 2 (some .boolean), Cond.static yX5_isSubset, Cond.code yX5_isSubset cX5_isSubset 2 (some .boolean), Cond.methodLink RX5 199 yX5_contains, Cond.methodLink RX5 122 yX4_necessaryFor, Cond.instanceMethod yX4_necessaryFor, Cond.selects RX4 yX4_necessaryFor yX4_necessaryFor, Cond.code yX4_necessaryFor cX4_necessaryFor 4 (some .int), Cond.methodLink RX4 54 yX4_modelWithout, Cond.instanceMethod yX4_modelWithout]
def wsX5_necessary_r3 : List Cond := [Cond.selects RX4 yX4_modelWithout yX4_modelWithout, Cond.code yX4_modelWithout cX4_modelWithout 2 (some .int)]
def wsX5_necessary : List Cond := .code yX5_necessary cX5_necessary 2 (some .int) :: ((wsX5_necessary_r1 ++ (wsX5_necessary_r2 ++ wsX5_necessary_r3)) ++ wsX50 ++ wsX40)
def wsX5_dependencies_r1 : List Cond := [Cond.fieldLink RX5 10 "HornEngine" "current" "LHornEngine$Rulebook;", Cond.methodLink RX5 50 yX5_isAtom, Cond.static yX5_isAtom, Cond.initialized RX5, Cond.code yX5_isAtom cX5_isAtom 1 (some .boolean), Cond.methodLink RX5 125 yX4_dependenciesOf, Cond.instanceMethod yX4_dependenciesOf, Cond.selects RX4 yX4_dependenciesOf yX4_dependenciesOf, Cond.initialized RX4, Cond.code yX4_dependenciesOf cX4_dependenciesOf 4 (some .int), Cond.methodLink RX4 58 yX4_bodiesUnder, Cond.instanceMethod yX4_bodiesUnder, Cond.selects RX4 yX4_bodiesUnder yX4_bodiesUnder, Cond.code yX4_bodiesUnder cX4_bodiesUnder 4 (some .int), Cond.fieldLink RX4 18 "HornEngine$Rulebook" "count" "I", Cond.fieldLink RX4 9 "HornEngine$Rulebook" "heads" "[I", Cond.fieldLink RX4 15 "HornEngine$Rulebook" "bodies" "[I", Cond.static yX5_contains, Cond.code yX5_contains cX5_contains 2 (some .boolean), Cond.methodLink RX5 58 yX5_fail, Cond.instanceMethod yX5_fail, Cond.selects RX5 yX5_fail yX5_fail, Cond.code yX5_fail cX5_fail 2 (some .int), Cond.fieldLink RX5 46 "HornEngine" "errorCounters" "[I"]
def wsX5_dependencies_r2 : List Cond := [Cond.methodLink RX5 171 yX5_isErrorCode, Cond.static yX5_isErrorCode, Cond.code yX5_isErrorCode cX5_isErrorCode 1 (some .boolean)]
def wsX5_dependencies : List Cond := .code yX5_dependencies cX5_dependencies 2 (some .int) :: ((wsX5_dependencies_r1 ++ wsX5_dependencies_r2) ++ wsX50 ++ wsX40)
def wsX5_cyclicAtoms : List Cond := .code yX5_cyclicAtoms cX5_cyclicAtoms 1 (some .int) :: ([.fieldLink RX5 10 "HornEngine" "current" "LHornEngine$Rulebook;", .methodLink RX5 128 yX4_atomsOnCycles, .instanceMethod yX4_atomsOnCycles, .selects RX4 yX4_atomsOnCycles yX4_atomsOnCycles, .initialized RX4, .code yX4_atomsOnCycles cX4_atomsOnCycles 3 (some .int), .methodLink RX4 61 yX4_dependenciesOf, .instanceMethod yX4_dependenciesOf, .selects RX4 yX4_dependenciesOf yX4_dependenciesOf, .code yX4_dependenciesOf cX4_dependenciesOf 4 (some .int), .methodLink RX4 58 yX4_bodiesUnder, .instanceMethod yX4_bodiesUnder, .selects RX4 yX4_bodiesUnder yX4_bodiesUnder, .code yX4_bodiesUnder cX4_bodiesUnder 4 (some .int), .fieldLink RX4 18 "HornEngine$Rulebook" "count" "I", .fieldLink RX4 9 "HornEngine$Rulebook" "heads" "[I", .fieldLink RX4 15 "HornEngine$Rulebook" "bodies" "[I", .static yX5_contains, .initialized RX5, .code yX5_contains cX5_contains 2 (some .boolean)] ++ wsX50 ++ wsX40)
def wsX5_overDeleted_r1 : List Cond := [Cond.fieldLink RX5 10 "HornEngine" "current" "LHornEngine$Rulebook;", Cond.methodLink RX5 78 yX4_hasRule, Cond.instanceMethod yX4_hasRule, Cond.selects RX4 yX4_hasRule yX4_hasRule, Cond.initialized RX4, Cond.code yX4_hasRule cX4_hasRule 2 (some .boolean), Cond.fieldLink RX4 18 "HornEngine$Rulebook" "count" "I", Cond.methodLink RX5 131 yX4_overDeletedBy, Cond.instanceMethod yX4_overDeletedBy, Cond.selects RX4 yX4_overDeletedBy yX4_overDeletedBy, Cond.code yX4_overDeletedBy cX4_overDeletedBy 6 (some .int), Cond.fieldLink RX4 15 "HornEngine$Rulebook" "bodies" "[I", Cond.fieldLink RX4 9 "HornEngine$Rulebook" "heads" "[I", Cond.methodLink RX4 48 yX4_leastModel, Cond.instanceMethod yX4_leastModel, Cond.selects RX4 yX4_leastModel yX4_leastModel, Cond.code yX4_leastModel cX4_leastModel 1 (some .int), Cond.methodLink RX4 33 yX4_everyRule, Cond.instanceMethod yX4_everyRule, Cond.selects RX4 yX4_everyRule yX4_everyRule, Cond.code yX4_everyRule cX4_everyRule 1 (some .int), Cond.methodLink RX4 37 yX4_closure, Cond.instanceMethod yX4_closure, Cond.selects RX4 yX4_closure yX4_closure]
def wsX5_overDeleted_r2 : List Cond := [Cond.code yX4_closure cX4_closure 6 (some .int), Cond.methodLink RX4 41 yX4_afterOneRound, Cond.instanceMethod yX4_afterOneRound, Cond.selects RX4 yX4_afterOneRound yX4_afterOneRound, Cond.code yX4_afterOneRound cX4_afterOneRound 5 (some .int), Cond.static yX5_contains, Cond.initialized RX5, Cond.code yX5_contains cX5_contains 2 (some .boolean), Cond.static yX5_isSubset, Cond.code yX5_isSubset cX5_isSubset 2 (some .boolean), Cond.methodLink RX4 22 yX4_hasRule, Cond.methodLink RX5 58 yX5_fail, Cond.instanceMethod yX5_fail, Cond.selects RX5 yX5_fail yX5_fail, Cond.code yX5_fail cX5_fail 2 (some .int), Cond.fieldLink RX5 46 "HornEngine" "errorCounters" "[I", Cond.methodLink RX5 171 yX5_isErrorCode, Cond.static yX5_isErrorCode, Cond.code yX5_isErrorCode cX5_isErrorCode 1 (some .boolean)]
def wsX5_overDeleted : List Cond := .code yX5_overDeleted cX5_overDeleted 2 (some .int) :: ((wsX5_overDeleted_r1 ++ wsX5_overDeleted_r2) ++ wsX50 ++ wsX40)
def wsX5_lost_r1 : List Cond := [Cond.fieldLink RX5 10 "HornEngine" "current" "LHornEngine$Rulebook;", Cond.methodLink RX5 78 yX4_hasRule, Cond.instanceMethod yX4_hasRule, Cond.selects RX4 yX4_hasRule yX4_hasRule, Cond.initialized RX4, Cond.code yX4_hasRule cX4_hasRule 2 (some .boolean), Cond.fieldLink RX4 18 "HornEngine$Rulebook" "count" "I", Cond.methodLink RX5 134 yX4_lostWithout, Cond.instanceMethod yX4_lostWithout, Cond.selects RX4 yX4_lostWithout yX4_lostWithout, Cond.code yX4_lostWithout cX4_lostWithout 2 (some .int), Cond.methodLink RX4 48 yX4_leastModel, Cond.instanceMethod yX4_leastModel, Cond.selects RX4 yX4_leastModel yX4_leastModel, Cond.code yX4_leastModel cX4_leastModel 1 (some .int), Cond.methodLink RX4 33 yX4_everyRule, Cond.instanceMethod yX4_everyRule, Cond.selects RX4 yX4_everyRule yX4_everyRule, Cond.code yX4_everyRule cX4_everyRule 1 (some .int), Cond.methodLink RX4 37 yX4_closure, Cond.instanceMethod yX4_closure, Cond.selects RX4 yX4_closure yX4_closure, Cond.code yX4_closure cX4_closure 6 (some .int), Cond.methodLink RX4 41 yX4_afterOneRound]
def wsX5_lost_r2 : List Cond := [Cond.instanceMethod yX4_afterOneRound, Cond.selects RX4 yX4_afterOneRound yX4_afterOneRound, Cond.code yX4_afterOneRound cX4_afterOneRound 5 (some .int), Cond.fieldLink RX4 15 "HornEngine$Rulebook" "bodies" "[I", Cond.fieldLink RX4 9 "HornEngine$Rulebook" "heads" "[I", Cond.static yX5_contains, Cond.initialized RX5, Cond.code yX5_contains cX5_contains 2 (some .boolean), Cond.static yX5_isSubset, Cond.code yX5_isSubset cX5_isSubset 2 (some .boolean), Cond.methodLink RX4 54 yX4_modelWithout, Cond.instanceMethod yX4_modelWithout, Cond.selects RX4 yX4_modelWithout yX4_modelWithout, Cond.code yX4_modelWithout cX4_modelWithout 2 (some .int), Cond.methodLink RX5 58 yX5_fail, Cond.instanceMethod yX5_fail, Cond.selects RX5 yX5_fail yX5_fail, Cond.code yX5_fail cX5_fail 2 (some .int), Cond.fieldLink RX5 46 "HornEngine" "errorCounters" "[I", Cond.methodLink RX5 171 yX5_isErrorCode, Cond.static yX5_isErrorCode, Cond.code yX5_isErrorCode cX5_isErrorCode 1 (some .boolean)]
def wsX5_lost : List Cond := .code yX5_lost cX5_lost 2 (some .int) :: ((wsX5_lost_r1 ++ wsX5_lost_r2) ++ wsX50 ++ wsX40)
def wsX5_gained_r1 : List Cond := [Cond.fieldLink RX5 10 "HornEngine" "current" "LHornEngine$Rulebook;", Cond.methodLink RX5 50 yX5_isAtom, Cond.static yX5_isAtom, Cond.initialized RX5, Cond.code yX5_isAtom cX5_isAtom 1 (some .boolean), Cond.methodLink RX5 54 yX5_isAtomSet, Cond.static yX5_isAtomSet, Cond.code yX5_isAtomSet cX5_isAtomSet 2 (some .boolean), Cond.constant RX5 204 (65535), Cond.methodLink RX5 108 yJ6_bitCount_0f7a4, Cond.static yJ6_bitCount_0f7a4, Cond.initialized RJ6, Cond.code yJ6_bitCount_0f7a4 cJ6_bitCount_0f7a4 1 (some .int), Cond.constant RJ6 265 (1431655765), Cond.constant RJ6 266 (858993459), Cond.constant RJ6 267 (252645135), Cond.methodLink RX5 58 yX5_fail, Cond.instanceMethod yX5_fail, Cond.selects RX5 yX5_fail yX5_fail, Cond.code yX5_fail cX5_fail 2 (some .int), Cond.fieldLink RX5 46 "HornEngine" "errorCounters" "[I", Cond.methodLink RX5 171 yX5_isErrorCode, Cond.static yX5_isErrorCode, Cond.code yX5_isErrorCode cX5_isErrorCode 1 (some .boolean)]
def wsX5_gained_r2 : List Cond := [Cond.methodLink RX5 137 yX4_gainedWith, Cond.instanceMethod yX4_gainedWith, Cond.selects RX4 yX4_gainedWith yX4_gainedWith, Cond.initialized RX4, Cond.code yX4_gainedWith cX4_gainedWith 4 (some .int), Cond.methodLink RX4 48 yX4_leastModel, Cond.instanceMethod yX4_leastModel, Cond.selects RX4 yX4_leastModel yX4_leastModel, Cond.code yX4_leastModel cX4_leastModel 1 (some .int), Cond.methodLink RX4 33 yX4_everyRule, Cond.instanceMethod yX4_everyRule, Cond.selects RX4 yX4_everyRule yX4_everyRule, Cond.code yX4_everyRule cX4_everyRule 1 (some .int), Cond.fieldLink RX4 18 "HornEngine$Rulebook" "count" "I", Cond.methodLink RX4 37 yX4_closure, Cond.instanceMethod yX4_closure, Cond.selects RX4 yX4_closure yX4_closure, Cond.code yX4_closure cX4_closure 6 (some .int), Cond.methodLink RX4 41 yX4_afterOneRound, Cond.instanceMethod yX4_afterOneRound, Cond.selects RX4 yX4_afterOneRound yX4_afterOneRound, Cond.code yX4_afterOneRound cX4_afterOneRound 5 (some .int), Cond.fieldLink RX4 15 "HornEngine$Rulebook" "bodies" "[I", Cond.fieldLink RX4 9 "HornEngine$Rulebook" "heads" "[I"]
def wsX5_gained_r3 : List Cond := [Cond.static yX5_contains, Cond.code yX5_contains cX5_contains 2 (some .boolean), Cond.static yX5_isSubset, Cond.code yX5_isSubset cX5_isSubset 2 (some .boolean)]
def wsX5_gained : List Cond := .code yX5_gained cX5_gained 3 (some .int) :: ((wsX5_gained_r1 ++ (wsX5_gained_r2 ++ wsX5_gained_r3)) ++ wsX50 ++ wsX40)
def wsX5_setAssumable_r1 : List Cond := [Cond.fieldLink RX5 26 "HornEngine" "history" "LHornEngine$History;", Cond.fieldLink RX5 10 "HornEngine" "current" "LHornEngine$Rulebook;", Cond.methodLink RX5 54 yX5_isAtomSet, Cond.static yX5_isAtomSet, Cond.initialized RX5, Cond.code yX5_isAtomSet cX5_isAtomSet 2 (some .boolean), Cond.constant RX5 204 (65535), Cond.methodLink RX5 108 yJ6_bitCount_0f7a4, Cond.static yJ6_bitCount_0f7a4, Cond.initialized RJ6, Cond.code yJ6_bitCount_0f7a4 cJ6_bitCount_0f7a4 1 (some .int), Cond.constant RJ6 265 (1431655765), Cond.constant RJ6 266 (858993459), Cond.constant RJ6 267 (252645135), Cond.methodLink RX5 58 yX5_fail, Cond.instanceMethod yX5_fail, Cond.selects RX5 yX5_fail yX5_fail, Cond.code yX5_fail cX5_fail 2 (some .int), Cond.fieldLink RX5 46 "HornEngine" "errorCounters" "[I", Cond.methodLink RX5 171 yX5_isErrorCode, Cond.static yX5_isErrorCode, Cond.code yX5_isErrorCode cX5_isErrorCode 1 (some .boolean), Cond.methodLink RX5 66 yX0_save, Cond.instanceMethod yX0_save]
def wsX5_setAssumable_r2 : List Cond := [Cond.selects RX0 yX0_save yX0_save, Cond.initialized RX0, Cond.code yX0_save cX0_save 2 none, Cond.fieldLink RX0 18 "HornEngine$History" "count" "I", Cond.fieldLink RX0 11 "HornEngine$History" "saved" "[LHornEngine$Rulebook;", Cond.methodLink RX0 22 yX0_dropOldest, Cond.instanceMethod yX0_dropOldest, Cond.selects RX0 yX0_dropOldest yX0_dropOldest, Cond.code yX0_dropOldest cX0_dropOldest 3 none, Cond.methodLink RX0 25 yX4_copyFrom, Cond.instanceMethod yX4_copyFrom, Cond.selects RX4 yX4_copyFrom yX4_copyFrom, Cond.initialized RX4, Cond.code yX4_copyFrom cX4_copyFrom 3 none, Cond.fieldLink RX4 18 "HornEngine$Rulebook" "count" "I", Cond.fieldLink RX4 9 "HornEngine$Rulebook" "heads" "[I", Cond.fieldLink RX4 15 "HornEngine$Rulebook" "bodies" "[I", Cond.fieldLink RX4 26 "HornEngine$Rulebook" "assumable" "I", Cond.methodLink RX5 141 yX4_replaceAssumable, Cond.instanceMethod yX4_replaceAssumable, Cond.selects RX4 yX4_replaceAssumable yX4_replaceAssumable, Cond.code yX4_replaceAssumable cX4_replaceAssumable 3 (some .int)]
def wsX5_setAssumable : List Cond := .code yX5_setAssumable cX5_setAssumable 2 (some .int) :: ((wsX5_setAssumable_r1 ++ wsX5_setAssumable_r2) ++ wsX50 ++ wsX00 ++ wsX40)
def wsX5_explanation_r1 : List Cond := [Cond.fieldLink RX5 10 "HornEngine" "current" "LHornEngine$Rulebook;", Cond.methodLink RX5 50 yX5_isAtom, Cond.static yX5_isAtom, Cond.initialized RX5, Cond.code yX5_isAtom cX5_isAtom 1 (some .boolean), Cond.methodLink RX5 58 yX5_fail, Cond.instanceMethod yX5_fail, Cond.selects RX5 yX5_fail yX5_fail, Cond.code yX5_fail cX5_fail 2 (some .int), Cond.fieldLink RX5 46 "HornEngine" "errorCounters" "[I", Cond.methodLink RX5 171 yX5_isErrorCode, Cond.static yX5_isErrorCode, Cond.code yX5_isErrorCode cX5_isErrorCode 1 (some .boolean), Cond.methodLink RX5 144 yX4_bestExplanation, Cond.instanceMethod yX4_bestExplanation, Cond.selects RX4 yX4_bestExplanation yX4_bestExplanation, Cond.initialized RX4, Cond.code yX4_bestExplanation cX4_bestExplanation 8 (some .int), Cond.fieldLink RX4 26 "HornEngine$Rulebook" "assumable" "I", Cond.methodLink RX4 64 yJ6_bitCount_0f7a4, Cond.static yJ6_bitCount_0f7a4, Cond.initialized RJ6, Cond.code yJ6_bitCount_0f7a4 cJ6_bitCount_0f7a4 1 (some .int), Cond.constant RJ6 265 (1431655765)]
def wsX5_explanation_r2 : List Cond := [Cond.constant RJ6 266 (858993459), Cond.constant RJ6 267 (252645135), Cond.methodLink RX4 33 yX4_everyRule, Cond.instanceMethod yX4_everyRule, Cond.selects RX4 yX4_everyRule yX4_everyRule, Cond.code yX4_everyRule cX4_everyRule 1 (some .int), Cond.fieldLink RX4 18 "HornEngine$Rulebook" "count" "I", Cond.methodLink RX4 37 yX4_closure, Cond.instanceMethod yX4_closure, Cond.selects RX4 yX4_closure yX4_closure, Cond.code yX4_closure cX4_closure 6 (some .int), Cond.methodLink RX4 41 yX4_afterOneRound, Cond.instanceMethod yX4_afterOneRound, Cond.selects RX4 yX4_afterOneRound yX4_afterOneRound, Cond.code yX4_afterOneRound cX4_afterOneRound 5 (some .int), Cond.fieldLink RX4 15 "HornEngine$Rulebook" "bodies" "[I", Cond.fieldLink RX4 9 "HornEngine$Rulebook" "heads" "[I", Cond.static yX5_contains, Cond.code yX5_contains cX5_contains 2 (some .boolean), Cond.static yX5_isSubset, Cond.code yX5_isSubset cX5_isSubset 2 (some .boolean)]
def wsX5_explanation : List Cond := .code yX5_explanation cX5_explanation 3 (some .int) :: ((wsX5_explanation_r1 ++ wsX5_explanation_r2) ++ wsX50 ++ wsX40)
def wsX5_append_r1 : List Cond := [Cond.fieldLink RX5 35 "HornEngine" "text" "LHornEngine$Row;", Cond.methodLink RX5 58 yX5_fail, Cond.instanceMethod yX5_fail, Cond.selects RX5 yX5_fail yX5_fail, Cond.initialized RX5, Cond.code yX5_fail cX5_fail 2 (some .int), Cond.fieldLink RX5 46 "HornEngine" "errorCounters" "[I", Cond.methodLink RX5 171 yX5_isErrorCode, Cond.static yX5_isErrorCode, Cond.code yX5_isErrorCode cX5_isErrorCode 1 (some .boolean), Cond.methodLink RX5 147 yX2_isFull, Cond.instanceMethod yX2_isFull, Cond.selects RX2 yX2_isFull yX2_isFull, Cond.initialized RX2, Cond.code yX2_isFull cX2_isFull 1 (some .boolean), Cond.fieldLink RX2 15 "HornEngine$Row" "count" "I", Cond.fieldLink RX2 9 "HornEngine$Row" "items" "[I", Cond.methodLink RX5 148 yX2_addLast, Cond.instanceMethod yX2_addLast, Cond.selects RX2 yX2_addLast yX2_addLast, Cond.code yX2_addLast cX2_addLast 2 none, Cond.methodLink RX2 19 yX2_isFull, Cond.methodLink RX5 150 yX2_size, Cond.instanceMethod yX2_size]
def wsX5_append_r2 : List Cond := [Cond.selects RX2 yX2_size yX2_size, Cond.code yX2_size cX2_size 1 (some .int)]
def wsX5_append : List Cond := .code yX5_append cX5_append 2 (some .int) :: ((wsX5_append_r1 ++ wsX5_append_r2) ++ wsX50 ++ wsX20)
def wsX5_clearText : List Cond := .code yX5_clearText cX5_clearText 2 (some .int) :: ([.fieldLink RX5 35 "HornEngine" "text" "LHornEngine$Row;", .methodLink RX5 150 yX2_size, .instanceMethod yX2_size, .selects RX2 yX2_size yX2_size, .initialized RX2, .code yX2_size cX2_size 1 (some .int), .fieldLink RX2 15 "HornEngine$Row" "count" "I", .methodLink RX5 151 yX2_empty, .instanceMethod yX2_empty, .selects RX2 yX2_empty yX2_empty, .code yX2_empty cX2_empty 1 none] ++ wsX50 ++ wsX20)
def wsX5_parse_r1 : List Cond := [Cond.fieldLink RX5 42 "HornEngine" "reader" "LHornEngine$RuleReader;", Cond.fieldLink RX5 10 "HornEngine" "current" "LHornEngine$Rulebook;", Cond.fieldLink RX5 35 "HornEngine" "text" "LHornEngine$Row;", Cond.fieldLink RX5 26 "HornEngine" "history" "LHornEngine$History;", Cond.methodLink RX5 154 yX3_readOnto, Cond.instanceMethod yX3_readOnto, Cond.selects RX3 yX3_readOnto yX3_readOnto, Cond.initialized RX3, Cond.code yX3_readOnto cX3_readOnto 4 (some .boolean), Cond.fieldLink RX3 12 "HornEngine$RuleReader" "draft" "LHornEngine$Rulebook;", Cond.fieldLink RX3 26 "HornEngine$RuleReader" "position" "I", Cond.methodLink RX3 22 yX4_copyFrom, Cond.instanceMethod yX4_copyFrom, Cond.selects RX4 yX4_copyFrom yX4_copyFrom, Cond.initialized RX4, Cond.code yX4_copyFrom cX4_copyFrom 3 none, Cond.fieldLink RX4 18 "HornEngine$Rulebook" "count" "I", Cond.fieldLink RX4 9 "HornEngine$Rulebook" "heads" "[I", Cond.fieldLink RX4 15 "HornEngine$Rulebook" "bodies" "[I", Cond.fieldLink RX4 26 "HornEngine$Rulebook" "assumable" "I", Cond.methodLink RX3 29 yX3_skipSpaces, Cond.instanceMethod yX3_skipSpaces, Cond.selects RX3 yX3_skipSpaces yX3_skipSpaces, Cond.code yX3_skipSpaces cX3_skipSpaces 2 none]
def wsX5_parse_r2 : List Cond := [Cond.methodLink RX3 33 yX2_size, Cond.instanceMethod yX2_size, Cond.selects RX2 yX2_size yX2_size, Cond.initialized RX2, Cond.code yX2_size cX2_size 1 (some .int), Cond.fieldLink RX2 15 "HornEngine$Row" "count" "I", Cond.methodLink RX3 66 yX2_itemAt, Cond.instanceMethod yX2_itemAt, Cond.selects RX2 yX2_itemAt yX2_itemAt, Cond.code yX2_itemAt cX2_itemAt 2 (some .int), Cond.fieldLink RX2 9 "HornEngine$Row" "items" "[I", Cond.methodLink RX3 39 yX3_readRule, Cond.instanceMethod yX3_readRule, Cond.selects RX3 yX3_readRule yX3_readRule, Cond.code yX3_readRule cX3_readRule 4 (some .boolean), Cond.methodLink RX3 43 yX4_isFull, Cond.instanceMethod yX4_isFull, Cond.selects RX4 yX4_isFull yX4_isFull, Cond.code yX4_isFull cX4_isFull 1 (some .boolean), Cond.methodLink RX3 47 yX3_refuse, Cond.instanceMethod yX3_refuse, Cond.selects RX3 yX3_refuse yX3_refuse, Cond.code yX3_refuse cX3_refuse 2 (some .int), Cond.fieldLink RX3 18 "HornEngine$RuleReader" "errorPosition" "I"]
def wsX5_parse_r3 : List Cond := [Cond.methodLink RX3 51 yX3_readAtom, Cond.instanceMethod yX3_readAtom, Cond.selects RX3 yX3_readAtom yX3_readAtom, Cond.code yX3_readAtom cX3_readAtom 4 (some .int), Cond.methodLink RX3 73 yX3_isDigit, Cond.static yX3_isDigit, Cond.code yX3_isDigit cX3_isDigit 1 (some .boolean), Cond.static yX5_isAtom, Cond.initialized RX5, Cond.code yX5_isAtom cX5_isAtom 1 (some .boolean), Cond.methodLink RX3 55 yX3_take, Cond.instanceMethod yX3_take, Cond.selects RX3 yX3_take yX3_take, Cond.code yX3_take cX3_take 3 (some .boolean), Cond.methodLink RX3 59 yX3_readBody, Cond.instanceMethod yX3_readBody, Cond.selects RX3 yX3_readBody yX3_readBody, Cond.code yX3_readBody cX3_readBody 6 (some .int), Cond.static yX5_contains, Cond.code yX5_contains cX5_contains 2 (some .boolean), Cond.methodLink RX3 62 yX4_addLast, Cond.instanceMethod yX4_addLast, Cond.selects RX4 yX4_addLast yX4_addLast, Cond.code yX4_addLast cX4_addLast 3 none]
def wsX5_parse_r4 : List Cond := [Cond.methodLink RX4 29 yX4_isFull, Cond.methodLink RX5 158 yX3_errorAt, Cond.instanceMethod yX3_errorAt, Cond.selects RX3 yX3_errorAt yX3_errorAt, Cond.code yX3_errorAt cX3_errorAt 1 (some .int), Cond.methodLink RX5 74 yX4_size, Cond.instanceMethod yX4_size, Cond.selects RX4 yX4_size yX4_size, Cond.code yX4_size cX4_size 1 (some .int), Cond.methodLink RX5 66 yX0_save, Cond.instanceMethod yX0_save, Cond.selects RX0 yX0_save yX0_save, Cond.initialized RX0, Cond.code yX0_save cX0_save 2 none, Cond.fieldLink RX0 18 "HornEngine$History" "count" "I", Cond.fieldLink RX0 11 "HornEngine$History" "saved" "[LHornEngine$Rulebook;", Cond.methodLink RX0 22 yX0_dropOldest, Cond.instanceMethod yX0_dropOldest, Cond.selects RX0 yX0_dropOldest yX0_dropOldest, Cond.code yX0_dropOldest cX0_dropOldest 3 none, Cond.methodLink RX0 25 yX4_copyFrom, Cond.methodLink RX5 161 yX3_copyResultTo, Cond.instanceMethod yX3_copyResultTo, Cond.selects RX3 yX3_copyResultTo yX3_copyResultTo]
def wsX5_parse_r5 : List Cond := [Cond.code yX3_copyResultTo cX3_copyResultTo 2 none]
def wsX5_parse : List Cond := .code yX5_parse cX5_parse 2 (some .int) :: ((wsX5_parse_r1 ++ (wsX5_parse_r2 ++ (wsX5_parse_r3 ++ (wsX5_parse_r4 ++ wsX5_parse_r5)))) ++ wsX50 ++ wsX30 ++ wsX40 ++ wsX20 ++ wsX00)
def wsX5_undo_r1 : List Cond := [Cond.fieldLink RX5 26 "HornEngine" "history" "LHornEngine$History;", Cond.fieldLink RX5 10 "HornEngine" "current" "LHornEngine$Rulebook;", Cond.methodLink RX5 164 yX0_isEmpty, Cond.instanceMethod yX0_isEmpty, Cond.selects RX0 yX0_isEmpty yX0_isEmpty, Cond.initialized RX0, Cond.code yX0_isEmpty cX0_isEmpty 1 (some .boolean), Cond.fieldLink RX0 18 "HornEngine$History" "count" "I", Cond.methodLink RX5 58 yX5_fail, Cond.instanceMethod yX5_fail, Cond.selects RX5 yX5_fail yX5_fail, Cond.initialized RX5, Cond.code yX5_fail cX5_fail 2 (some .int), Cond.fieldLink RX5 46 "HornEngine" "errorCounters" "[I", Cond.methodLink RX5 171 yX5_isErrorCode, Cond.static yX5_isErrorCode, Cond.code yX5_isErrorCode cX5_isErrorCode 1 (some .boolean), Cond.methodLink RX5 167 yX0_restore, Cond.instanceMethod yX0_restore, Cond.selects RX0 yX0_restore yX0_restore, Cond.code yX0_restore cX0_restore 2 none, Cond.fieldLink RX0 11 "HornEngine$History" "saved" "[LHornEngine$Rulebook;", Cond.methodLink RX0 29 yX0_isEmpty, Cond.methodLink RX0 25 yX4_copyFrom]
def wsX5_undo_r2 : List Cond := [Cond.instanceMethod yX4_copyFrom, Cond.selects RX4 yX4_copyFrom yX4_copyFrom, Cond.initialized RX4, Cond.code yX4_copyFrom cX4_copyFrom 3 none, Cond.fieldLink RX4 18 "HornEngine$Rulebook" "count" "I", Cond.fieldLink RX4 9 "HornEngine$Rulebook" "heads" "[I", Cond.fieldLink RX4 15 "HornEngine$Rulebook" "bodies" "[I", Cond.fieldLink RX4 26 "HornEngine$Rulebook" "assumable" "I", Cond.methodLink RX5 170 yX0_size, Cond.instanceMethod yX0_size, Cond.selects RX0 yX0_size yX0_size, Cond.code yX0_size cX0_size 1 (some .int)]
def wsX5_undo : List Cond := .code yX5_undo cX5_undo 1 (some .int) :: ((wsX5_undo_r1 ++ wsX5_undo_r2) ++ wsX50 ++ wsX00 ++ wsX40)
def wsX5_errorCount : List Cond := .code yX5_errorCount cX5_errorCount 2 (some .int) :: ([.fieldLink RX5 46 "HornEngine" "errorCounters" "[I", .methodLink RX5 171 yX5_isErrorCode, .static yX5_isErrorCode, .initialized RX5, .code yX5_isErrorCode cX5_isErrorCode 1 (some .boolean), .methodLink RX5 58 yX5_fail, .instanceMethod yX5_fail, .selects RX5 yX5_fail yX5_fail, .code yX5_fail cX5_fail 2 (some .int)] ++ wsX50)
def wsX5_mix : List Cond := .code yX5_mix cX5_mix 3 (some .long) :: ([.constantLong RX5 202 (31)])
def wsX5_mixRules_r1 : List Cond := [Cond.fieldLink RX5 10 "HornEngine" "current" "LHornEngine$Rulebook;", Cond.methodLink RX5 74 yX4_size, Cond.instanceMethod yX4_size, Cond.selects RX4 yX4_size yX4_size, Cond.initialized RX4, Cond.code yX4_size cX4_size 1 (some .int), Cond.fieldLink RX4 18 "HornEngine$Rulebook" "count" "I", Cond.methodLink RX5 176 yX5_mix, Cond.static yX5_mix, Cond.initialized RX5, Cond.code yX5_mix cX5_mix 3 (some .long), Cond.constantLong RX5 202 (31), Cond.methodLink RX5 84 yX4_headOf, Cond.instanceMethod yX4_headOf, Cond.selects RX4 yX4_headOf yX4_headOf, Cond.code yX4_headOf cX4_headOf 2 (some .int), Cond.fieldLink RX4 9 "HornEngine$Rulebook" "heads" "[I", Cond.methodLink RX4 22 yX4_hasRule, Cond.instanceMethod yX4_hasRule, Cond.selects RX4 yX4_hasRule yX4_hasRule, Cond.code yX4_hasRule cX4_hasRule 2 (some .boolean), Cond.methodLink RX5 87 yX4_bodyOf, Cond.instanceMethod yX4_bodyOf, Cond.selects RX4 yX4_bodyOf yX4_bodyOf]
def wsX5_mixRules_r2 : List Cond := [Cond.code yX4_bodyOf cX4_bodyOf 2 (some .int), Cond.fieldLink RX4 15 "HornEngine$Rulebook" "bodies" "[I", Cond.methodLink RX5 131 yX4_overDeletedBy, Cond.instanceMethod yX4_overDeletedBy, Cond.selects RX4 yX4_overDeletedBy yX4_overDeletedBy, Cond.code yX4_overDeletedBy cX4_overDeletedBy 6 (some .int), Cond.methodLink RX4 48 yX4_leastModel, Cond.instanceMethod yX4_leastModel, Cond.selects RX4 yX4_leastModel yX4_leastModel, Cond.code yX4_leastModel cX4_leastModel 1 (some .int), Cond.methodLink RX4 33 yX4_everyRule, Cond.instanceMethod yX4_everyRule, Cond.selects RX4 yX4_everyRule yX4_everyRule, Cond.code yX4_everyRule cX4_everyRule 1 (some .int), Cond.methodLink RX4 37 yX4_closure, Cond.instanceMethod yX4_closure, Cond.selects RX4 yX4_closure yX4_closure, Cond.code yX4_closure cX4_closure 6 (some .int), Cond.methodLink RX4 41 yX4_afterOneRound, Cond.instanceMethod yX4_afterOneRound, Cond.selects RX4 yX4_afterOneRound yX4_afterOneRound, Cond.code yX4_afterOneRound cX4_afterOneRound 5 (some .int), Cond.static yX5_contains, Cond.code yX5_contains cX5_contains 2 (some .boolean)]
def wsX5_mixRules_r3 : List Cond := [Cond.static yX5_isSubset, Cond.code yX5_isSubset cX5_isSubset 2 (some .boolean), Cond.methodLink RX5 134 yX4_lostWithout, Cond.instanceMethod yX4_lostWithout, Cond.selects RX4 yX4_lostWithout yX4_lostWithout, Cond.code yX4_lostWithout cX4_lostWithout 2 (some .int), Cond.methodLink RX4 54 yX4_modelWithout, Cond.instanceMethod yX4_modelWithout, Cond.selects RX4 yX4_modelWithout yX4_modelWithout, Cond.code yX4_modelWithout cX4_modelWithout 2 (some .int)]
def wsX5_mixRules : List Cond := .code yX5_mixRules cX5_mixRules 6 (some .long) :: ((wsX5_mixRules_r1 ++ (wsX5_mixRules_r2 ++ wsX5_mixRules_r3)) ++ wsX50 ++ wsX40)
def wsX5_mixPropagation_r1 : List Cond := [Cond.fieldLink RX5 19 "HornEngine" "propagation" "LHornEngine$Propagation;", Cond.fieldLink RX5 10 "HornEngine" "current" "LHornEngine$Rulebook;", Cond.methodLink RX5 93 yX1_run, Cond.instanceMethod yX1_run, Cond.selects RX1 yX1_run yX1_run, Cond.initialized RX1, Cond.code yX1_run cX1_run 3 none, Cond.fieldLink RX1 14 "HornEngine$Propagation" "queue" "LHornEngine$Row;", Cond.fieldLink RX1 20 "HornEngine$Propagation" "firedRules" "LHornEngine$Row;", Cond.fieldLink RX1 38 "HornEngine$Propagation" "queuedAtoms" "I", Cond.methodLink RX1 35 yX2_empty, Cond.instanceMethod yX2_empty, Cond.selects RX2 yX2_empty yX2_empty, Cond.initialized RX2, Cond.code yX2_empty cX2_empty 1 none, Cond.fieldLink RX2 15 "HornEngine$Row" "count" "I", Cond.methodLink RX1 42 yX1_fireFacts, Cond.instanceMethod yX1_fireFacts, Cond.selects RX1 yX1_fireFacts yX1_fireFacts, Cond.code yX1_fireFacts cX1_fireFacts 3 none, Cond.fieldLink RX1 23 "HornEngine$Propagation" "counters" "[I", Cond.methodLink RX1 50 yX4_size, Cond.instanceMethod yX4_size, Cond.selects RX4 yX4_size yX4_size]
def wsX5_mixPropagation_r2 : List Cond := [Cond.initialized RX4, Cond.code yX4_size cX4_size 1 (some .int), Cond.fieldLink RX4 18 "HornEngine$Rulebook" "count" "I", Cond.methodLink RX1 53 yX4_bodyOf, Cond.instanceMethod yX4_bodyOf, Cond.selects RX4 yX4_bodyOf yX4_bodyOf, Cond.code yX4_bodyOf cX4_bodyOf 2 (some .int), Cond.fieldLink RX4 15 "HornEngine$Rulebook" "bodies" "[I", Cond.methodLink RX4 22 yX4_hasRule, Cond.instanceMethod yX4_hasRule, Cond.selects RX4 yX4_hasRule yX4_hasRule, Cond.code yX4_hasRule cX4_hasRule 2 (some .boolean), Cond.methodLink RX1 56 yJ6_bitCount_0f7a4, Cond.static yJ6_bitCount_0f7a4, Cond.initialized RJ6, Cond.code yJ6_bitCount_0f7a4 cJ6_bitCount_0f7a4 1 (some .int), Cond.constant RJ6 265 (1431655765), Cond.constant RJ6 266 (858993459), Cond.constant RJ6 267 (252645135), Cond.methodLink RX1 61 yX1_fire, Cond.instanceMethod yX1_fire, Cond.selects RX1 yX1_fire yX1_fire, Cond.code yX1_fire cX1_fire 4 none, Cond.methodLink RX1 68 yX4_headOf]
def wsX5_mixPropagation_r3 : List Cond := [Cond.instanceMethod yX4_headOf, Cond.selects RX4 yX4_headOf yX4_headOf, Cond.code yX4_headOf cX4_headOf 2 (some .int), Cond.fieldLink RX4 9 "HornEngine$Rulebook" "heads" "[I", Cond.methodLink RX1 71 yX2_addLast, Cond.instanceMethod yX2_addLast, Cond.selects RX2 yX2_addLast yX2_addLast, Cond.code yX2_addLast cX2_addLast 2 none, Cond.fieldLink RX2 9 "HornEngine$Row" "items" "[I", Cond.methodLink RX2 19 yX2_isFull, Cond.instanceMethod yX2_isFull, Cond.selects RX2 yX2_isFull yX2_isFull, Cond.code yX2_isFull cX2_isFull 1 (some .boolean), Cond.static yX5_contains, Cond.initialized RX5, Cond.code yX5_contains cX5_contains 2 (some .boolean), Cond.methodLink RX1 27 yX2_size, Cond.instanceMethod yX2_size, Cond.selects RX2 yX2_size yX2_size, Cond.code yX2_size cX2_size 1 (some .int), Cond.methodLink RX1 31 yX2_itemAt, Cond.instanceMethod yX2_itemAt, Cond.selects RX2 yX2_itemAt yX2_itemAt, Cond.code yX2_itemAt cX2_itemAt 2 (some .int)]
def wsX5_mixPropagation_r4 : List Cond := [Cond.methodLink RX1 46 yX1_countDown, Cond.instanceMethod yX1_countDown, Cond.selects RX1 yX1_countDown yX1_countDown, Cond.code yX1_countDown cX1_countDown 4 none, Cond.methodLink RX5 90 yX4_leastModel, Cond.instanceMethod yX4_leastModel, Cond.selects RX4 yX4_leastModel yX4_leastModel, Cond.code yX4_leastModel cX4_leastModel 1 (some .int), Cond.methodLink RX4 33 yX4_everyRule, Cond.instanceMethod yX4_everyRule, Cond.selects RX4 yX4_everyRule yX4_everyRule, Cond.code yX4_everyRule cX4_everyRule 1 (some .int), Cond.methodLink RX4 37 yX4_closure, Cond.instanceMethod yX4_closure, Cond.selects RX4 yX4_closure yX4_closure, Cond.code yX4_closure cX4_closure 6 (some .int), Cond.methodLink RX4 41 yX4_afterOneRound, Cond.instanceMethod yX4_afterOneRound, Cond.selects RX4 yX4_afterOneRound yX4_afterOneRound, Cond.code yX4_afterOneRound cX4_afterOneRound 5 (some .int), Cond.static yX5_isSubset, Cond.code yX5_isSubset cX5_isSubset 2 (some .boolean), Cond.methodLink RX5 176 yX5_mix, Cond.static yX5_mix]
def wsX5_mixPropagation_r5 : List Cond := [Cond.code yX5_mix cX5_mix 3 (some .long), Cond.constantLong RX5 202 (31), Cond.methodLink RX5 193 yX1_atomCount, Cond.instanceMethod yX1_atomCount, Cond.selects RX1 yX1_atomCount yX1_atomCount, Cond.code yX1_atomCount cX1_atomCount 1 (some .int), Cond.methodLink RX5 96 yX1_atomAt, Cond.instanceMethod yX1_atomAt, Cond.selects RX1 yX1_atomAt yX1_atomAt, Cond.code yX1_atomAt cX1_atomAt 2 (some .int), Cond.methodLink RX5 196 yX1_ruleCount, Cond.instanceMethod yX1_ruleCount, Cond.selects RX1 yX1_ruleCount yX1_ruleCount, Cond.code yX1_ruleCount cX1_ruleCount 1 (some .int), Cond.methodLink RX5 99 yX1_ruleAt, Cond.instanceMethod yX1_ruleAt, Cond.selects RX1 yX1_ruleAt yX1_ruleAt, Cond.code yX1_ruleAt cX1_ruleAt 2 (some .int)]
def wsX5_mixPropagation : List Cond := .code yX5_mixPropagation cX5_mixPropagation 6 (some .long) :: ((wsX5_mixPropagation_r1 ++ (wsX5_mixPropagation_r2 ++ (wsX5_mixPropagation_r3 ++ (wsX5_mixPropagation_r4 ++ wsX5_mixPropagation_r5)))) ++ wsX50 ++ wsX10 ++ wsX20 ++ wsX40)
def wsX5_mixAtoms_r1 : List Cond := [Cond.fieldLink RX5 10 "HornEngine" "current" "LHornEngine$Rulebook;", Cond.methodLink RX5 90 yX4_leastModel, Cond.instanceMethod yX4_leastModel, Cond.selects RX4 yX4_leastModel yX4_leastModel, Cond.initialized RX4, Cond.code yX4_leastModel cX4_leastModel 1 (some .int), Cond.methodLink RX4 33 yX4_everyRule, Cond.instanceMethod yX4_everyRule, Cond.selects RX4 yX4_everyRule yX4_everyRule, Cond.code yX4_everyRule cX4_everyRule 1 (some .int), Cond.fieldLink RX4 18 "HornEngine$Rulebook" "count" "I", Cond.methodLink RX4 37 yX4_closure, Cond.instanceMethod yX4_closure, Cond.selects RX4 yX4_closure yX4_closure, Cond.code yX4_closure cX4_closure 6 (some .int), Cond.methodLink RX4 41 yX4_afterOneRound, Cond.instanceMethod yX4_afterOneRound, Cond.selects RX4 yX4_afterOneRound yX4_afterOneRound, Cond.code yX4_afterOneRound cX4_afterOneRound 5 (some .int), Cond.fieldLink RX4 15 "HornEngine$Rulebook" "bodies" "[I", Cond.fieldLink RX4 9 "HornEngine$Rulebook" "heads" "[I", Cond.static yX5_contains, Cond.initialized RX5, Cond.code yX5_contains cX5_contains 2 (some .boolean)]
def wsX5_mixAtoms_r2 : List Cond := [Cond.static yX5_isSubset, Cond.code yX5_isSubset cX5_isSubset 2 (some .boolean), Cond.methodLink RX5 199 yX5_contains, Cond.methodLink RX5 105 yX4_levelOf, Cond.instanceMethod yX4_levelOf, Cond.selects RX4 yX4_levelOf yX4_levelOf, Cond.code yX4_levelOf cX4_levelOf 4 (some .int), Cond.methodLink RX5 176 yX5_mix, Cond.static yX5_mix, Cond.code yX5_mix cX5_mix 3 (some .long), Cond.constantLong RX5 202 (31), Cond.methodLink RX5 119 yX4_reasonFor, Cond.instanceMethod yX4_reasonFor, Cond.selects RX4 yX4_reasonFor yX4_reasonFor, Cond.code yX4_reasonFor cX4_reasonFor 5 (some .int), Cond.methodLink RX5 122 yX4_necessaryFor, Cond.instanceMethod yX4_necessaryFor, Cond.selects RX4 yX4_necessaryFor yX4_necessaryFor, Cond.code yX4_necessaryFor cX4_necessaryFor 4 (some .int), Cond.methodLink RX4 54 yX4_modelWithout, Cond.instanceMethod yX4_modelWithout, Cond.selects RX4 yX4_modelWithout yX4_modelWithout, Cond.code yX4_modelWithout cX4_modelWithout 2 (some .int)]
def wsX5_mixAtoms : List Cond := .code yX5_mixAtoms cX5_mixAtoms 7 (some .long) :: ((wsX5_mixAtoms_r1 ++ wsX5_mixAtoms_r2) ++ wsX50 ++ wsX40)
def wsX5_digest_r1 : List Cond := [Cond.constantLong RX5 174 (2719), Cond.fieldLink RX5 46 "HornEngine" "errorCounters" "[I", Cond.fieldLink RX5 35 "HornEngine" "text" "LHornEngine$Row;", Cond.fieldLink RX5 10 "HornEngine" "current" "LHornEngine$Rulebook;", Cond.fieldLink RX5 26 "HornEngine" "history" "LHornEngine$History;", Cond.methodLink RX5 176 yX5_mix, Cond.static yX5_mix, Cond.initialized RX5, Cond.code yX5_mix cX5_mix 3 (some .long), Cond.constantLong RX5 202 (31), Cond.methodLink RX5 150 yX2_size, Cond.instanceMethod yX2_size, Cond.selects RX2 yX2_size yX2_size, Cond.initialized RX2, Cond.code yX2_size cX2_size 1 (some .int), Cond.fieldLink RX2 15 "HornEngine$Row" "count" "I", Cond.methodLink RX5 180 yX4_assumableAtoms, Cond.instanceMethod yX4_assumableAtoms, Cond.selects RX4 yX4_assumableAtoms yX4_assumableAtoms, Cond.initialized RX4, Cond.code yX4_assumableAtoms cX4_assumableAtoms 1 (some .int), Cond.fieldLink RX4 26 "HornEngine$Rulebook" "assumable" "I", Cond.methodLink RX5 183 yX5_mixRules, Cond.instanceMethod yX5_mixRules]
def wsX5_digest_r2 : List Cond := [Cond.selects RX5 yX5_mixRules yX5_mixRules, Cond.code yX5_mixRules cX5_mixRules 6 (some .long), Cond.methodLink RX5 74 yX4_size, Cond.instanceMethod yX4_size, Cond.selects RX4 yX4_size yX4_size, Cond.code yX4_size cX4_size 1 (some .int), Cond.fieldLink RX4 18 "HornEngine$Rulebook" "count" "I", Cond.methodLink RX5 84 yX4_headOf, Cond.instanceMethod yX4_headOf, Cond.selects RX4 yX4_headOf yX4_headOf, Cond.code yX4_headOf cX4_headOf 2 (some .int), Cond.fieldLink RX4 9 "HornEngine$Rulebook" "heads" "[I", Cond.methodLink RX4 22 yX4_hasRule, Cond.instanceMethod yX4_hasRule, Cond.selects RX4 yX4_hasRule yX4_hasRule, Cond.code yX4_hasRule cX4_hasRule 2 (some .boolean), Cond.methodLink RX5 87 yX4_bodyOf, Cond.instanceMethod yX4_bodyOf, Cond.selects RX4 yX4_bodyOf yX4_bodyOf, Cond.code yX4_bodyOf cX4_bodyOf 2 (some .int), Cond.fieldLink RX4 15 "HornEngine$Rulebook" "bodies" "[I", Cond.methodLink RX5 131 yX4_overDeletedBy, Cond.instanceMethod yX4_overDeletedBy, Cond.selects RX4 yX4_overDeletedBy yX4_overDeletedBy]
def wsX5_digest_r3 : List Cond := [Cond.code yX4_overDeletedBy cX4_overDeletedBy 6 (some .int), Cond.methodLink RX4 48 yX4_leastModel, Cond.instanceMethod yX4_leastModel, Cond.selects RX4 yX4_leastModel yX4_leastModel, Cond.code yX4_leastModel cX4_leastModel 1 (some .int), Cond.methodLink RX4 33 yX4_everyRule, Cond.instanceMethod yX4_everyRule, Cond.selects RX4 yX4_everyRule yX4_everyRule, Cond.code yX4_everyRule cX4_everyRule 1 (some .int), Cond.methodLink RX4 37 yX4_closure, Cond.instanceMethod yX4_closure, Cond.selects RX4 yX4_closure yX4_closure, Cond.code yX4_closure cX4_closure 6 (some .int), Cond.methodLink RX4 41 yX4_afterOneRound, Cond.instanceMethod yX4_afterOneRound, Cond.selects RX4 yX4_afterOneRound yX4_afterOneRound, Cond.code yX4_afterOneRound cX4_afterOneRound 5 (some .int), Cond.static yX5_contains, Cond.code yX5_contains cX5_contains 2 (some .boolean), Cond.static yX5_isSubset, Cond.code yX5_isSubset cX5_isSubset 2 (some .boolean), Cond.methodLink RX5 134 yX4_lostWithout, Cond.instanceMethod yX4_lostWithout, Cond.selects RX4 yX4_lostWithout yX4_lostWithout]
def wsX5_digest_r4 : List Cond := [Cond.code yX4_lostWithout cX4_lostWithout 2 (some .int), Cond.methodLink RX4 54 yX4_modelWithout, Cond.instanceMethod yX4_modelWithout, Cond.selects RX4 yX4_modelWithout yX4_modelWithout, Cond.code yX4_modelWithout cX4_modelWithout 2 (some .int), Cond.methodLink RX5 187 yX5_mixPropagation, Cond.instanceMethod yX5_mixPropagation, Cond.selects RX5 yX5_mixPropagation yX5_mixPropagation, Cond.code yX5_mixPropagation cX5_mixPropagation 6 (some .long), Cond.fieldLink RX5 19 "HornEngine" "propagation" "LHornEngine$Propagation;", Cond.methodLink RX5 93 yX1_run, Cond.instanceMethod yX1_run, Cond.selects RX1 yX1_run yX1_run, Cond.initialized RX1, Cond.code yX1_run cX1_run 3 none, Cond.fieldLink RX1 14 "HornEngine$Propagation" "queue" "LHornEngine$Row;", Cond.fieldLink RX1 20 "HornEngine$Propagation" "firedRules" "LHornEngine$Row;", Cond.fieldLink RX1 38 "HornEngine$Propagation" "queuedAtoms" "I", Cond.methodLink RX1 35 yX2_empty, Cond.instanceMethod yX2_empty, Cond.selects RX2 yX2_empty yX2_empty, Cond.code yX2_empty cX2_empty 1 none, Cond.methodLink RX1 42 yX1_fireFacts, Cond.instanceMethod yX1_fireFacts]
def wsX5_digest_r5 : List Cond := [Cond.selects RX1 yX1_fireFacts yX1_fireFacts, Cond.code yX1_fireFacts cX1_fireFacts 3 none, Cond.fieldLink RX1 23 "HornEngine$Propagation" "counters" "[I", Cond.methodLink RX1 50 yX4_size, Cond.methodLink RX1 53 yX4_bodyOf, Cond.methodLink RX1 56 yJ6_bitCount_0f7a4, Cond.static yJ6_bitCount_0f7a4, Cond.initialized RJ6, Cond.code yJ6_bitCount_0f7a4 cJ6_bitCount_0f7a4 1 (some .int), Cond.constant RJ6 265 (1431655765), Cond.constant RJ6 266 (858993459), Cond.constant RJ6 267 (252645135), Cond.methodLink RX1 61 yX1_fire, Cond.instanceMethod yX1_fire, Cond.selects RX1 yX1_fire yX1_fire, Cond.code yX1_fire cX1_fire 4 none, Cond.methodLink RX1 68 yX4_headOf, Cond.methodLink RX1 71 yX2_addLast, Cond.instanceMethod yX2_addLast, Cond.selects RX2 yX2_addLast yX2_addLast, Cond.code yX2_addLast cX2_addLast 2 none, Cond.fieldLink RX2 9 "HornEngine$Row" "items" "[I", Cond.methodLink RX2 19 yX2_isFull, Cond.instanceMethod yX2_isFull]
def wsX5_digest_r6 : List Cond := [Cond.selects RX2 yX2_isFull yX2_isFull, Cond.code yX2_isFull cX2_isFull 1 (some .boolean), Cond.methodLink RX1 27 yX2_size, Cond.methodLink RX1 31 yX2_itemAt, Cond.instanceMethod yX2_itemAt, Cond.selects RX2 yX2_itemAt yX2_itemAt, Cond.code yX2_itemAt cX2_itemAt 2 (some .int), Cond.methodLink RX1 46 yX1_countDown, Cond.instanceMethod yX1_countDown, Cond.selects RX1 yX1_countDown yX1_countDown, Cond.code yX1_countDown cX1_countDown 4 none, Cond.methodLink RX5 90 yX4_leastModel, Cond.methodLink RX5 193 yX1_atomCount, Cond.instanceMethod yX1_atomCount, Cond.selects RX1 yX1_atomCount yX1_atomCount, Cond.code yX1_atomCount cX1_atomCount 1 (some .int), Cond.methodLink RX5 96 yX1_atomAt, Cond.instanceMethod yX1_atomAt, Cond.selects RX1 yX1_atomAt yX1_atomAt, Cond.code yX1_atomAt cX1_atomAt 2 (some .int), Cond.methodLink RX5 196 yX1_ruleCount, Cond.instanceMethod yX1_ruleCount, Cond.selects RX1 yX1_ruleCount yX1_ruleCount, Cond.code yX1_ruleCount cX1_ruleCount 1 (some .int)]
def wsX5_digest_r7 : List Cond := [Cond.methodLink RX5 99 yX1_ruleAt, Cond.instanceMethod yX1_ruleAt, Cond.selects RX1 yX1_ruleAt yX1_ruleAt, Cond.code yX1_ruleAt cX1_ruleAt 2 (some .int), Cond.methodLink RX5 190 yX5_mixAtoms, Cond.instanceMethod yX5_mixAtoms, Cond.selects RX5 yX5_mixAtoms yX5_mixAtoms, Cond.code yX5_mixAtoms cX5_mixAtoms 7 (some .long), Cond.methodLink RX5 199 yX5_contains, Cond.methodLink RX5 105 yX4_levelOf, Cond.instanceMethod yX4_levelOf, Cond.selects RX4 yX4_levelOf yX4_levelOf, Cond.code yX4_levelOf cX4_levelOf 4 (some .int), Cond.methodLink RX5 119 yX4_reasonFor, Cond.instanceMethod yX4_reasonFor, Cond.selects RX4 yX4_reasonFor yX4_reasonFor, Cond.code yX4_reasonFor cX4_reasonFor 5 (some .int), Cond.methodLink RX5 122 yX4_necessaryFor, Cond.instanceMethod yX4_necessaryFor, Cond.selects RX4 yX4_necessaryFor yX4_necessaryFor, Cond.code yX4_necessaryFor cX4_necessaryFor 4 (some .int), Cond.methodLink RX5 128 yX4_atomsOnCycles, Cond.instanceMethod yX4_atomsOnCycles, Cond.selects RX4 yX4_atomsOnCycles yX4_atomsOnCycles]
def wsX5_digest_r8 : List Cond := [Cond.code yX4_atomsOnCycles cX4_atomsOnCycles 3 (some .int), Cond.methodLink RX4 61 yX4_dependenciesOf, Cond.instanceMethod yX4_dependenciesOf, Cond.selects RX4 yX4_dependenciesOf yX4_dependenciesOf, Cond.code yX4_dependenciesOf cX4_dependenciesOf 4 (some .int), Cond.methodLink RX4 58 yX4_bodiesUnder, Cond.instanceMethod yX4_bodiesUnder, Cond.selects RX4 yX4_bodiesUnder yX4_bodiesUnder, Cond.code yX4_bodiesUnder cX4_bodiesUnder 4 (some .int), Cond.methodLink RX5 170 yX0_size, Cond.instanceMethod yX0_size, Cond.selects RX0 yX0_size yX0_size, Cond.initialized RX0, Cond.code yX0_size cX0_size 1 (some .int), Cond.fieldLink RX0 18 "HornEngine$History" "count" "I"]
def wsX5_digest : List Cond := .code yX5_digest cX5_digest 4 (some .long) :: ((wsX5_digest_r1 ++ (wsX5_digest_r2 ++ (wsX5_digest_r3 ++ (wsX5_digest_r4 ++ (wsX5_digest_r5 ++ (wsX5_digest_r6 ++ (wsX5_digest_r7 ++ wsX5_digest_r8))))))) ++ wsX50 ++ wsX20 ++ wsX40 ++ wsX10 ++ wsX00)
def wsX6_init : List Cond := .code yX6_init cX6_init 1 none :: ([.methodLink RX6 1 objectInit, .instanceMethod objectInit, .code objectInit ⟨#[0xb1]⟩ 1 none, .arrayClass .int, .fieldLink RX6 7 "HornEngineModel" "all" "[I", .fieldLink RX6 13 "HornEngineModel" "saved" "[I", .fieldLink RX6 16 "HornEngineModel" "errors" "[I", .fieldLink RX6 19 "HornEngineModel" "text" "[I", .fieldLink RX6 22 "HornEngineModel" "queue" "[I", .fieldLink RX6 25 "HornEngineModel" "fires" "[I", .fieldLink RX6 28 "HornEngineModel" "counters" "[I", .fieldLink RX6 31 "HornEngineModel" "heads" "[I", .fieldLink RX6 34 "HornEngineModel" "bodies" "[I"] ++ wsX60)
def wsX6_in : List Cond := .code yX6_in cX6_in 6 (some .boolean) :: ([])
def wsX6_error : List Cond := .code yX6_error cX6_error 2 (some .int) :: ([.fieldLink RX6 16 "HornEngineModel" "errors" "[I"] ++ wsX60)
def wsX6_save : List Cond := .code yX6_save cX6_save 2 none :: ([.fieldLink RX6 37 "HornEngineModel" "savedMany" "I", .fieldLink RX6 13 "HornEngineModel" "saved" "[I", .fieldLink RX6 7 "HornEngineModel" "all" "[I"] ++ wsX60)
def wsX6_isAtom : List Cond := .code yX6_isAtom cX6_isAtom 1 (some .boolean) :: ([.constantLong RX6 41 (15), .methodLink RX6 43 yX6_in, .static yX6_in, .initialized RX6, .code yX6_in cX6_in 6 (some .boolean)])
def wsX6_size : List Cond := .code yX6_size cX6_size 3 (some .int) :: ([])
def wsX6_isBody : List Cond := .code yX6_isBody cX6_isBody 1 (some .boolean) :: ([.constantLong RX6 47 (65535), .methodLink RX6 43 yX6_in, .static yX6_in, .initialized RX6, .code yX6_in cX6_in 6 (some .boolean), .methodLink RX6 49 yX6_size, .static yX6_size, .code yX6_size cX6_size 3 (some .int)])
def wsX6_isRule : List Cond := .code yX6_isRule cX6_isRule 2 (some .boolean) :: ([.fieldLink RX6 7 "HornEngineModel" "all" "[I", .methodLink RX6 43 yX6_in, .static yX6_in, .initialized RX6, .code yX6_in cX6_in 6 (some .boolean)] ++ wsX60)
def wsX6_headOf : List Cond := .code yX6_headOf cX6_headOf 2 (some .int) :: ([.fieldLink RX6 7 "HornEngineModel" "all" "[I"] ++ wsX60)
def wsX6_bodyOf : List Cond := .code yX6_bodyOf cX6_bodyOf 2 (some .int) :: ([.fieldLink RX6 7 "HornEngineModel" "all" "[I"] ++ wsX60)
def wsX6_adds : List Cond := .code yX6_adds cX6_adds 3 none :: ([.fieldLink RX6 7 "HornEngineModel" "all" "[I"] ++ wsX60)
def wsX6_addRule_r1 : List Cond := [Cond.fieldLink RX6 7 "HornEngineModel" "all" "[I", Cond.methodLink RX6 53 yX6_isAtom, Cond.static yX6_isAtom, Cond.initialized RX6, Cond.code yX6_isAtom cX6_isAtom 1 (some .boolean), Cond.constantLong RX6 41 (15), Cond.methodLink RX6 43 yX6_in, Cond.static yX6_in, Cond.code yX6_in cX6_in 6 (some .boolean), Cond.methodLink RX6 57 yX6_isBody, Cond.static yX6_isBody, Cond.code yX6_isBody cX6_isBody 1 (some .boolean), Cond.constantLong RX6 47 (65535), Cond.methodLink RX6 49 yX6_size, Cond.static yX6_size, Cond.code yX6_size cX6_size 3 (some .int), Cond.methodLink RX6 60 yX6_error, Cond.instanceMethod yX6_error, Cond.selects RX6 yX6_error yX6_error, Cond.code yX6_error cX6_error 2 (some .int), Cond.fieldLink RX6 16 "HornEngineModel" "errors" "[I", Cond.methodLink RX6 63 yX6_save, Cond.instanceMethod yX6_save, Cond.selects RX6 yX6_save yX6_save]
def wsX6_addRule_r2 : List Cond := [Cond.code yX6_save cX6_save 2 none, Cond.fieldLink RX6 37 "HornEngineModel" "savedMany" "I", Cond.fieldLink RX6 13 "HornEngineModel" "saved" "[I", Cond.methodLink RX6 66 yX6_adds, Cond.instanceMethod yX6_adds, Cond.selects RX6 yX6_adds yX6_adds, Cond.code yX6_adds cX6_adds 3 none]
def wsX6_addRule : List Cond := .code yX6_addRule cX6_addRule 3 (some .int) :: ((wsX6_addRule_r1 ++ wsX6_addRule_r2) ++ wsX60)
def wsX6_removeRule : List Cond := .code yX6_removeRule cX6_removeRule 3 (some .int) :: ([.fieldLink RX6 7 "HornEngineModel" "all" "[I", .methodLink RX6 70 yX6_isRule, .instanceMethod yX6_isRule, .selects RX6 yX6_isRule yX6_isRule, .initialized RX6, .code yX6_isRule cX6_isRule 2 (some .boolean), .methodLink RX6 43 yX6_in, .static yX6_in, .code yX6_in cX6_in 6 (some .boolean), .methodLink RX6 60 yX6_error, .instanceMethod yX6_error, .selects RX6 yX6_error yX6_error, .code yX6_error cX6_error 2 (some .int), .fieldLink RX6 16 "HornEngineModel" "errors" "[I", .methodLink RX6 63 yX6_save, .instanceMethod yX6_save, .selects RX6 yX6_save yX6_save, .code yX6_save cX6_save 2 none, .fieldLink RX6 37 "HornEngineModel" "savedMany" "I", .fieldLink RX6 13 "HornEngineModel" "saved" "[I"] ++ wsX60)
def wsX6_rules : List Cond := .code yX6_rules cX6_rules 1 (some .int) :: ([.fieldLink RX6 7 "HornEngineModel" "all" "[I"] ++ wsX60)
def wsX6_head : List Cond := .code yX6_head cX6_head 2 (some .int) :: ([.methodLink RX6 70 yX6_isRule, .instanceMethod yX6_isRule, .selects RX6 yX6_isRule yX6_isRule, .initialized RX6, .code yX6_isRule cX6_isRule 2 (some .boolean), .fieldLink RX6 7 "HornEngineModel" "all" "[I", .methodLink RX6 43 yX6_in, .static yX6_in, .code yX6_in cX6_in 6 (some .boolean), .methodLink RX6 73 yX6_headOf, .instanceMethod yX6_headOf, .selects RX6 yX6_headOf yX6_headOf, .code yX6_headOf cX6_headOf 2 (some .int), .methodLink RX6 60 yX6_error, .instanceMethod yX6_error, .selects RX6 yX6_error yX6_error, .code yX6_error cX6_error 2 (some .int), .fieldLink RX6 16 "HornEngineModel" "errors" "[I"] ++ wsX60)
def wsX6_body : List Cond := .code yX6_body cX6_body 2 (some .int) :: ([.methodLink RX6 70 yX6_isRule, .instanceMethod yX6_isRule, .selects RX6 yX6_isRule yX6_isRule, .initialized RX6, .code yX6_isRule cX6_isRule 2 (some .boolean), .fieldLink RX6 7 "HornEngineModel" "all" "[I", .methodLink RX6 43 yX6_in, .static yX6_in, .code yX6_in cX6_in 6 (some .boolean), .methodLink RX6 76 yX6_bodyOf, .instanceMethod yX6_bodyOf, .selects RX6 yX6_bodyOf yX6_bodyOf, .code yX6_bodyOf cX6_bodyOf 2 (some .int), .methodLink RX6 60 yX6_error, .instanceMethod yX6_error, .selects RX6 yX6_error yX6_error, .code yX6_error cX6_error 2 (some .int), .fieldLink RX6 16 "HornEngineModel" "errors" "[I"] ++ wsX60)
def wsX6_everyRule : List Cond := .code yX6_everyRule cX6_everyRule 1 (some .int) :: ([.fieldLink RX6 7 "HornEngineModel" "all" "[I"] ++ wsX60)
def wsX6_modelOf : List Cond := .code yX6_modelOf cX6_modelOf 6 (some .int) :: ([.fieldLink RX6 7 "HornEngineModel" "all" "[I", .methodLink RX6 76 yX6_bodyOf, .instanceMethod yX6_bodyOf, .selects RX6 yX6_bodyOf yX6_bodyOf, .initialized RX6, .code yX6_bodyOf cX6_bodyOf 2 (some .int), .methodLink RX6 73 yX6_headOf, .instanceMethod yX6_headOf, .selects RX6 yX6_headOf yX6_headOf, .code yX6_headOf cX6_headOf 2 (some .int)] ++ wsX60)
def wsX6_whole : List Cond := .code yX6_whole cX6_whole 1 (some .int) :: ([.methodLink RX6 79 yX6_everyRule, .instanceMethod yX6_everyRule, .selects RX6 yX6_everyRule yX6_everyRule, .initialized RX6, .code yX6_everyRule cX6_everyRule 1 (some .int), .fieldLink RX6 7 "HornEngineModel" "all" "[I", .methodLink RX6 83 yX6_modelOf, .instanceMethod yX6_modelOf, .selects RX6 yX6_modelOf yX6_modelOf, .code yX6_modelOf cX6_modelOf 6 (some .int), .methodLink RX6 76 yX6_bodyOf, .instanceMethod yX6_bodyOf, .selects RX6 yX6_bodyOf yX6_bodyOf, .code yX6_bodyOf cX6_bodyOf 2 (some .int), .methodLink RX6 73 yX6_headOf, .instanceMethod yX6_headOf, .selects RX6 yX6_headOf yX6_headOf, .code yX6_headOf cX6_headOf 2 (some .int)] ++ wsX60)
def wsX6_model : List Cond := .code yX6_model cX6_model 1 (some .int) :: ([.methodLink RX6 87 yX6_whole, .instanceMethod yX6_whole, .selects RX6 yX6_whole yX6_whole, .initialized RX6, .code yX6_whole cX6_whole 1 (some .int), .methodLink RX6 79 yX6_everyRule, .instanceMethod yX6_everyRule, .selects RX6 yX6_everyRule yX6_everyRule, .code yX6_everyRule cX6_everyRule 1 (some .int), .fieldLink RX6 7 "HornEngineModel" "all" "[I", .methodLink RX6 83 yX6_modelOf, .instanceMethod yX6_modelOf, .selects RX6 yX6_modelOf yX6_modelOf, .code yX6_modelOf cX6_modelOf 6 (some .int), .methodLink RX6 76 yX6_bodyOf, .instanceMethod yX6_bodyOf, .selects RX6 yX6_bodyOf yX6_bodyOf, .code yX6_bodyOf cX6_bodyOf 2 (some .int), .methodLink RX6 73 yX6_headOf, .instanceMethod yX6_headOf, .selects RX6 yX6_headOf yX6_headOf, .code yX6_headOf cX6_headOf 2 (some .int)] ++ wsX60)
def wsX6_fires : List Cond := .code yX6_fires cX6_fires 4 none :: ([.fieldLink RX6 25 "HornEngineModel" "fires" "[I", .fieldLink RX6 90 "HornEngineModel" "fireMany" "I", .fieldLink RX6 93 "HornEngineModel" "queued" "I", .fieldLink RX6 22 "HornEngineModel" "queue" "[I", .methodLink RX6 73 yX6_headOf, .instanceMethod yX6_headOf, .selects RX6 yX6_headOf yX6_headOf, .initialized RX6, .code yX6_headOf cX6_headOf 2 (some .int), .fieldLink RX6 7 "HornEngineModel" "all" "[I"] ++ wsX60)
def wsX6_propagates : List Cond := .code yX6_propagates cX6_propagates 3 none :: ([.fieldLink RX6 93 "HornEngineModel" "queued" "I", .fieldLink RX6 90 "HornEngineModel" "fireMany" "I", .fieldLink RX6 7 "HornEngineModel" "all" "[I", .fieldLink RX6 28 "HornEngineModel" "counters" "[I", .fieldLink RX6 22 "HornEngineModel" "queue" "[I", .methodLink RX6 76 yX6_bodyOf, .instanceMethod yX6_bodyOf, .selects RX6 yX6_bodyOf yX6_bodyOf, .initialized RX6, .code yX6_bodyOf cX6_bodyOf 2 (some .int), .methodLink RX6 49 yX6_size, .static yX6_size, .code yX6_size cX6_size 3 (some .int), .methodLink RX6 96 yX6_fires, .instanceMethod yX6_fires, .selects RX6 yX6_fires yX6_fires, .code yX6_fires cX6_fires 4 none, .fieldLink RX6 25 "HornEngineModel" "fires" "[I", .methodLink RX6 73 yX6_headOf, .instanceMethod yX6_headOf, .selects RX6 yX6_headOf yX6_headOf, .code yX6_headOf cX6_headOf 2 (some .int)] ++ wsX60)
def wsX6_derived_r1 : List Cond := [Cond.fieldLink RX6 93 "HornEngineModel" "queued" "I", Cond.fieldLink RX6 22 "HornEngineModel" "queue" "[I", Cond.methodLink RX6 60 yX6_error, Cond.instanceMethod yX6_error, Cond.selects RX6 yX6_error yX6_error, Cond.initialized RX6, Cond.code yX6_error cX6_error 2 (some .int), Cond.fieldLink RX6 16 "HornEngineModel" "errors" "[I", Cond.methodLink RX6 99 yX6_propagates, Cond.instanceMethod yX6_propagates, Cond.selects RX6 yX6_propagates yX6_propagates, Cond.code yX6_propagates cX6_propagates 3 none, Cond.fieldLink RX6 90 "HornEngineModel" "fireMany" "I", Cond.fieldLink RX6 7 "HornEngineModel" "all" "[I", Cond.fieldLink RX6 28 "HornEngineModel" "counters" "[I", Cond.methodLink RX6 76 yX6_bodyOf, Cond.instanceMethod yX6_bodyOf, Cond.selects RX6 yX6_bodyOf yX6_bodyOf, Cond.code yX6_bodyOf cX6_bodyOf 2 (some .int), Cond.methodLink RX6 49 yX6_size, Cond.static yX6_size, Cond.code yX6_size cX6_size 3 (some .int), Cond.methodLink RX6 96 yX6_fires, Cond.instanceMethod yX6_fires]
def wsX6_derived_r2 : List Cond := [Cond.selects RX6 yX6_fires yX6_fires, Cond.code yX6_fires cX6_fires 4 none, Cond.fieldLink RX6 25 "HornEngineModel" "fires" "[I", Cond.methodLink RX6 73 yX6_headOf, Cond.instanceMethod yX6_headOf, Cond.selects RX6 yX6_headOf yX6_headOf, Cond.code yX6_headOf cX6_headOf 2 (some .int)]
def wsX6_derived : List Cond := .code yX6_derived cX6_derived 2 (some .int) :: ((wsX6_derived_r1 ++ wsX6_derived_r2) ++ wsX60)
def wsX6_fired_r1 : List Cond := [Cond.fieldLink RX6 90 "HornEngineModel" "fireMany" "I", Cond.fieldLink RX6 25 "HornEngineModel" "fires" "[I", Cond.methodLink RX6 60 yX6_error, Cond.instanceMethod yX6_error, Cond.selects RX6 yX6_error yX6_error, Cond.initialized RX6, Cond.code yX6_error cX6_error 2 (some .int), Cond.fieldLink RX6 16 "HornEngineModel" "errors" "[I", Cond.methodLink RX6 99 yX6_propagates, Cond.instanceMethod yX6_propagates, Cond.selects RX6 yX6_propagates yX6_propagates, Cond.code yX6_propagates cX6_propagates 3 none, Cond.fieldLink RX6 93 "HornEngineModel" "queued" "I", Cond.fieldLink RX6 7 "HornEngineModel" "all" "[I", Cond.fieldLink RX6 28 "HornEngineModel" "counters" "[I", Cond.fieldLink RX6 22 "HornEngineModel" "queue" "[I", Cond.methodLink RX6 76 yX6_bodyOf, Cond.instanceMethod yX6_bodyOf, Cond.selects RX6 yX6_bodyOf yX6_bodyOf, Cond.code yX6_bodyOf cX6_bodyOf 2 (some .int), Cond.methodLink RX6 49 yX6_size, Cond.static yX6_size, Cond.code yX6_size cX6_size 3 (some .int), Cond.methodLink RX6 96 yX6_fires]
def wsX6_fired_r2 : List Cond := [Cond.instanceMethod yX6_fires, Cond.selects RX6 yX6_fires yX6_fires, Cond.code yX6_fires cX6_fires 4 none, Cond.methodLink RX6 73 yX6_headOf, Cond.instanceMethod yX6_headOf, Cond.selects RX6 yX6_headOf yX6_headOf, Cond.code yX6_headOf cX6_headOf 2 (some .int)]
def wsX6_fired : List Cond := .code yX6_fired cX6_fired 2 (some .int) :: ((wsX6_fired_r1 ++ wsX6_fired_r2) ++ wsX60)
def wsX6_levelOf : List Cond := .code yX6_levelOf cX6_levelOf 6 (some .int) :: ([.fieldLink RX6 7 "HornEngineModel" "all" "[I", .methodLink RX6 76 yX6_bodyOf, .instanceMethod yX6_bodyOf, .selects RX6 yX6_bodyOf yX6_bodyOf, .initialized RX6, .code yX6_bodyOf cX6_bodyOf 2 (some .int), .methodLink RX6 73 yX6_headOf, .instanceMethod yX6_headOf, .selects RX6 yX6_headOf yX6_headOf, .code yX6_headOf cX6_headOf 2 (some .int)] ++ wsX60)
def wsX6_isIn : List Cond := .code yX6_isIn cX6_isIn 2 (some .boolean) :: ([.methodLink RX6 87 yX6_whole, .instanceMethod yX6_whole, .selects RX6 yX6_whole yX6_whole, .initialized RX6, .code yX6_whole cX6_whole 1 (some .int), .methodLink RX6 79 yX6_everyRule, .instanceMethod yX6_everyRule, .selects RX6 yX6_everyRule yX6_everyRule, .code yX6_everyRule cX6_everyRule 1 (some .int), .fieldLink RX6 7 "HornEngineModel" "all" "[I", .methodLink RX6 83 yX6_modelOf, .instanceMethod yX6_modelOf, .selects RX6 yX6_modelOf yX6_modelOf, .code yX6_modelOf cX6_modelOf 6 (some .int), .methodLink RX6 76 yX6_bodyOf, .instanceMethod yX6_bodyOf, .selects RX6 yX6_bodyOf yX6_bodyOf, .code yX6_bodyOf cX6_bodyOf 2 (some .int), .methodLink RX6 73 yX6_headOf, .instanceMethod yX6_headOf, .selects RX6 yX6_headOf yX6_headOf, .code yX6_headOf cX6_headOf 2 (some .int)] ++ wsX60)
def wsX6_asks_r1 : List Cond := [Cond.methodLink RX6 53 yX6_isAtom, Cond.static yX6_isAtom, Cond.initialized RX6, Cond.code yX6_isAtom cX6_isAtom 1 (some .boolean), Cond.constantLong RX6 41 (15), Cond.methodLink RX6 43 yX6_in, Cond.static yX6_in, Cond.code yX6_in cX6_in 6 (some .boolean), Cond.methodLink RX6 60 yX6_error, Cond.instanceMethod yX6_error, Cond.selects RX6 yX6_error yX6_error, Cond.code yX6_error cX6_error 2 (some .int), Cond.fieldLink RX6 16 "HornEngineModel" "errors" "[I", Cond.methodLink RX6 102 yX6_isIn, Cond.instanceMethod yX6_isIn, Cond.selects RX6 yX6_isIn yX6_isIn, Cond.code yX6_isIn cX6_isIn 2 (some .boolean), Cond.methodLink RX6 87 yX6_whole, Cond.instanceMethod yX6_whole, Cond.selects RX6 yX6_whole yX6_whole, Cond.code yX6_whole cX6_whole 1 (some .int), Cond.methodLink RX6 79 yX6_everyRule, Cond.instanceMethod yX6_everyRule, Cond.selects RX6 yX6_everyRule yX6_everyRule]
def wsX6_asks_r2 : List Cond := [Cond.code yX6_everyRule cX6_everyRule 1 (some .int), Cond.fieldLink RX6 7 "HornEngineModel" "all" "[I", Cond.methodLink RX6 83 yX6_modelOf, Cond.instanceMethod yX6_modelOf, Cond.selects RX6 yX6_modelOf yX6_modelOf, Cond.code yX6_modelOf cX6_modelOf 6 (some .int), Cond.methodLink RX6 76 yX6_bodyOf, Cond.instanceMethod yX6_bodyOf, Cond.selects RX6 yX6_bodyOf yX6_bodyOf, Cond.code yX6_bodyOf cX6_bodyOf 2 (some .int), Cond.methodLink RX6 73 yX6_headOf, Cond.instanceMethod yX6_headOf, Cond.selects RX6 yX6_headOf yX6_headOf, Cond.code yX6_headOf cX6_headOf 2 (some .int)]
def wsX6_asks : List Cond := .code yX6_asks cX6_asks 2 (some .int) :: ((wsX6_asks_r1 ++ wsX6_asks_r2) ++ wsX60)
def wsX6_level_r1 : List Cond := [Cond.methodLink RX6 105 yX6_asks, Cond.instanceMethod yX6_asks, Cond.selects RX6 yX6_asks yX6_asks, Cond.initialized RX6, Cond.code yX6_asks cX6_asks 2 (some .int), Cond.methodLink RX6 53 yX6_isAtom, Cond.static yX6_isAtom, Cond.code yX6_isAtom cX6_isAtom 1 (some .boolean), Cond.constantLong RX6 41 (15), Cond.methodLink RX6 43 yX6_in, Cond.static yX6_in, Cond.code yX6_in cX6_in 6 (some .boolean), Cond.methodLink RX6 60 yX6_error, Cond.instanceMethod yX6_error, Cond.selects RX6 yX6_error yX6_error, Cond.code yX6_error cX6_error 2 (some .int), Cond.fieldLink RX6 16 "HornEngineModel" "errors" "[I", Cond.methodLink RX6 102 yX6_isIn, Cond.instanceMethod yX6_isIn, Cond.selects RX6 yX6_isIn yX6_isIn, Cond.code yX6_isIn cX6_isIn 2 (some .boolean), Cond.methodLink RX6 87 yX6_whole, Cond.instanceMethod yX6_whole, Cond.selects RX6 yX6_whole yX6_whole]
def wsX6_level_r2 : List Cond := [Cond.code yX6_whole cX6_whole 1 (some .int), Cond.methodLink RX6 79 yX6_everyRule, Cond.instanceMethod yX6_everyRule, Cond.selects RX6 yX6_everyRule yX6_everyRule, Cond.code yX6_everyRule cX6_everyRule 1 (some .int), Cond.fieldLink RX6 7 "HornEngineModel" "all" "[I", Cond.methodLink RX6 83 yX6_modelOf, Cond.instanceMethod yX6_modelOf, Cond.selects RX6 yX6_modelOf yX6_modelOf, Cond.code yX6_modelOf cX6_modelOf 6 (some .int), Cond.methodLink RX6 76 yX6_bodyOf, Cond.instanceMethod yX6_bodyOf, Cond.selects RX6 yX6_bodyOf yX6_bodyOf, Cond.code yX6_bodyOf cX6_bodyOf 2 (some .int), Cond.methodLink RX6 73 yX6_headOf, Cond.instanceMethod yX6_headOf, Cond.selects RX6 yX6_headOf yX6_headOf, Cond.code yX6_headOf cX6_headOf 2 (some .int), Cond.methodLink RX6 108 yX6_levelOf, Cond.instanceMethod yX6_levelOf, Cond.selects RX6 yX6_levelOf yX6_levelOf, Cond.code yX6_levelOf cX6_levelOf 6 (some .int)]
def wsX6_level : List Cond := .code yX6_level cX6_level 3 (some .int) :: ((wsX6_level_r1 ++ wsX6_level_r2) ++ wsX60)
def wsJxf58ca_isNaN_12338 : List Cond := .code yJxf58ca_isNaN_12338 cJxf58ca_isNaN_12338 1 (some .boolean) :: ([])
def wsJxf58ca_floatToIntBits_5c35a : List Cond := .code yJxf58ca_floatToIntBits_5c35a cJxf58ca_floatToIntBits_5c35a 1 (some .int) :: ([.methodLink RJxf58ca 74 ⟨"java/lang/Float", "floatToRawIntBits", "(F)I"⟩, .native ⟨"java/lang/Float", "floatToRawIntBits", "(F)I"⟩, .static ⟨"java/lang/Float", "floatToRawIntBits", "(F)I"⟩, .initialized "java/lang/Float", .constant RJxf58ca 77 (2143289344), .methodLink RJxf58ca 59 yJxf58ca_isNaN_12338, .static yJxf58ca_isNaN_12338, .initialized RJxf58ca, .code yJxf58ca_isNaN_12338 cJxf58ca_isNaN_12338 1 (some .boolean)])
def wsX6_modelShareBits_r1 : List Cond := [Cond.constantFloat RX6 111 (1098907648), Cond.methodLink RX6 87 yX6_whole, Cond.instanceMethod yX6_whole, Cond.selects RX6 yX6_whole yX6_whole, Cond.initialized RX6, Cond.code yX6_whole cX6_whole 1 (some .int), Cond.methodLink RX6 79 yX6_everyRule, Cond.instanceMethod yX6_everyRule, Cond.selects RX6 yX6_everyRule yX6_everyRule, Cond.code yX6_everyRule cX6_everyRule 1 (some .int), Cond.fieldLink RX6 7 "HornEngineModel" "all" "[I", Cond.methodLink RX6 83 yX6_modelOf, Cond.instanceMethod yX6_modelOf, Cond.selects RX6 yX6_modelOf yX6_modelOf, Cond.code yX6_modelOf cX6_modelOf 6 (some .int), Cond.methodLink RX6 76 yX6_bodyOf, Cond.instanceMethod yX6_bodyOf, Cond.selects RX6 yX6_bodyOf yX6_bodyOf, Cond.code yX6_bodyOf cX6_bodyOf 2 (some .int), Cond.methodLink RX6 73 yX6_headOf, Cond.instanceMethod yX6_headOf, Cond.selects RX6 yX6_headOf yX6_headOf, Cond.code yX6_headOf cX6_headOf 2 (some .int), Cond.methodLink RX6 49 yX6_size]
def wsX6_modelShareBits_r2 : List Cond := [Cond.static yX6_size, Cond.code yX6_size cX6_size 3 (some .int), Cond.methodLink RX6 112 yJxf58ca_floatToIntBits_5c35a, Cond.static yJxf58ca_floatToIntBits_5c35a, Cond.initialized RJxf58ca, Cond.code yJxf58ca_floatToIntBits_5c35a cJxf58ca_floatToIntBits_5c35a 1 (some .int), Cond.methodLink RJxf58ca 74 ⟨"java/lang/Float", "floatToRawIntBits", "(F)I"⟩, Cond.native ⟨"java/lang/Float", "floatToRawIntBits", "(F)I"⟩, Cond.static ⟨"java/lang/Float", "floatToRawIntBits", "(F)I"⟩, Cond.initialized "java/lang/Float", Cond.constant RJxf58ca 77 (2143289344), Cond.methodLink RJxf58ca 59 yJxf58ca_isNaN_12338, Cond.static yJxf58ca_isNaN_12338, Cond.code yJxf58ca_isNaN_12338 cJxf58ca_isNaN_12338 1 (some .boolean)]
def wsX6_modelShareBits : List Cond := .code yX6_modelShareBits cX6_modelShareBits 2 (some .int) :: ((wsX6_modelShareBits_r1 ++ wsX6_modelShareBits_r2) ++ wsX60)
def wsX6_supports_r1 : List Cond := [Cond.fieldLink RX6 7 "HornEngineModel" "all" "[I", Cond.methodLink RX6 53 yX6_isAtom, Cond.static yX6_isAtom, Cond.initialized RX6, Cond.code yX6_isAtom cX6_isAtom 1 (some .boolean), Cond.constantLong RX6 41 (15), Cond.methodLink RX6 43 yX6_in, Cond.static yX6_in, Cond.code yX6_in cX6_in 6 (some .boolean), Cond.methodLink RX6 60 yX6_error, Cond.instanceMethod yX6_error, Cond.selects RX6 yX6_error yX6_error, Cond.code yX6_error cX6_error 2 (some .int), Cond.fieldLink RX6 16 "HornEngineModel" "errors" "[I", Cond.methodLink RX6 87 yX6_whole, Cond.instanceMethod yX6_whole, Cond.selects RX6 yX6_whole yX6_whole, Cond.code yX6_whole cX6_whole 1 (some .int), Cond.methodLink RX6 79 yX6_everyRule, Cond.instanceMethod yX6_everyRule, Cond.selects RX6 yX6_everyRule yX6_everyRule, Cond.code yX6_everyRule cX6_everyRule 1 (some .int), Cond.methodLink RX6 83 yX6_modelOf, Cond.instanceMethod yX6_modelOf]
def wsX6_supports_r2 : List Cond := [Cond.selects RX6 yX6_modelOf yX6_modelOf, Cond.code yX6_modelOf cX6_modelOf 6 (some .int), Cond.methodLink RX6 76 yX6_bodyOf, Cond.instanceMethod yX6_bodyOf, Cond.selects RX6 yX6_bodyOf yX6_bodyOf, Cond.code yX6_bodyOf cX6_bodyOf 2 (some .int), Cond.methodLink RX6 73 yX6_headOf, Cond.instanceMethod yX6_headOf, Cond.selects RX6 yX6_headOf yX6_headOf, Cond.code yX6_headOf cX6_headOf 2 (some .int)]
def wsX6_supports : List Cond := .code yX6_supports cX6_supports 5 (some .int) :: ((wsX6_supports_r1 ++ wsX6_supports_r2) ++ wsX60)
def wsX6_reasonOf : List Cond := .code yX6_reasonOf cX6_reasonOf 5 (some .int) :: ([.fieldLink RX6 7 "HornEngineModel" "all" "[I", .methodLink RX6 79 yX6_everyRule, .instanceMethod yX6_everyRule, .selects RX6 yX6_everyRule yX6_everyRule, .initialized RX6, .code yX6_everyRule cX6_everyRule 1 (some .int), .methodLink RX6 83 yX6_modelOf, .instanceMethod yX6_modelOf, .selects RX6 yX6_modelOf yX6_modelOf, .code yX6_modelOf cX6_modelOf 6 (some .int), .methodLink RX6 76 yX6_bodyOf, .instanceMethod yX6_bodyOf, .selects RX6 yX6_bodyOf yX6_bodyOf, .code yX6_bodyOf cX6_bodyOf 2 (some .int), .methodLink RX6 73 yX6_headOf, .instanceMethod yX6_headOf, .selects RX6 yX6_headOf yX6_headOf, .code yX6_headOf cX6_headOf 2 (some .int)] ++ wsX60)
def wsX6_reason_r1 : List Cond := [Cond.methodLink RX6 105 yX6_asks, Cond.instanceMethod yX6_asks, Cond.selects RX6 yX6_asks yX6_asks, Cond.initialized RX6, Cond.code yX6_asks cX6_asks 2 (some .int), Cond.methodLink RX6 53 yX6_isAtom, Cond.static yX6_isAtom, Cond.code yX6_isAtom cX6_isAtom 1 (some .boolean), Cond.constantLong RX6 41 (15), Cond.methodLink RX6 43 yX6_in, Cond.static yX6_in, Cond.code yX6_in cX6_in 6 (some .boolean), Cond.methodLink RX6 60 yX6_error, Cond.instanceMethod yX6_error, Cond.selects RX6 yX6_error yX6_error, Cond.code yX6_error cX6_error 2 (some .int), Cond.fieldLink RX6 16 "HornEngineModel" "errors" "[I", Cond.methodLink RX6 102 yX6_isIn, Cond.instanceMethod yX6_isIn, Cond.selects RX6 yX6_isIn yX6_isIn, Cond.code yX6_isIn cX6_isIn 2 (some .boolean), Cond.methodLink RX6 87 yX6_whole, Cond.instanceMethod yX6_whole, Cond.selects RX6 yX6_whole yX6_whole]
def wsX6_reason_r2 : List Cond := [Cond.code yX6_whole cX6_whole 1 (some .int), Cond.methodLink RX6 79 yX6_everyRule, Cond.instanceMethod yX6_everyRule, Cond.selects RX6 yX6_everyRule yX6_everyRule, Cond.code yX6_everyRule cX6_everyRule 1 (some .int), Cond.fieldLink RX6 7 "HornEngineModel" "all" "[I", Cond.methodLink RX6 83 yX6_modelOf, Cond.instanceMethod yX6_modelOf, Cond.selects RX6 yX6_modelOf yX6_modelOf, Cond.code yX6_modelOf cX6_modelOf 6 (some .int), Cond.methodLink RX6 76 yX6_bodyOf, Cond.instanceMethod yX6_bodyOf, Cond.selects RX6 yX6_bodyOf yX6_bodyOf, Cond.code yX6_bodyOf cX6_bodyOf 2 (some .int), Cond.methodLink RX6 73 yX6_headOf, Cond.instanceMethod yX6_headOf, Cond.selects RX6 yX6_headOf yX6_headOf, Cond.code yX6_headOf cX6_headOf 2 (some .int), Cond.methodLink RX6 118 yX6_reasonOf, Cond.instanceMethod yX6_reasonOf, Cond.selects RX6 yX6_reasonOf yX6_reasonOf, Cond.code yX6_reasonOf cX6_reasonOf 5 (some .int)]
def wsX6_reason : List Cond := .code yX6_reason cX6_reason 3 (some .int) :: ((wsX6_reason_r1 ++ wsX6_reason_r2) ++ wsX60)
def wsX6_necessaryOf : List Cond := .code yX6_necessaryOf cX6_necessaryOf 4 (some .int) :: ([.fieldLink RX6 7 "HornEngineModel" "all" "[I", .methodLink RX6 79 yX6_everyRule, .instanceMethod yX6_everyRule, .selects RX6 yX6_everyRule yX6_everyRule, .initialized RX6, .code yX6_everyRule cX6_everyRule 1 (some .int), .methodLink RX6 83 yX6_modelOf, .instanceMethod yX6_modelOf, .selects RX6 yX6_modelOf yX6_modelOf, .code yX6_modelOf cX6_modelOf 6 (some .int), .methodLink RX6 76 yX6_bodyOf, .instanceMethod yX6_bodyOf, .selects RX6 yX6_bodyOf yX6_bodyOf, .code yX6_bodyOf cX6_bodyOf 2 (some .int), .methodLink RX6 73 yX6_headOf, .instanceMethod yX6_headOf, .selects RX6 yX6_headOf yX6_headOf, .code yX6_headOf cX6_headOf 2 (some .int)] ++ wsX60)
def wsX6_necessary_r1 : List Cond := [Cond.methodLink RX6 105 yX6_asks, Cond.instanceMethod yX6_asks, Cond.selects RX6 yX6_asks yX6_asks, Cond.initialized RX6, Cond.code yX6_asks cX6_asks 2 (some .int), Cond.methodLink RX6 53 yX6_isAtom, Cond.static yX6_isAtom, Cond.code yX6_isAtom cX6_isAtom 1 (some .boolean), Cond.constantLong RX6 41 (15), Cond.methodLink RX6 43 yX6_in, Cond.static yX6_in, Cond.code yX6_in cX6_in 6 (some .boolean), Cond.methodLink RX6 60 yX6_error, Cond.instanceMethod yX6_error, Cond.selects RX6 yX6_error yX6_error, Cond.code yX6_error cX6_error 2 (some .int), Cond.fieldLink RX6 16 "HornEngineModel" "errors" "[I", Cond.methodLink RX6 102 yX6_isIn, Cond.instanceMethod yX6_isIn, Cond.selects RX6 yX6_isIn yX6_isIn, Cond.code yX6_isIn cX6_isIn 2 (some .boolean), Cond.methodLink RX6 87 yX6_whole, Cond.instanceMethod yX6_whole, Cond.selects RX6 yX6_whole yX6_whole]
def wsX6_necessary_r2 : List Cond := [Cond.code yX6_whole cX6_whole 1 (some .int), Cond.methodLink RX6 79 yX6_everyRule, Cond.instanceMethod yX6_everyRule, Cond.selects RX6 yX6_everyRule yX6_everyRule, Cond.code yX6_everyRule cX6_everyRule 1 (some .int), Cond.fieldLink RX6 7 "HornEngineModel" "all" "[I", Cond.methodLink RX6 83 yX6_modelOf, Cond.instanceMethod yX6_modelOf, Cond.selects RX6 yX6_modelOf yX6_modelOf, Cond.code yX6_modelOf cX6_modelOf 6 (some .int), Cond.methodLink RX6 76 yX6_bodyOf, Cond.instanceMethod yX6_bodyOf, Cond.selects RX6 yX6_bodyOf yX6_bodyOf, Cond.code yX6_bodyOf cX6_bodyOf 2 (some .int), Cond.methodLink RX6 73 yX6_headOf, Cond.instanceMethod yX6_headOf, Cond.selects RX6 yX6_headOf yX6_headOf, Cond.code yX6_headOf cX6_headOf 2 (some .int), Cond.methodLink RX6 121 yX6_necessaryOf, Cond.instanceMethod yX6_necessaryOf, Cond.selects RX6 yX6_necessaryOf yX6_necessaryOf, Cond.code yX6_necessaryOf cX6_necessaryOf 4 (some .int)]
def wsX6_necessary : List Cond := .code yX6_necessary cX6_necessary 3 (some .int) :: ((wsX6_necessary_r1 ++ wsX6_necessary_r2) ++ wsX60)
def wsX6_dependenciesOf : List Cond := .code yX6_dependenciesOf cX6_dependenciesOf 5 (some .int) :: ([.fieldLink RX6 7 "HornEngineModel" "all" "[I", .methodLink RX6 73 yX6_headOf, .instanceMethod yX6_headOf, .selects RX6 yX6_headOf yX6_headOf, .initialized RX6, .code yX6_headOf cX6_headOf 2 (some .int), .methodLink RX6 76 yX6_bodyOf, .instanceMethod yX6_bodyOf, .selects RX6 yX6_bodyOf yX6_bodyOf, .code yX6_bodyOf cX6_bodyOf 2 (some .int)] ++ wsX60)
def wsX6_dependencies_r1 : List Cond := [Cond.methodLink RX6 53 yX6_isAtom, Cond.static yX6_isAtom, Cond.initialized RX6, Cond.code yX6_isAtom cX6_isAtom 1 (some .boolean), Cond.constantLong RX6 41 (15), Cond.methodLink RX6 43 yX6_in, Cond.static yX6_in, Cond.code yX6_in cX6_in 6 (some .boolean), Cond.methodLink RX6 124 yX6_dependenciesOf, Cond.instanceMethod yX6_dependenciesOf, Cond.selects RX6 yX6_dependenciesOf yX6_dependenciesOf, Cond.code yX6_dependenciesOf cX6_dependenciesOf 5 (some .int), Cond.fieldLink RX6 7 "HornEngineModel" "all" "[I", Cond.methodLink RX6 73 yX6_headOf, Cond.instanceMethod yX6_headOf, Cond.selects RX6 yX6_headOf yX6_headOf, Cond.code yX6_headOf cX6_headOf 2 (some .int), Cond.methodLink RX6 76 yX6_bodyOf, Cond.instanceMethod yX6_bodyOf, Cond.selects RX6 yX6_bodyOf yX6_bodyOf, Cond.code yX6_bodyOf cX6_bodyOf 2 (some .int), Cond.methodLink RX6 60 yX6_error, Cond.instanceMethod yX6_error, Cond.selects RX6 yX6_error yX6_error]
def wsX6_dependencies_r2 : List Cond := [Cond.code yX6_error cX6_error 2 (some .int), Cond.fieldLink RX6 16 "HornEngineModel" "errors" "[I"]
def wsX6_dependencies : List Cond := .code yX6_dependencies cX6_dependencies 2 (some .int) :: ((wsX6_dependencies_r1 ++ wsX6_dependencies_r2) ++ wsX60)
def wsX6_cyclicAtoms : List Cond := .code yX6_cyclicAtoms cX6_cyclicAtoms 3 (some .int) :: ([.methodLink RX6 124 yX6_dependenciesOf, .instanceMethod yX6_dependenciesOf, .selects RX6 yX6_dependenciesOf yX6_dependenciesOf, .initialized RX6, .code yX6_dependenciesOf cX6_dependenciesOf 5 (some .int), .fieldLink RX6 7 "HornEngineModel" "all" "[I", .methodLink RX6 73 yX6_headOf, .instanceMethod yX6_headOf, .selects RX6 yX6_headOf yX6_headOf, .code yX6_headOf cX6_headOf 2 (some .int), .methodLink RX6 76 yX6_bodyOf, .instanceMethod yX6_bodyOf, .selects RX6 yX6_bodyOf yX6_bodyOf, .code yX6_bodyOf cX6_bodyOf 2 (some .int)] ++ wsX60)
def wsX6_overDeletedOf : List Cond := .code yX6_overDeletedOf cX6_overDeletedOf 6 (some .int) :: ([.fieldLink RX6 7 "HornEngineModel" "all" "[I", .methodLink RX6 87 yX6_whole, .instanceMethod yX6_whole, .selects RX6 yX6_whole yX6_whole, .initialized RX6, .code yX6_whole cX6_whole 1 (some .int), .methodLink RX6 79 yX6_everyRule, .instanceMethod yX6_everyRule, .selects RX6 yX6_everyRule yX6_everyRule, .code yX6_everyRule cX6_everyRule 1 (some .int), .methodLink RX6 83 yX6_modelOf, .instanceMethod yX6_modelOf, .selects RX6 yX6_modelOf yX6_modelOf, .code yX6_modelOf cX6_modelOf 6 (some .int), .methodLink RX6 76 yX6_bodyOf, .instanceMethod yX6_bodyOf, .selects RX6 yX6_bodyOf yX6_bodyOf, .code yX6_bodyOf cX6_bodyOf 2 (some .int), .methodLink RX6 73 yX6_headOf, .instanceMethod yX6_headOf, .selects RX6 yX6_headOf yX6_headOf, .code yX6_headOf cX6_headOf 2 (some .int)] ++ wsX60)
def wsX6_overDeleted_r1 : List Cond := [Cond.methodLink RX6 70 yX6_isRule, Cond.instanceMethod yX6_isRule, Cond.selects RX6 yX6_isRule yX6_isRule, Cond.initialized RX6, Cond.code yX6_isRule cX6_isRule 2 (some .boolean), Cond.fieldLink RX6 7 "HornEngineModel" "all" "[I", Cond.methodLink RX6 43 yX6_in, Cond.static yX6_in, Cond.code yX6_in cX6_in 6 (some .boolean), Cond.methodLink RX6 127 yX6_overDeletedOf, Cond.instanceMethod yX6_overDeletedOf, Cond.selects RX6 yX6_overDeletedOf yX6_overDeletedOf, Cond.code yX6_overDeletedOf cX6_overDeletedOf 6 (some .int), Cond.methodLink RX6 87 yX6_whole, Cond.instanceMethod yX6_whole, Cond.selects RX6 yX6_whole yX6_whole, Cond.code yX6_whole cX6_whole 1 (some .int), Cond.methodLink RX6 79 yX6_everyRule, Cond.instanceMethod yX6_everyRule, Cond.selects RX6 yX6_everyRule yX6_everyRule, Cond.code yX6_everyRule cX6_everyRule 1 (some .int), Cond.methodLink RX6 83 yX6_modelOf, Cond.instanceMethod yX6_modelOf, Cond.selects RX6 yX6_modelOf yX6_modelOf]
def wsX6_overDeleted_r2 : List Cond := [Cond.code yX6_modelOf cX6_modelOf 6 (some .int), Cond.methodLink RX6 76 yX6_bodyOf, Cond.instanceMethod yX6_bodyOf, Cond.selects RX6 yX6_bodyOf yX6_bodyOf, Cond.code yX6_bodyOf cX6_bodyOf 2 (some .int), Cond.methodLink RX6 73 yX6_headOf, Cond.instanceMethod yX6_headOf, Cond.selects RX6 yX6_headOf yX6_headOf, Cond.code yX6_headOf cX6_headOf 2 (some .int), Cond.methodLink RX6 60 yX6_error, Cond.instanceMethod yX6_error, Cond.selects RX6 yX6_error yX6_error, Cond.code yX6_error cX6_error 2 (some .int), Cond.fieldLink RX6 16 "HornEngineModel" "errors" "[I"]
def wsX6_overDeleted : List Cond := .code yX6_overDeleted cX6_overDeleted 2 (some .int) :: ((wsX6_overDeleted_r1 ++ wsX6_overDeleted_r2) ++ wsX60)
def wsX6_lostOf : List Cond := .code yX6_lostOf cX6_lostOf 2 (some .int) :: ([.methodLink RX6 87 yX6_whole, .instanceMethod yX6_whole, .selects RX6 yX6_whole yX6_whole, .initialized RX6, .code yX6_whole cX6_whole 1 (some .int), .methodLink RX6 79 yX6_everyRule, .instanceMethod yX6_everyRule, .selects RX6 yX6_everyRule yX6_everyRule, .code yX6_everyRule cX6_everyRule 1 (some .int), .fieldLink RX6 7 "HornEngineModel" "all" "[I", .methodLink RX6 83 yX6_modelOf, .instanceMethod yX6_modelOf, .selects RX6 yX6_modelOf yX6_modelOf, .code yX6_modelOf cX6_modelOf 6 (some .int), .methodLink RX6 76 yX6_bodyOf, .instanceMethod yX6_bodyOf, .selects RX6 yX6_bodyOf yX6_bodyOf, .code yX6_bodyOf cX6_bodyOf 2 (some .int), .methodLink RX6 73 yX6_headOf, .instanceMethod yX6_headOf, .selects RX6 yX6_headOf yX6_headOf, .code yX6_headOf cX6_headOf 2 (some .int)] ++ wsX60)
def wsX6_lost_r1 : List Cond := [Cond.methodLink RX6 70 yX6_isRule, Cond.instanceMethod yX6_isRule, Cond.selects RX6 yX6_isRule yX6_isRule, Cond.initialized RX6, Cond.code yX6_isRule cX6_isRule 2 (some .boolean), Cond.fieldLink RX6 7 "HornEngineModel" "all" "[I", Cond.methodLink RX6 43 yX6_in, Cond.static yX6_in, Cond.code yX6_in cX6_in 6 (some .boolean), Cond.methodLink RX6 130 yX6_lostOf, Cond.instanceMethod yX6_lostOf, Cond.selects RX6 yX6_lostOf yX6_lostOf, Cond.code yX6_lostOf cX6_lostOf 2 (some .int), Cond.methodLink RX6 87 yX6_whole, Cond.instanceMethod yX6_whole, Cond.selects RX6 yX6_whole yX6_whole, Cond.code yX6_whole cX6_whole 1 (some .int), Cond.methodLink RX6 79 yX6_everyRule, Cond.instanceMethod yX6_everyRule, Cond.selects RX6 yX6_everyRule yX6_everyRule, Cond.code yX6_everyRule cX6_everyRule 1 (some .int), Cond.methodLink RX6 83 yX6_modelOf, Cond.instanceMethod yX6_modelOf, Cond.selects RX6 yX6_modelOf yX6_modelOf]
def wsX6_lost_r2 : List Cond := [Cond.code yX6_modelOf cX6_modelOf 6 (some .int), Cond.methodLink RX6 76 yX6_bodyOf, Cond.instanceMethod yX6_bodyOf, Cond.selects RX6 yX6_bodyOf yX6_bodyOf, Cond.code yX6_bodyOf cX6_bodyOf 2 (some .int), Cond.methodLink RX6 73 yX6_headOf, Cond.instanceMethod yX6_headOf, Cond.selects RX6 yX6_headOf yX6_headOf, Cond.code yX6_headOf cX6_headOf 2 (some .int), Cond.methodLink RX6 60 yX6_error, Cond.instanceMethod yX6_error, Cond.selects RX6 yX6_error yX6_error, Cond.code yX6_error cX6_error 2 (some .int), Cond.fieldLink RX6 16 "HornEngineModel" "errors" "[I"]
def wsX6_lost : List Cond := .code yX6_lost cX6_lost 2 (some .int) :: ((wsX6_lost_r1 ++ wsX6_lost_r2) ++ wsX60)
def wsX6_gained_r1 : List Cond := [Cond.methodLink RX6 53 yX6_isAtom, Cond.static yX6_isAtom, Cond.initialized RX6, Cond.code yX6_isAtom cX6_isAtom 1 (some .boolean), Cond.constantLong RX6 41 (15), Cond.methodLink RX6 43 yX6_in, Cond.static yX6_in, Cond.code yX6_in cX6_in 6 (some .boolean), Cond.methodLink RX6 57 yX6_isBody, Cond.static yX6_isBody, Cond.code yX6_isBody cX6_isBody 1 (some .boolean), Cond.constantLong RX6 47 (65535), Cond.methodLink RX6 49 yX6_size, Cond.static yX6_size, Cond.code yX6_size cX6_size 3 (some .int), Cond.methodLink RX6 60 yX6_error, Cond.instanceMethod yX6_error, Cond.selects RX6 yX6_error yX6_error, Cond.code yX6_error cX6_error 2 (some .int), Cond.fieldLink RX6 16 "HornEngineModel" "errors" "[I", Cond.methodLink RX6 87 yX6_whole, Cond.instanceMethod yX6_whole, Cond.selects RX6 yX6_whole yX6_whole, Cond.code yX6_whole cX6_whole 1 (some .int)]
def wsX6_gained_r2 : List Cond := [Cond.methodLink RX6 79 yX6_everyRule, Cond.instanceMethod yX6_everyRule, Cond.selects RX6 yX6_everyRule yX6_everyRule, Cond.code yX6_everyRule cX6_everyRule 1 (some .int), Cond.fieldLink RX6 7 "HornEngineModel" "all" "[I", Cond.methodLink RX6 83 yX6_modelOf, Cond.instanceMethod yX6_modelOf, Cond.selects RX6 yX6_modelOf yX6_modelOf, Cond.code yX6_modelOf cX6_modelOf 6 (some .int), Cond.methodLink RX6 76 yX6_bodyOf, Cond.instanceMethod yX6_bodyOf, Cond.selects RX6 yX6_bodyOf yX6_bodyOf, Cond.code yX6_bodyOf cX6_bodyOf 2 (some .int), Cond.methodLink RX6 73 yX6_headOf, Cond.instanceMethod yX6_headOf, Cond.selects RX6 yX6_headOf yX6_headOf, Cond.code yX6_headOf cX6_headOf 2 (some .int)]
def wsX6_gained : List Cond := .code yX6_gained cX6_gained 4 (some .int) :: ((wsX6_gained_r1 ++ wsX6_gained_r2) ++ wsX60)
def wsX6_setAssumable : List Cond := .code yX6_setAssumable cX6_setAssumable 3 (some .int) :: ([.constantLong RX6 47 (65535), .fieldLink RX6 7 "HornEngineModel" "all" "[I", .methodLink RX6 43 yX6_in, .static yX6_in, .initialized RX6, .code yX6_in cX6_in 6 (some .boolean), .methodLink RX6 49 yX6_size, .static yX6_size, .code yX6_size cX6_size 3 (some .int), .methodLink RX6 60 yX6_error, .instanceMethod yX6_error, .selects RX6 yX6_error yX6_error, .code yX6_error cX6_error 2 (some .int), .fieldLink RX6 16 "HornEngineModel" "errors" "[I", .methodLink RX6 63 yX6_save, .instanceMethod yX6_save, .selects RX6 yX6_save yX6_save, .code yX6_save cX6_save 2 none, .fieldLink RX6 37 "HornEngineModel" "savedMany" "I", .fieldLink RX6 13 "HornEngineModel" "saved" "[I"] ++ wsX60)
def wsX6_explanation_r1 : List Cond := [Cond.fieldLink RX6 7 "HornEngineModel" "all" "[I", Cond.methodLink RX6 53 yX6_isAtom, Cond.static yX6_isAtom, Cond.initialized RX6, Cond.code yX6_isAtom cX6_isAtom 1 (some .boolean), Cond.constantLong RX6 41 (15), Cond.methodLink RX6 43 yX6_in, Cond.static yX6_in, Cond.code yX6_in cX6_in 6 (some .boolean), Cond.methodLink RX6 60 yX6_error, Cond.instanceMethod yX6_error, Cond.selects RX6 yX6_error yX6_error, Cond.code yX6_error cX6_error 2 (some .int), Cond.fieldLink RX6 16 "HornEngineModel" "errors" "[I", Cond.methodLink RX6 49 yX6_size, Cond.static yX6_size, Cond.code yX6_size cX6_size 3 (some .int), Cond.methodLink RX6 79 yX6_everyRule, Cond.instanceMethod yX6_everyRule, Cond.selects RX6 yX6_everyRule yX6_everyRule, Cond.code yX6_everyRule cX6_everyRule 1 (some .int), Cond.methodLink RX6 83 yX6_modelOf, Cond.instanceMethod yX6_modelOf, Cond.selects RX6 yX6_modelOf yX6_modelOf]
def wsX6_explanation_r2 : List Cond := [Cond.code yX6_modelOf cX6_modelOf 6 (some .int), Cond.methodLink RX6 76 yX6_bodyOf, Cond.instanceMethod yX6_bodyOf, Cond.selects RX6 yX6_bodyOf yX6_bodyOf, Cond.code yX6_bodyOf cX6_bodyOf 2 (some .int), Cond.methodLink RX6 73 yX6_headOf, Cond.instanceMethod yX6_headOf, Cond.selects RX6 yX6_headOf yX6_headOf, Cond.code yX6_headOf cX6_headOf 2 (some .int)]
def wsX6_explanation : List Cond := .code yX6_explanation cX6_explanation 6 (some .int) :: ((wsX6_explanation_r1 ++ wsX6_explanation_r2) ++ wsX60)
def wsX6_append : List Cond := .code yX6_append cX6_append 2 (some .int) :: ([.constantLong RX6 133 (127), .fieldLink RX6 135 "HornEngineModel" "textLong" "I", .fieldLink RX6 19 "HornEngineModel" "text" "[I", .methodLink RX6 43 yX6_in, .static yX6_in, .initialized RX6, .code yX6_in cX6_in 6 (some .boolean), .methodLink RX6 60 yX6_error, .instanceMethod yX6_error, .selects RX6 yX6_error yX6_error, .code yX6_error cX6_error 2 (some .int), .fieldLink RX6 16 "HornEngineModel" "errors" "[I"] ++ wsX60)
def wsX6_clearText : List Cond := .code yX6_clearText cX6_clearText 2 (some .int) :: ([.fieldLink RX6 135 "HornEngineModel" "textLong" "I"] ++ wsX60)
def wsX6_next : List Cond := .code yX6_next cX6_next 1 (some .int) :: ([.fieldLink RX6 138 "HornEngineModel" "at" "I", .fieldLink RX6 135 "HornEngineModel" "textLong" "I", .fieldLink RX6 19 "HornEngineModel" "text" "[I", .fieldLink RX6 141 "HornEngineModel" "place" "I"] ++ wsX60)
def wsX6_isDigitAt : List Cond := .code yX6_isDigitAt cX6_isDigitAt 2 (some .boolean) :: ([.fieldLink RX6 135 "HornEngineModel" "textLong" "I", .fieldLink RX6 19 "HornEngineModel" "text" "[I", .constantLong RX6 144 (48), .constantLong RX6 146 (57), .methodLink RX6 43 yX6_in, .static yX6_in, .initialized RX6, .code yX6_in cX6_in 6 (some .boolean)] ++ wsX60)
def wsX6_readsAtom : List Cond := .code yX6_readsAtom cX6_readsAtom 3 (some .int) :: ([.fieldLink RX6 138 "HornEngineModel" "at" "I", .fieldLink RX6 141 "HornEngineModel" "place" "I", .fieldLink RX6 19 "HornEngineModel" "text" "[I", .methodLink RX6 148 yX6_next, .instanceMethod yX6_next, .selects RX6 yX6_next yX6_next, .initialized RX6, .code yX6_next cX6_next 1 (some .int), .fieldLink RX6 135 "HornEngineModel" "textLong" "I", .methodLink RX6 151 yX6_isDigitAt, .instanceMethod yX6_isDigitAt, .selects RX6 yX6_isDigitAt yX6_isDigitAt, .code yX6_isDigitAt cX6_isDigitAt 2 (some .boolean), .constantLong RX6 144 (48), .constantLong RX6 146 (57), .methodLink RX6 43 yX6_in, .static yX6_in, .code yX6_in cX6_in 6 (some .boolean)] ++ wsX60)
def wsX6_readsBody : List Cond := .code yX6_readsBody cX6_readsBody 5 (some .int) :: ([.fieldLink RX6 138 "HornEngineModel" "at" "I", .methodLink RX6 148 yX6_next, .instanceMethod yX6_next, .selects RX6 yX6_next yX6_next, .initialized RX6, .code yX6_next cX6_next 1 (some .int), .fieldLink RX6 135 "HornEngineModel" "textLong" "I", .fieldLink RX6 19 "HornEngineModel" "text" "[I", .fieldLink RX6 141 "HornEngineModel" "place" "I", .methodLink RX6 154 yX6_readsAtom, .instanceMethod yX6_readsAtom, .selects RX6 yX6_readsAtom yX6_readsAtom, .code yX6_readsAtom cX6_readsAtom 3 (some .int), .methodLink RX6 151 yX6_isDigitAt, .instanceMethod yX6_isDigitAt, .selects RX6 yX6_isDigitAt yX6_isDigitAt, .code yX6_isDigitAt cX6_isDigitAt 2 (some .boolean), .constantLong RX6 144 (48), .constantLong RX6 146 (57), .methodLink RX6 43 yX6_in, .static yX6_in, .code yX6_in cX6_in 6 (some .boolean)] ++ wsX60)
def wsX6_parse_r1 : List Cond := [Cond.fieldLink RX6 138 "HornEngineModel" "at" "I", Cond.fieldLink RX6 7 "HornEngineModel" "all" "[I", Cond.fieldLink RX6 141 "HornEngineModel" "place" "I", Cond.fieldLink RX6 31 "HornEngineModel" "heads" "[I", Cond.fieldLink RX6 34 "HornEngineModel" "bodies" "[I", Cond.methodLink RX6 148 yX6_next, Cond.instanceMethod yX6_next, Cond.selects RX6 yX6_next yX6_next, Cond.initialized RX6, Cond.code yX6_next cX6_next 1 (some .int), Cond.fieldLink RX6 135 "HornEngineModel" "textLong" "I", Cond.fieldLink RX6 19 "HornEngineModel" "text" "[I", Cond.methodLink RX6 154 yX6_readsAtom, Cond.instanceMethod yX6_readsAtom, Cond.selects RX6 yX6_readsAtom yX6_readsAtom, Cond.code yX6_readsAtom cX6_readsAtom 3 (some .int), Cond.methodLink RX6 151 yX6_isDigitAt, Cond.instanceMethod yX6_isDigitAt, Cond.selects RX6 yX6_isDigitAt yX6_isDigitAt, Cond.code yX6_isDigitAt cX6_isDigitAt 2 (some .boolean), Cond.constantLong RX6 144 (48), Cond.constantLong RX6 146 (57), Cond.methodLink RX6 43 yX6_in, Cond.static yX6_in]
def wsX6_parse_r2 : List Cond := [Cond.code yX6_in cX6_in 6 (some .boolean), Cond.methodLink RX6 157 yX6_readsBody, Cond.instanceMethod yX6_readsBody, Cond.selects RX6 yX6_readsBody yX6_readsBody, Cond.code yX6_readsBody cX6_readsBody 5 (some .int), Cond.methodLink RX6 63 yX6_save, Cond.instanceMethod yX6_save, Cond.selects RX6 yX6_save yX6_save, Cond.code yX6_save cX6_save 2 none, Cond.fieldLink RX6 37 "HornEngineModel" "savedMany" "I", Cond.fieldLink RX6 13 "HornEngineModel" "saved" "[I", Cond.methodLink RX6 66 yX6_adds, Cond.instanceMethod yX6_adds, Cond.selects RX6 yX6_adds yX6_adds, Cond.code yX6_adds cX6_adds 3 none]
def wsX6_parse : List Cond := .code yX6_parse cX6_parse 4 (some .int) :: ((wsX6_parse_r1 ++ wsX6_parse_r2) ++ wsX60)
def wsX6_undo : List Cond := .code yX6_undo cX6_undo 2 (some .int) :: ([.fieldLink RX6 37 "HornEngineModel" "savedMany" "I", .fieldLink RX6 7 "HornEngineModel" "all" "[I", .fieldLink RX6 13 "HornEngineModel" "saved" "[I", .methodLink RX6 60 yX6_error, .instanceMethod yX6_error, .selects RX6 yX6_error yX6_error, .initialized RX6, .code yX6_error cX6_error 2 (some .int), .fieldLink RX6 16 "HornEngineModel" "errors" "[I"] ++ wsX60)
def wsX6_errorCount : List Cond := .code yX6_errorCount cX6_errorCount 2 (some .int) :: ([.constantLong RX6 160 (-5), .constantLong RX6 162 (-2), .fieldLink RX6 16 "HornEngineModel" "errors" "[I", .methodLink RX6 43 yX6_in, .static yX6_in, .initialized RX6, .code yX6_in cX6_in 6 (some .boolean), .methodLink RX6 60 yX6_error, .instanceMethod yX6_error, .selects RX6 yX6_error yX6_error, .code yX6_error cX6_error 2 (some .int)] ++ wsX60)
def wsX6_digest_r1 : List Cond := [Cond.constantLong RX6 164 (2719), Cond.constantLong RX6 166 (31), Cond.fieldLink RX6 16 "HornEngineModel" "errors" "[I", Cond.fieldLink RX6 135 "HornEngineModel" "textLong" "I", Cond.fieldLink RX6 7 "HornEngineModel" "all" "[I", Cond.fieldLink RX6 93 "HornEngineModel" "queued" "I", Cond.fieldLink RX6 22 "HornEngineModel" "queue" "[I", Cond.fieldLink RX6 90 "HornEngineModel" "fireMany" "I", Cond.fieldLink RX6 25 "HornEngineModel" "fires" "[I", Cond.fieldLink RX6 37 "HornEngineModel" "savedMany" "I", Cond.methodLink RX6 73 yX6_headOf, Cond.instanceMethod yX6_headOf, Cond.selects RX6 yX6_headOf yX6_headOf, Cond.initialized RX6, Cond.code yX6_headOf cX6_headOf 2 (some .int), Cond.methodLink RX6 76 yX6_bodyOf, Cond.instanceMethod yX6_bodyOf, Cond.selects RX6 yX6_bodyOf yX6_bodyOf, Cond.code yX6_bodyOf cX6_bodyOf 2 (some .int), Cond.methodLink RX6 127 yX6_overDeletedOf, Cond.instanceMethod yX6_overDeletedOf, Cond.selects RX6 yX6_overDeletedOf yX6_overDeletedOf, Cond.code yX6_overDeletedOf cX6_overDeletedOf 6 (some .int), Cond.methodLink RX6 87 yX6_whole]
def wsX6_digest_r2 : List Cond := [Cond.instanceMethod yX6_whole, Cond.selects RX6 yX6_whole yX6_whole, Cond.code yX6_whole cX6_whole 1 (some .int), Cond.methodLink RX6 79 yX6_everyRule, Cond.instanceMethod yX6_everyRule, Cond.selects RX6 yX6_everyRule yX6_everyRule, Cond.code yX6_everyRule cX6_everyRule 1 (some .int), Cond.methodLink RX6 83 yX6_modelOf, Cond.instanceMethod yX6_modelOf, Cond.selects RX6 yX6_modelOf yX6_modelOf, Cond.code yX6_modelOf cX6_modelOf 6 (some .int), Cond.methodLink RX6 130 yX6_lostOf, Cond.instanceMethod yX6_lostOf, Cond.selects RX6 yX6_lostOf yX6_lostOf, Cond.code yX6_lostOf cX6_lostOf 2 (some .int), Cond.methodLink RX6 99 yX6_propagates, Cond.instanceMethod yX6_propagates, Cond.selects RX6 yX6_propagates yX6_propagates, Cond.code yX6_propagates cX6_propagates 3 none, Cond.fieldLink RX6 28 "HornEngineModel" "counters" "[I", Cond.methodLink RX6 49 yX6_size, Cond.static yX6_size, Cond.code yX6_size cX6_size 3 (some .int), Cond.methodLink RX6 96 yX6_fires]
def wsX6_digest_r3 : List Cond := [Cond.instanceMethod yX6_fires, Cond.selects RX6 yX6_fires yX6_fires, Cond.code yX6_fires cX6_fires 4 none, Cond.methodLink RX6 108 yX6_levelOf, Cond.instanceMethod yX6_levelOf, Cond.selects RX6 yX6_levelOf yX6_levelOf, Cond.code yX6_levelOf cX6_levelOf 6 (some .int), Cond.methodLink RX6 118 yX6_reasonOf, Cond.instanceMethod yX6_reasonOf, Cond.selects RX6 yX6_reasonOf yX6_reasonOf, Cond.code yX6_reasonOf cX6_reasonOf 5 (some .int), Cond.methodLink RX6 121 yX6_necessaryOf, Cond.instanceMethod yX6_necessaryOf, Cond.selects RX6 yX6_necessaryOf yX6_necessaryOf, Cond.code yX6_necessaryOf cX6_necessaryOf 4 (some .int), Cond.methodLink RX6 168 yX6_cyclicAtoms, Cond.instanceMethod yX6_cyclicAtoms, Cond.selects RX6 yX6_cyclicAtoms yX6_cyclicAtoms, Cond.code yX6_cyclicAtoms cX6_cyclicAtoms 3 (some .int), Cond.methodLink RX6 124 yX6_dependenciesOf, Cond.instanceMethod yX6_dependenciesOf, Cond.selects RX6 yX6_dependenciesOf yX6_dependenciesOf, Cond.code yX6_dependenciesOf cX6_dependenciesOf 5 (some .int)]
def wsX6_digest : List Cond := .code yX6_digest cX6_digest 5 (some .long) :: ((wsX6_digest_r1 ++ (wsX6_digest_r2 ++ wsX6_digest_r3)) ++ wsX60)
set_option maxRecDepth 20000 in
theorem ggX0_init_X4_init : GoodIn wsX0_init wsX4_init := goodIn_r _ [9, 10, 2, 3, 11, 12, 13, 16, 17, 18, 19] (by decide +kernel) (by decide +kernel)
set_option maxRecDepth 20000 in
theorem gX0_init_X4_init_n17 : GoodIn wsX0_init (wsX4_init) := ggX0_init_X4_init
theorem dX0_init_0 : decode cX0_init 0 = .ok (.aload_n 0, 1) := by decide +kernel
theorem dX0_init_1 : decode cX0_init 1 = .ok (.invokespecial 3, 3) := by decide +kernel
theorem dX0_init_4 : decode cX0_init 4 = .ok (.aload_n 0, 1) := by decide +kernel
theorem dX0_init_5 : decode cX0_init 5 = .ok (.iconst 4, 1) := by decide +kernel
theorem dX0_init_6 : decode cX0_init 6 = .ok (.anewarray 9, 3) := by decide +kernel
theorem dX0_init_9 : decode cX0_init 9 = .ok (.putfield 11, 3) := by decide +kernel
theorem dX0_init_12 : decode cX0_init 12 = .ok (.iconst 0, 1) := by decide +kernel
theorem dX0_init_13 : decode cX0_init 13 = .ok (.istore_n 1, 1) := by decide +kernel
theorem dX0_init_14 : decode cX0_init 14 = .ok (.iload_n 1, 1) := by decide +kernel
theorem dX0_init_15 : decode cX0_init 15 = .ok (.iconst 4, 1) := by decide +kernel
theorem dX0_init_16 : decode cX0_init 16 = .ok (.if_icmp .ge 22, 3) := by decide +kernel
theorem dX0_init_19 : decode cX0_init 19 = .ok (.aload_n 0, 1) := by decide +kernel
theorem dX0_init_20 : decode cX0_init 20 = .ok (.getfield 11, 3) := by decide +kernel
theorem dX0_init_23 : decode cX0_init 23 = .ok (.iload_n 1, 1) := by decide +kernel
theorem dX0_init_24 : decode cX0_init 24 = .ok (.new 9, 3) := by decide +kernel
theorem dX0_init_27 : decode cX0_init 27 = .ok (.dup, 1) := by decide +kernel
theorem dX0_init_28 : decode cX0_init 28 = .ok (.invokespecial 17, 3) := by decide +kernel
theorem dX0_init_31 : decode cX0_init 31 = .ok (.aastore, 1) := by decide +kernel
theorem dX0_init_32 : decode cX0_init 32 = .ok (.iinc 1 1, 3) := by decide +kernel
theorem dX0_init_35 : decode cX0_init 35 = .ok (.goto (-21), 3) := by decide +kernel
theorem dX0_init_38 : decode cX0_init 38 = .ok (.return_, 1) := by decide +kernel
theorem dX0_size_0 : decode cX0_size 0 = .ok (.aload_n 0, 1) := by decide +kernel
theorem dX0_size_1 : decode cX0_size 1 = .ok (.getfield 18, 3) := by decide +kernel
theorem dX0_size_4 : decode cX0_size 4 = .ok (.ireturn, 1) := by decide +kernel
theorem dX0_isEmpty_0 : decode cX0_isEmpty 0 = .ok (.aload_n 0, 1) := by decide +kernel
theorem dX0_isEmpty_1 : decode cX0_isEmpty 1 = .ok (.getfield 18, 3) := by decide +kernel
theorem dX0_isEmpty_4 : decode cX0_isEmpty 4 = .ok (.ifCond .gt 7, 3) := by decide +kernel
theorem dX0_isEmpty_7 : decode cX0_isEmpty 7 = .ok (.iconst 1, 1) := by decide +kernel
theorem dX0_isEmpty_8 : decode cX0_isEmpty 8 = .ok (.goto 4, 3) := by decide +kernel
theorem dX0_isEmpty_11 : decode cX0_isEmpty 11 = .ok (.iconst 0, 1) := by decide +kernel
theorem dX0_isEmpty_12 : decode cX0_isEmpty 12 = .ok (.ireturn, 1) := by decide +kernel
set_option maxRecDepth 20000 in
theorem ggX0_save_X0_dropOldest : GoodIn wsX0_save wsX0_dropOldest := goodIn_r _ [7, 2, 1, 17, 18] (by decide +kernel) (by decide +kernel)
set_option maxRecDepth 20000 in
theorem gX0_save_X0_dropOldest : GoodIn wsX0_save (wsV RX0 22 RX0 yX0_dropOldest wsX0_dropOldest) := goodIn_app (goodIn_of _ (by decide +kernel)) ggX0_save_X0_dropOldest
set_option maxRecDepth 20000 in
theorem ggX0_save_X4_copyFrom : GoodIn wsX0_save wsX4_copyFrom := goodIn_r _ [12, 13, 14, 15, 16, 19, 20, 21, 22] (by decide +kernel) (by decide +kernel)
set_option maxRecDepth 20000 in
theorem gX0_save_X4_copyFrom : GoodIn wsX0_save (wsV RX0 25 RX4 yX4_copyFrom wsX4_copyFrom) := goodIn_app (goodIn_of _ (by decide +kernel)) ggX0_save_X4_copyFrom
theorem dX0_save_0 : decode cX0_save 0 = .ok (.aload_n 0, 1) := by decide +kernel
theorem dX0_save_1 : decode cX0_save 1 = .ok (.getfield 18, 3) := by decide +kernel
theorem dX0_save_4 : decode cX0_save 4 = .ok (.iconst 4, 1) := by decide +kernel
theorem dX0_save_5 : decode cX0_save 5 = .ok (.if_icmp .lt 7, 3) := by decide +kernel
theorem dX0_save_8 : decode cX0_save 8 = .ok (.aload_n 0, 1) := by decide +kernel
theorem dX0_save_9 : decode cX0_save 9 = .ok (.invokevirtual 22, 3) := by decide +kernel
theorem dX0_save_12 : decode cX0_save 12 = .ok (.aload_n 0, 1) := by decide +kernel
theorem dX0_save_13 : decode cX0_save 13 = .ok (.getfield 11, 3) := by decide +kernel
theorem dX0_save_16 : decode cX0_save 16 = .ok (.aload_n 0, 1) := by decide +kernel
theorem dX0_save_17 : decode cX0_save 17 = .ok (.getfield 18, 3) := by decide +kernel
theorem dX0_save_20 : decode cX0_save 20 = .ok (.aaload, 1) := by decide +kernel
theorem dX0_save_21 : decode cX0_save 21 = .ok (.aload_n 1, 1) := by decide +kernel
theorem dX0_save_22 : decode cX0_save 22 = .ok (.invokevirtual 25, 3) := by decide +kernel
theorem dX0_save_25 : decode cX0_save 25 = .ok (.aload_n 0, 1) := by decide +kernel
theorem dX0_save_26 : decode cX0_save 26 = .ok (.dup, 1) := by decide +kernel
theorem dX0_save_27 : decode cX0_save 27 = .ok (.getfield 18, 3) := by decide +kernel
theorem dX0_save_30 : decode cX0_save 30 = .ok (.iconst 1, 1) := by decide +kernel
theorem dX0_save_31 : decode cX0_save 31 = .ok (.iadd, 1) := by decide +kernel
theorem dX0_save_32 : decode cX0_save 32 = .ok (.putfield 18, 3) := by decide +kernel
theorem dX0_save_35 : decode cX0_save 35 = .ok (.return_, 1) := by decide +kernel
set_option maxRecDepth 20000 in
theorem ggX0_restore_X0_isEmpty : GoodIn wsX0_restore wsX0_isEmpty := goodIn_r _ [7, 1, 17, 18] (by decide +kernel) (by decide +kernel)
set_option maxRecDepth 20000 in
theorem gX0_restore_X0_isEmpty : GoodIn wsX0_restore (wsV RX0 29 RX0 yX0_isEmpty wsX0_isEmpty) := goodIn_app (goodIn_of _ (by decide +kernel)) ggX0_restore_X0_isEmpty
set_option maxRecDepth 20000 in
theorem ggX0_restore_X4_copyFrom : GoodIn wsX0_restore wsX4_copyFrom := goodIn_r _ [12, 13, 14, 15, 16, 19, 20, 21, 22] (by decide +kernel) (by decide +kernel)
set_option maxRecDepth 20000 in
theorem gX0_restore_X4_copyFrom : GoodIn wsX0_restore (wsV RX0 25 RX4 yX4_copyFrom wsX4_copyFrom) := goodIn_app (goodIn_of _ (by decide +kernel)) ggX0_restore_X4_copyFrom
theorem dX0_restore_0 : decode cX0_restore 0 = .ok (.aload_n 0, 1) := by decide +kernel
theorem dX0_restore_1 : decode cX0_restore 1 = .ok (.invokevirtual 29, 3) := by decide +kernel
theorem dX0_restore_4 : decode cX0_restore 4 = .ok (.ifCond .ne 26, 3) := by decide +kernel
theorem dX0_restore_7 : decode cX0_restore 7 = .ok (.aload_n 0, 1) := by decide +kernel
theorem dX0_restore_8 : decode cX0_restore 8 = .ok (.dup, 1) := by decide +kernel
theorem dX0_restore_9 : decode cX0_restore 9 = .ok (.getfield 18, 3) := by decide +kernel
theorem dX0_restore_12 : decode cX0_restore 12 = .ok (.iconst 1, 1) := by decide +kernel
theorem dX0_restore_13 : decode cX0_restore 13 = .ok (.isub, 1) := by decide +kernel
theorem dX0_restore_14 : decode cX0_restore 14 = .ok (.putfield 18, 3) := by decide +kernel
theorem dX0_restore_17 : decode cX0_restore 17 = .ok (.aload_n 1, 1) := by decide +kernel
theorem dX0_restore_18 : decode cX0_restore 18 = .ok (.aload_n 0, 1) := by decide +kernel
theorem dX0_restore_19 : decode cX0_restore 19 = .ok (.getfield 11, 3) := by decide +kernel
theorem dX0_restore_22 : decode cX0_restore 22 = .ok (.aload_n 0, 1) := by decide +kernel
theorem dX0_restore_23 : decode cX0_restore 23 = .ok (.getfield 18, 3) := by decide +kernel
theorem dX0_restore_26 : decode cX0_restore 26 = .ok (.aaload, 1) := by decide +kernel
theorem dX0_restore_27 : decode cX0_restore 27 = .ok (.invokevirtual 25, 3) := by decide +kernel
theorem dX0_restore_30 : decode cX0_restore 30 = .ok (.return_, 1) := by decide +kernel
theorem dX0_dropOldest_0 : decode cX0_dropOldest 0 = .ok (.aload_n 0, 1) := by decide +kernel
theorem dX0_dropOldest_1 : decode cX0_dropOldest 1 = .ok (.getfield 11, 3) := by decide +kernel
theorem dX0_dropOldest_4 : decode cX0_dropOldest 4 = .ok (.iconst 0, 1) := by decide +kernel
theorem dX0_dropOldest_5 : decode cX0_dropOldest 5 = .ok (.aaload, 1) := by decide +kernel
theorem dX0_dropOldest_6 : decode cX0_dropOldest 6 = .ok (.astore_n 1, 1) := by decide +kernel
theorem dX0_dropOldest_7 : decode cX0_dropOldest 7 = .ok (.iconst 1, 1) := by decide +kernel
theorem dX0_dropOldest_8 : decode cX0_dropOldest 8 = .ok (.istore_n 2, 1) := by decide +kernel
theorem dX0_dropOldest_9 : decode cX0_dropOldest 9 = .ok (.iload_n 2, 1) := by decide +kernel
theorem dX0_dropOldest_10 : decode cX0_dropOldest 10 = .ok (.iconst 4, 1) := by decide +kernel
theorem dX0_dropOldest_11 : decode cX0_dropOldest 11 = .ok (.if_icmp .ge 23, 3) := by decide +kernel
theorem dX0_dropOldest_14 : decode cX0_dropOldest 14 = .ok (.aload_n 0, 1) := by decide +kernel
theorem dX0_dropOldest_15 : decode cX0_dropOldest 15 = .ok (.getfield 11, 3) := by decide +kernel
theorem dX0_dropOldest_18 : decode cX0_dropOldest 18 = .ok (.iload_n 2, 1) := by decide +kernel
theorem dX0_dropOldest_19 : decode cX0_dropOldest 19 = .ok (.iconst 1, 1) := by decide +kernel
theorem dX0_dropOldest_20 : decode cX0_dropOldest 20 = .ok (.isub, 1) := by decide +kernel
theorem dX0_dropOldest_21 : decode cX0_dropOldest 21 = .ok (.aload_n 0, 1) := by decide +kernel
theorem dX0_dropOldest_22 : decode cX0_dropOldest 22 = .ok (.getfield 11, 3) := by decide +kernel
theorem dX0_dropOldest_25 : decode cX0_dropOldest 25 = .ok (.iload_n 2, 1) := by decide +kernel
theorem dX0_dropOldest_26 : decode cX0_dropOldest 26 = .ok (.aaload, 1) := by decide +kernel
theorem dX0_dropOldest_27 : decode cX0_dropOldest 27 = .ok (.aastore, 1) := by decide +kernel
theorem dX0_dropOldest_28 : decode cX0_dropOldest 28 = .ok (.iinc 2 1, 3) := by decide +kernel
theorem dX0_dropOldest_31 : decode cX0_dropOldest 31 = .ok (.goto (-22), 3) := by decide +kernel
theorem dX0_dropOldest_34 : decode cX0_dropOldest 34 = .ok (.aload_n 0, 1) := by decide +kernel
theorem dX0_dropOldest_35 : decode cX0_dropOldest 35 = .ok (.getfield 11, 3) := by decide +kernel
theorem dX0_dropOldest_38 : decode cX0_dropOldest 38 = .ok (.iconst 3, 1) := by decide +kernel
theorem dX0_dropOldest_39 : decode cX0_dropOldest 39 = .ok (.aload_n 1, 1) := by decide +kernel
theorem dX0_dropOldest_40 : decode cX0_dropOldest 40 = .ok (.aastore, 1) := by decide +kernel
theorem dX0_dropOldest_41 : decode cX0_dropOldest 41 = .ok (.aload_n 0, 1) := by decide +kernel
theorem dX0_dropOldest_42 : decode cX0_dropOldest 42 = .ok (.iconst 3, 1) := by decide +kernel
theorem dX0_dropOldest_43 : decode cX0_dropOldest 43 = .ok (.putfield 18, 3) := by decide +kernel
theorem dX0_dropOldest_46 : decode cX0_dropOldest 46 = .ok (.return_, 1) := by decide +kernel
set_option maxRecDepth 20000 in
theorem ggX1_init_X2_init : GoodIn wsX1_init wsX2_init := goodIn_r _ [13, 14, 2, 3, 9, 15, 16, 17] (by decide +kernel) (by decide +kernel)
set_option maxRecDepth 20000 in
theorem gX1_init_X2_init : GoodIn wsX1_init (wsX2_init) := ggX1_init_X2_init
theorem dX1_init_0 : decode cX1_init 0 = .ok (.aload_n 0, 1) := by decide +kernel
theorem dX1_init_1 : decode cX1_init 1 = .ok (.invokespecial 3, 3) := by decide +kernel
theorem dX1_init_4 : decode cX1_init 4 = .ok (.aload_n 0, 1) := by decide +kernel
theorem dX1_init_5 : decode cX1_init 5 = .ok (.new 9, 3) := by decide +kernel
theorem dX1_init_8 : decode cX1_init 8 = .ok (.dup, 1) := by decide +kernel
theorem dX1_init_9 : decode cX1_init 9 = .ok (.bipush 16, 2) := by decide +kernel
theorem dX1_init_11 : decode cX1_init 11 = .ok (.invokespecial 11, 3) := by decide +kernel
theorem dX1_init_14 : decode cX1_init 14 = .ok (.putfield 14, 3) := by decide +kernel
theorem dX1_init_17 : decode cX1_init 17 = .ok (.aload_n 0, 1) := by decide +kernel
theorem dX1_init_18 : decode cX1_init 18 = .ok (.new 9, 3) := by decide +kernel
theorem dX1_init_21 : decode cX1_init 21 = .ok (.dup, 1) := by decide +kernel
theorem dX1_init_22 : decode cX1_init 22 = .ok (.bipush 24, 2) := by decide +kernel
theorem dX1_init_24 : decode cX1_init 24 = .ok (.invokespecial 11, 3) := by decide +kernel
theorem dX1_init_27 : decode cX1_init 27 = .ok (.putfield 20, 3) := by decide +kernel
theorem dX1_init_30 : decode cX1_init 30 = .ok (.aload_n 0, 1) := by decide +kernel
theorem dX1_init_31 : decode cX1_init 31 = .ok (.bipush 24, 2) := by decide +kernel
theorem dX1_init_33 : decode cX1_init 33 = .ok (.newarray .int, 2) := by decide +kernel
theorem dX1_init_35 : decode cX1_init 35 = .ok (.putfield 23, 3) := by decide +kernel
theorem dX1_init_38 : decode cX1_init 38 = .ok (.return_, 1) := by decide +kernel
set_option maxRecDepth 20000 in
theorem ggX1_atomCount_X2_size : GoodIn wsX1_atomCount wsX2_size := goodIn_r _ [6, 7, 12, 13] (by decide +kernel) (by decide +kernel)
set_option maxRecDepth 20000 in
theorem gX1_atomCount_X2_size : GoodIn wsX1_atomCount (wsV RX1 27 RX2 yX2_size wsX2_size) := goodIn_app (goodIn_of _ (by decide +kernel)) ggX1_atomCount_X2_size
theorem dX1_atomCount_0 : decode cX1_atomCount 0 = .ok (.aload_n 0, 1) := by decide +kernel
theorem dX1_atomCount_1 : decode cX1_atomCount 1 = .ok (.getfield 14, 3) := by decide +kernel
theorem dX1_atomCount_4 : decode cX1_atomCount 4 = .ok (.invokevirtual 27, 3) := by decide +kernel
theorem dX1_atomCount_7 : decode cX1_atomCount 7 = .ok (.ireturn, 1) := by decide +kernel
set_option maxRecDepth 20000 in
theorem ggX1_atomAt_X2_itemAt : GoodIn wsX1_atomAt wsX2_itemAt := goodIn_r _ [6, 7, 8, 13, 14] (by decide +kernel) (by decide +kernel)
set_option maxRecDepth 20000 in
theorem gX1_atomAt_X2_itemAt : GoodIn wsX1_atomAt (wsV RX1 31 RX2 yX2_itemAt wsX2_itemAt) := goodIn_app (goodIn_of _ (by decide +kernel)) ggX1_atomAt_X2_itemAt
theorem dX1_atomAt_0 : decode cX1_atomAt 0 = .ok (.aload_n 0, 1) := by decide +kernel
theorem dX1_atomAt_1 : decode cX1_atomAt 1 = .ok (.getfield 14, 3) := by decide +kernel
theorem dX1_atomAt_4 : decode cX1_atomAt 4 = .ok (.iload_n 1, 1) := by decide +kernel
theorem dX1_atomAt_5 : decode cX1_atomAt 5 = .ok (.invokevirtual 31, 3) := by decide +kernel
theorem dX1_atomAt_8 : decode cX1_atomAt 8 = .ok (.ireturn, 1) := by decide +kernel
set_option maxRecDepth 20000 in
theorem ggX1_ruleCount_X2_size : GoodIn wsX1_ruleCount wsX2_size := goodIn_r _ [6, 7, 12, 13] (by decide +kernel) (by decide +kernel)
set_option maxRecDepth 20000 in
theorem gX1_ruleCount_X2_size : GoodIn wsX1_ruleCount (wsV RX1 27 RX2 yX2_size wsX2_size) := goodIn_app (goodIn_of _ (by decide +kernel)) ggX1_ruleCount_X2_size
theorem dX1_ruleCount_0 : decode cX1_ruleCount 0 = .ok (.aload_n 0, 1) := by decide +kernel
theorem dX1_ruleCount_1 : decode cX1_ruleCount 1 = .ok (.getfield 20, 3) := by decide +kernel
theorem dX1_ruleCount_4 : decode cX1_ruleCount 4 = .ok (.invokevirtual 27, 3) := by decide +kernel
theorem dX1_ruleCount_7 : decode cX1_ruleCount 7 = .ok (.ireturn, 1) := by decide +kernel
set_option maxRecDepth 20000 in
theorem ggX1_ruleAt_X2_itemAt : GoodIn wsX1_ruleAt wsX2_itemAt := goodIn_r _ [6, 7, 8, 13, 14] (by decide +kernel) (by decide +kernel)
set_option maxRecDepth 20000 in
theorem gX1_ruleAt_X2_itemAt : GoodIn wsX1_ruleAt (wsV RX1 31 RX2 yX2_itemAt wsX2_itemAt) := goodIn_app (goodIn_of _ (by decide +kernel)) ggX1_ruleAt_X2_itemAt
theorem dX1_ruleAt_0 : decode cX1_ruleAt 0 = .ok (.aload_n 0, 1) := by decide +kernel
theorem dX1_ruleAt_1 : decode cX1_ruleAt 1 = .ok (.getfield 20, 3) := by decide +kernel
theorem dX1_ruleAt_4 : decode cX1_ruleAt 4 = .ok (.iload_n 1, 1) := by decide +kernel
theorem dX1_ruleAt_5 : decode cX1_ruleAt 5 = .ok (.invokevirtual 31, 3) := by decide +kernel
theorem dX1_ruleAt_8 : decode cX1_ruleAt 8 = .ok (.ireturn, 1) := by decide +kernel
set_option maxRecDepth 20000 in
theorem ggX1_run_X2_empty : GoodIn wsX1_run wsX2_empty := goodIn_r _ [8, 9, 75, 76] (by decide +kernel) (by decide +kernel)
set_option maxRecDepth 20000 in
theorem gX1_run_X2_empty : GoodIn wsX1_run (wsV RX1 35 RX2 yX2_empty wsX2_empty) := goodIn_app (goodIn_of _ (by decide +kernel)) ggX1_run_X2_empty
set_option maxRecDepth 20000 in
theorem ggX1_run_X1_fireFacts : GoodIn wsX1_run wsX1_fireFacts := goodIn_r _ [14, 15, 16, 17, 18, 19, 20, 21, 22, 23, 24, 25, 26, 27, 28, 29, 30, 31, 32, 33, 34, 35, 36, 37, 38, 39, 40, 13, 41, 2, 3, 1, 42, 43, 44, 45, 46, 47, 48, 49, 7, 50, 51, 9, 52, 53, 54, 55, 56, 57, 58, 71, 72, 73, 74, 77, 78, 79, 80, 75, 76] (by decide +kernel) (by decide +kernel)
set_option maxRecDepth 20000 in
theorem gX1_run_X1_fireFacts : GoodIn wsX1_run (wsV RX1 42 RX1 yX1_fireFacts wsX1_fireFacts) := goodIn_app (goodIn_of _ (by decide +kernel)) ggX1_run_X1_fireFacts
set_option maxRecDepth 20000 in
theorem ggX1_run_X2_size : GoodIn wsX1_run wsX2_size := goodIn_r _ [62, 9, 75, 76] (by decide +kernel) (by decide +kernel)
set_option maxRecDepth 20000 in
theorem gX1_run_X2_size : GoodIn wsX1_run (wsV RX1 27 RX2 yX2_size wsX2_size) := goodIn_app (goodIn_of _ (by decide +kernel)) ggX1_run_X2_size
set_option maxRecDepth 20000 in
theorem ggX1_run_X2_itemAt : GoodIn wsX1_run wsX2_itemAt := goodIn_r _ [66, 9, 51, 75, 76] (by decide +kernel) (by decide +kernel)
set_option maxRecDepth 20000 in
theorem gX1_run_X2_itemAt : GoodIn wsX1_run (wsV RX1 31 RX2 yX2_itemAt wsX2_itemAt) := goodIn_app (goodIn_of _ (by decide +kernel)) ggX1_run_X2_itemAt
set_option maxRecDepth 20000 in
theorem ggX1_run_X1_countDown : GoodIn wsX1_run wsX1_countDown := goodIn_r _ [70, 15, 16, 17, 18, 19, 20, 21, 22, 23, 24, 25, 26, 27, 28, 29, 30, 56, 57, 58, 38, 39, 40, 13, 41, 2, 3, 1, 42, 43, 44, 45, 46, 47, 48, 49, 7, 50, 51, 9, 52, 53, 54, 55, 71, 72, 73, 74, 77, 78, 79, 80, 75, 76] (by decide +kernel) (by decide +kernel)
set_option maxRecDepth 20000 in
theorem gX1_run_X1_countDown : GoodIn wsX1_run (wsV RX1 46 RX1 yX1_countDown wsX1_countDown) := goodIn_app (goodIn_of _ (by decide +kernel)) ggX1_run_X1_countDown
theorem dX1_run_0 : decode cX1_run 0 = .ok (.aload_n 0, 1) := by decide +kernel
theorem dX1_run_1 : decode cX1_run 1 = .ok (.getfield 14, 3) := by decide +kernel
theorem dX1_run_4 : decode cX1_run 4 = .ok (.invokevirtual 35, 3) := by decide +kernel
theorem dX1_run_7 : decode cX1_run 7 = .ok (.aload_n 0, 1) := by decide +kernel
theorem dX1_run_8 : decode cX1_run 8 = .ok (.getfield 20, 3) := by decide +kernel
theorem dX1_run_11 : decode cX1_run 11 = .ok (.invokevirtual 35, 3) := by decide +kernel
theorem dX1_run_14 : decode cX1_run 14 = .ok (.aload_n 0, 1) := by decide +kernel
theorem dX1_run_15 : decode cX1_run 15 = .ok (.iconst 0, 1) := by decide +kernel
theorem dX1_run_16 : decode cX1_run 16 = .ok (.putfield 38, 3) := by decide +kernel
theorem dX1_run_19 : decode cX1_run 19 = .ok (.aload_n 0, 1) := by decide +kernel
theorem dX1_run_20 : decode cX1_run 20 = .ok (.aload_n 1, 1) := by decide +kernel
theorem dX1_run_21 : decode cX1_run 21 = .ok (.invokevirtual 42, 3) := by decide +kernel
theorem dX1_run_24 : decode cX1_run 24 = .ok (.iconst 0, 1) := by decide +kernel
theorem dX1_run_25 : decode cX1_run 25 = .ok (.istore_n 2, 1) := by decide +kernel
theorem dX1_run_26 : decode cX1_run 26 = .ok (.iload_n 2, 1) := by decide +kernel
theorem dX1_run_27 : decode cX1_run 27 = .ok (.bipush 16, 2) := by decide +kernel
theorem dX1_run_29 : decode cX1_run 29 = .ok (.if_icmp .ge 33, 3) := by decide +kernel
theorem dX1_run_32 : decode cX1_run 32 = .ok (.iload_n 2, 1) := by decide +kernel
theorem dX1_run_33 : decode cX1_run 33 = .ok (.aload_n 0, 1) := by decide +kernel
theorem dX1_run_34 : decode cX1_run 34 = .ok (.getfield 14, 3) := by decide +kernel
theorem dX1_run_37 : decode cX1_run 37 = .ok (.invokevirtual 27, 3) := by decide +kernel
theorem dX1_run_40 : decode cX1_run 40 = .ok (.if_icmp .ge 22, 3) := by decide +kernel
theorem dX1_run_43 : decode cX1_run 43 = .ok (.aload_n 0, 1) := by decide +kernel
theorem dX1_run_44 : decode cX1_run 44 = .ok (.aload_n 1, 1) := by decide +kernel
theorem dX1_run_45 : decode cX1_run 45 = .ok (.aload_n 0, 1) := by decide +kernel
theorem dX1_run_46 : decode cX1_run 46 = .ok (.getfield 14, 3) := by decide +kernel
theorem dX1_run_49 : decode cX1_run 49 = .ok (.iload_n 2, 1) := by decide +kernel
theorem dX1_run_50 : decode cX1_run 50 = .ok (.invokevirtual 31, 3) := by decide +kernel
theorem dX1_run_53 : decode cX1_run 53 = .ok (.invokevirtual 46, 3) := by decide +kernel
theorem dX1_run_56 : decode cX1_run 56 = .ok (.iinc 2 1, 3) := by decide +kernel
theorem dX1_run_59 : decode cX1_run 59 = .ok (.goto (-33), 3) := by decide +kernel
theorem dX1_run_62 : decode cX1_run 62 = .ok (.return_, 1) := by decide +kernel
set_option maxRecDepth 20000 in
theorem ggX1_fireFacts_X4_size : GoodIn wsX1_fireFacts wsX4_size := goodIn_r _ [6, 7, 55, 56, 57, 58] (by decide +kernel) (by decide +kernel)
set_option maxRecDepth 20000 in
theorem gX1_fireFacts_X4_size : GoodIn wsX1_fireFacts (wsV RX1 50 RX4 yX4_size wsX4_size) := goodIn_app (goodIn_of _ (by decide +kernel)) ggX1_fireFacts_X4_size
set_option maxRecDepth 20000 in
theorem ggX1_fireFacts_X4_bodyOf : GoodIn wsX1_fireFacts wsX4_bodyOf := goodIn_r _ [11, 12, 13, 14, 15, 5, 16, 7, 55, 56, 57, 58] (by decide +kernel) (by decide +kernel)
set_option maxRecDepth 20000 in
theorem gX1_fireFacts_X4_bodyOf : GoodIn wsX1_fireFacts (wsV RX1 53 RX4 yX4_bodyOf wsX4_bodyOf) := goodIn_app (goodIn_of _ (by decide +kernel)) ggX1_fireFacts_X4_bodyOf
set_option maxRecDepth 20000 in
theorem ggX1_fireFacts_J6_bitCount_0f7a4 : GoodIn wsX1_fireFacts wsJ6_bitCount_0f7a4 := goodIn_r _ [20, 21, 22, 23] (by decide +kernel) (by decide +kernel)
set_option maxRecDepth 20000 in
theorem gX1_fireFacts_J6_bitCount_0f7a4 : GoodIn wsX1_fireFacts (va_wsS RX1 56 yJ6_bitCount_0f7a4 wsJ6_bitCount_0f7a4) := goodIn_app (goodIn_of _ (by decide +kernel)) ggX1_fireFacts_J6_bitCount_0f7a4
set_option maxRecDepth 20000 in
theorem ggX1_fireFacts_X1_fire : GoodIn wsX1_fireFacts wsX1_fire := goodIn_r _ [28, 29, 30, 31, 32, 33, 34, 5, 35, 36, 13, 14, 15, 16, 7, 37, 38, 39, 40, 41, 42, 43, 44, 45, 46, 47, 48, 49, 50, 51, 52, 53, 54, 55, 56, 57, 58, 59, 60] (by decide +kernel) (by decide +kernel)
set_option maxRecDepth 20000 in
theorem gX1_fireFacts_X1_fire : GoodIn wsX1_fireFacts (wsV RX1 61 RX1 yX1_fire wsX1_fire) := goodIn_app (goodIn_of _ (by decide +kernel)) ggX1_fireFacts_X1_fire
theorem dX1_fireFacts_0 : decode cX1_fireFacts 0 = .ok (.iconst 0, 1) := by decide +kernel
theorem dX1_fireFacts_1 : decode cX1_fireFacts 1 = .ok (.istore_n 2, 1) := by decide +kernel
theorem dX1_fireFacts_2 : decode cX1_fireFacts 2 = .ok (.iload_n 2, 1) := by decide +kernel
theorem dX1_fireFacts_3 : decode cX1_fireFacts 3 = .ok (.bipush 24, 2) := by decide +kernel
theorem dX1_fireFacts_5 : decode cX1_fireFacts 5 = .ok (.if_icmp .ge 46, 3) := by decide +kernel
theorem dX1_fireFacts_8 : decode cX1_fireFacts 8 = .ok (.iload_n 2, 1) := by decide +kernel
theorem dX1_fireFacts_9 : decode cX1_fireFacts 9 = .ok (.aload_n 1, 1) := by decide +kernel
theorem dX1_fireFacts_10 : decode cX1_fireFacts 10 = .ok (.invokevirtual 50, 3) := by decide +kernel
theorem dX1_fireFacts_13 : decode cX1_fireFacts 13 = .ok (.if_icmp .ge 38, 3) := by decide +kernel
theorem dX1_fireFacts_16 : decode cX1_fireFacts 16 = .ok (.aload_n 0, 1) := by decide +kernel
theorem dX1_fireFacts_17 : decode cX1_fireFacts 17 = .ok (.getfield 23, 3) := by decide +kernel
theorem dX1_fireFacts_20 : decode cX1_fireFacts 20 = .ok (.iload_n 2, 1) := by decide +kernel
theorem dX1_fireFacts_21 : decode cX1_fireFacts 21 = .ok (.aload_n 1, 1) := by decide +kernel
theorem dX1_fireFacts_22 : decode cX1_fireFacts 22 = .ok (.iload_n 2, 1) := by decide +kernel
theorem dX1_fireFacts_23 : decode cX1_fireFacts 23 = .ok (.invokevirtual 53, 3) := by decide +kernel
theorem dX1_fireFacts_26 : decode cX1_fireFacts 26 = .ok (.invokestatic 56, 3) := by decide +kernel
theorem dX1_fireFacts_29 : decode cX1_fireFacts 29 = .ok (.iastore, 1) := by decide +kernel
theorem dX1_fireFacts_30 : decode cX1_fireFacts 30 = .ok (.aload_n 0, 1) := by decide +kernel
theorem dX1_fireFacts_31 : decode cX1_fireFacts 31 = .ok (.getfield 23, 3) := by decide +kernel
theorem dX1_fireFacts_34 : decode cX1_fireFacts 34 = .ok (.iload_n 2, 1) := by decide +kernel
theorem dX1_fireFacts_35 : decode cX1_fireFacts 35 = .ok (.iaload, 1) := by decide +kernel
theorem dX1_fireFacts_36 : decode cX1_fireFacts 36 = .ok (.ifCond .ne 9, 3) := by decide +kernel
theorem dX1_fireFacts_39 : decode cX1_fireFacts 39 = .ok (.aload_n 0, 1) := by decide +kernel
theorem dX1_fireFacts_40 : decode cX1_fireFacts 40 = .ok (.aload_n 1, 1) := by decide +kernel
theorem dX1_fireFacts_41 : decode cX1_fireFacts 41 = .ok (.iload_n 2, 1) := by decide +kernel
theorem dX1_fireFacts_42 : decode cX1_fireFacts 42 = .ok (.invokevirtual 61, 3) := by decide +kernel
theorem dX1_fireFacts_45 : decode cX1_fireFacts 45 = .ok (.iinc 2 1, 3) := by decide +kernel
theorem dX1_fireFacts_48 : decode cX1_fireFacts 48 = .ok (.goto (-46), 3) := by decide +kernel
theorem dX1_fireFacts_51 : decode cX1_fireFacts 51 = .ok (.return_, 1) := by decide +kernel
set_option maxRecDepth 20000 in
theorem ggX1_countDown_X4_size : GoodIn wsX1_countDown wsX4_size := goodIn_r _ [6, 7, 48, 49, 50, 51] (by decide +kernel) (by decide +kernel)
set_option maxRecDepth 20000 in
theorem gX1_countDown_X4_size : GoodIn wsX1_countDown (wsV RX1 50 RX4 yX4_size wsX4_size) := goodIn_app (goodIn_of _ (by decide +kernel)) ggX1_countDown_X4_size
set_option maxRecDepth 20000 in
theorem ggX1_countDown_X4_bodyOf : GoodIn wsX1_countDown wsX4_bodyOf := goodIn_r _ [11, 12, 13, 14, 15, 5, 16, 7, 48, 49, 50, 51] (by decide +kernel) (by decide +kernel)
set_option maxRecDepth 20000 in
theorem gX1_countDown_X4_bodyOf : GoodIn wsX1_countDown (wsV RX1 53 RX4 yX4_bodyOf wsX4_bodyOf) := goodIn_app (goodIn_of _ (by decide +kernel)) ggX1_countDown_X4_bodyOf
set_option maxRecDepth 20000 in
theorem ggX1_countDown_X5_contains : GoodIn wsX1_countDown wsX5_contains := goodIn_r _ [19] (by decide +kernel) (by decide +kernel)
set_option maxRecDepth 20000 in
theorem gX1_countDown_X5_contains_n64 : GoodIn wsX1_countDown (wsX5_contains) := ggX1_countDown_X5_contains
set_option maxRecDepth 20000 in
theorem ggX1_countDown_X1_fire : GoodIn wsX1_countDown wsX1_fire := goodIn_r _ [24, 25, 26, 27, 28, 29, 30, 5, 31, 32, 13, 14, 15, 16, 7, 33, 34, 35, 36, 37, 38, 39, 40, 41, 42, 43, 17, 18, 19, 44, 45, 46, 47, 48, 49, 50, 51, 52, 53] (by decide +kernel) (by decide +kernel)
set_option maxRecDepth 20000 in
theorem gX1_countDown_X1_fire : GoodIn wsX1_countDown (wsV RX1 61 RX1 yX1_fire wsX1_fire) := goodIn_app (goodIn_of _ (by decide +kernel)) ggX1_countDown_X1_fire
theorem dX1_countDown_0 : decode cX1_countDown 0 = .ok (.iconst 0, 1) := by decide +kernel
theorem dX1_countDown_1 : decode cX1_countDown 1 = .ok (.istore_n 3, 1) := by decide +kernel
theorem dX1_countDown_2 : decode cX1_countDown 2 = .ok (.iload_n 3, 1) := by decide +kernel
theorem dX1_countDown_3 : decode cX1_countDown 3 = .ok (.bipush 24, 2) := by decide +kernel
theorem dX1_countDown_5 : decode cX1_countDown 5 = .ok (.if_icmp .ge 54, 3) := by decide +kernel
theorem dX1_countDown_8 : decode cX1_countDown 8 = .ok (.iload_n 3, 1) := by decide +kernel
theorem dX1_countDown_9 : decode cX1_countDown 9 = .ok (.aload_n 1, 1) := by decide +kernel
theorem dX1_countDown_10 : decode cX1_countDown 10 = .ok (.invokevirtual 50, 3) := by decide +kernel
theorem dX1_countDown_13 : decode cX1_countDown 13 = .ok (.if_icmp .ge 46, 3) := by decide +kernel
theorem dX1_countDown_16 : decode cX1_countDown 16 = .ok (.aload_n 1, 1) := by decide +kernel
theorem dX1_countDown_17 : decode cX1_countDown 17 = .ok (.iload_n 3, 1) := by decide +kernel
theorem dX1_countDown_18 : decode cX1_countDown 18 = .ok (.invokevirtual 53, 3) := by decide +kernel
theorem dX1_countDown_21 : decode cX1_countDown 21 = .ok (.iload_n 2, 1) := by decide +kernel
theorem dX1_countDown_22 : decode cX1_countDown 22 = .ok (.invokestatic 64, 3) := by decide +kernel
theorem dX1_countDown_25 : decode cX1_countDown 25 = .ok (.ifCond .eq 28, 3) := by decide +kernel
theorem dX1_countDown_28 : decode cX1_countDown 28 = .ok (.aload_n 0, 1) := by decide +kernel
theorem dX1_countDown_29 : decode cX1_countDown 29 = .ok (.getfield 23, 3) := by decide +kernel
theorem dX1_countDown_32 : decode cX1_countDown 32 = .ok (.iload_n 3, 1) := by decide +kernel
theorem dX1_countDown_33 : decode cX1_countDown 33 = .ok (.dup2, 1) := by decide +kernel
theorem dX1_countDown_34 : decode cX1_countDown 34 = .ok (.iaload, 1) := by decide +kernel
theorem dX1_countDown_35 : decode cX1_countDown 35 = .ok (.iconst 1, 1) := by decide +kernel
theorem dX1_countDown_36 : decode cX1_countDown 36 = .ok (.isub, 1) := by decide +kernel
theorem dX1_countDown_37 : decode cX1_countDown 37 = .ok (.iastore, 1) := by decide +kernel
theorem dX1_countDown_38 : decode cX1_countDown 38 = .ok (.aload_n 0, 1) := by decide +kernel
theorem dX1_countDown_39 : decode cX1_countDown 39 = .ok (.getfield 23, 3) := by decide +kernel
theorem dX1_countDown_42 : decode cX1_countDown 42 = .ok (.iload_n 3, 1) := by decide +kernel
theorem dX1_countDown_43 : decode cX1_countDown 43 = .ok (.iaload, 1) := by decide +kernel
theorem dX1_countDown_44 : decode cX1_countDown 44 = .ok (.ifCond .ne 9, 3) := by decide +kernel
theorem dX1_countDown_47 : decode cX1_countDown 47 = .ok (.aload_n 0, 1) := by decide +kernel
theorem dX1_countDown_48 : decode cX1_countDown 48 = .ok (.aload_n 1, 1) := by decide +kernel
theorem dX1_countDown_49 : decode cX1_countDown 49 = .ok (.iload_n 3, 1) := by decide +kernel
theorem dX1_countDown_50 : decode cX1_countDown 50 = .ok (.invokevirtual 61, 3) := by decide +kernel
theorem dX1_countDown_53 : decode cX1_countDown 53 = .ok (.iinc 3 1, 3) := by decide +kernel
theorem dX1_countDown_56 : decode cX1_countDown 56 = .ok (.goto (-54), 3) := by decide +kernel
theorem dX1_countDown_59 : decode cX1_countDown 59 = .ok (.return_, 1) := by decide +kernel
set_option maxRecDepth 20000 in
theorem ggX1_fire_X4_headOf : GoodIn wsX1_fire wsX4_headOf := goodIn_r _ [8, 9, 10, 11, 12, 7, 13, 14, 33, 34, 35, 36] (by decide +kernel) (by decide +kernel)
set_option maxRecDepth 20000 in
theorem gX1_fire_X4_headOf : GoodIn wsX1_fire (wsV RX1 68 RX4 yX4_headOf wsX4_headOf) := goodIn_app (goodIn_of _ (by decide +kernel)) ggX1_fire_X4_headOf
set_option maxRecDepth 20000 in
theorem ggX1_fire_X2_addLast : GoodIn wsX1_fire wsX2_addLast := goodIn_r _ [19, 20, 21, 22, 23, 24, 18, 25, 37, 38] (by decide +kernel) (by decide +kernel)
set_option maxRecDepth 20000 in
theorem gX1_fire_X2_addLast : GoodIn wsX1_fire (wsV RX1 71 RX2 yX2_addLast wsX2_addLast) := goodIn_app (goodIn_of _ (by decide +kernel)) ggX1_fire_X2_addLast
set_option maxRecDepth 20000 in
theorem ggX1_fire_X5_contains : GoodIn wsX1_fire wsX5_contains := goodIn_r _ [28] (by decide +kernel) (by decide +kernel)
set_option maxRecDepth 20000 in
theorem gX1_fire_X5_contains_n64 : GoodIn wsX1_fire (wsX5_contains) := ggX1_fire_X5_contains
theorem dX1_fire_0 : decode cX1_fire 0 = .ok (.aload_n 1, 1) := by decide +kernel
theorem dX1_fire_1 : decode cX1_fire 1 = .ok (.iload_n 2, 1) := by decide +kernel
theorem dX1_fire_2 : decode cX1_fire 2 = .ok (.invokevirtual 68, 3) := by decide +kernel
theorem dX1_fire_5 : decode cX1_fire 5 = .ok (.istore_n 3, 1) := by decide +kernel
theorem dX1_fire_6 : decode cX1_fire 6 = .ok (.aload_n 0, 1) := by decide +kernel
theorem dX1_fire_7 : decode cX1_fire 7 = .ok (.getfield 20, 3) := by decide +kernel
theorem dX1_fire_10 : decode cX1_fire 10 = .ok (.iload_n 2, 1) := by decide +kernel
theorem dX1_fire_11 : decode cX1_fire 11 = .ok (.invokevirtual 71, 3) := by decide +kernel
theorem dX1_fire_14 : decode cX1_fire 14 = .ok (.aload_n 0, 1) := by decide +kernel
theorem dX1_fire_15 : decode cX1_fire 15 = .ok (.getfield 38, 3) := by decide +kernel
theorem dX1_fire_18 : decode cX1_fire 18 = .ok (.iload_n 3, 1) := by decide +kernel
theorem dX1_fire_19 : decode cX1_fire 19 = .ok (.invokestatic 64, 3) := by decide +kernel
theorem dX1_fire_22 : decode cX1_fire 22 = .ok (.ifCond .ne 23, 3) := by decide +kernel
theorem dX1_fire_25 : decode cX1_fire 25 = .ok (.aload_n 0, 1) := by decide +kernel
theorem dX1_fire_26 : decode cX1_fire 26 = .ok (.dup, 1) := by decide +kernel
theorem dX1_fire_27 : decode cX1_fire 27 = .ok (.getfield 38, 3) := by decide +kernel
theorem dX1_fire_30 : decode cX1_fire 30 = .ok (.iconst 1, 1) := by decide +kernel
theorem dX1_fire_31 : decode cX1_fire 31 = .ok (.iload_n 3, 1) := by decide +kernel
theorem dX1_fire_32 : decode cX1_fire 32 = .ok (.ishl, 1) := by decide +kernel
theorem dX1_fire_33 : decode cX1_fire 33 = .ok (.ior, 1) := by decide +kernel
theorem dX1_fire_34 : decode cX1_fire 34 = .ok (.putfield 38, 3) := by decide +kernel
theorem dX1_fire_37 : decode cX1_fire 37 = .ok (.aload_n 0, 1) := by decide +kernel
theorem dX1_fire_38 : decode cX1_fire 38 = .ok (.getfield 14, 3) := by decide +kernel
theorem dX1_fire_41 : decode cX1_fire 41 = .ok (.iload_n 3, 1) := by decide +kernel
theorem dX1_fire_42 : decode cX1_fire 42 = .ok (.invokevirtual 71, 3) := by decide +kernel
theorem dX1_fire_45 : decode cX1_fire 45 = .ok (.return_, 1) := by decide +kernel
theorem dX2_init_0 : decode cX2_init 0 = .ok (.aload_n 0, 1) := by decide +kernel
theorem dX2_init_1 : decode cX2_init 1 = .ok (.invokespecial 3, 3) := by decide +kernel
theorem dX2_init_4 : decode cX2_init 4 = .ok (.aload_n 0, 1) := by decide +kernel
theorem dX2_init_5 : decode cX2_init 5 = .ok (.iload_n 1, 1) := by decide +kernel
theorem dX2_init_6 : decode cX2_init 6 = .ok (.ifCond .ge 7, 3) := by decide +kernel
theorem dX2_init_9 : decode cX2_init 9 = .ok (.iconst 0, 1) := by decide +kernel
theorem dX2_init_10 : decode cX2_init 10 = .ok (.goto 4, 3) := by decide +kernel
theorem dX2_init_13 : decode cX2_init 13 = .ok (.iload_n 1, 1) := by decide +kernel
theorem dX2_init_14 : decode cX2_init 14 = .ok (.newarray .int, 2) := by decide +kernel
theorem dX2_init_16 : decode cX2_init 16 = .ok (.putfield 9, 3) := by decide +kernel
theorem dX2_init_19 : decode cX2_init 19 = .ok (.return_, 1) := by decide +kernel
theorem dX2_size_0 : decode cX2_size 0 = .ok (.aload_n 0, 1) := by decide +kernel
theorem dX2_size_1 : decode cX2_size 1 = .ok (.getfield 15, 3) := by decide +kernel
theorem dX2_size_4 : decode cX2_size 4 = .ok (.ireturn, 1) := by decide +kernel
theorem dX2_isFull_0 : decode cX2_isFull 0 = .ok (.aload_n 0, 1) := by decide +kernel
theorem dX2_isFull_1 : decode cX2_isFull 1 = .ok (.getfield 15, 3) := by decide +kernel
theorem dX2_isFull_4 : decode cX2_isFull 4 = .ok (.aload_n 0, 1) := by decide +kernel
theorem dX2_isFull_5 : decode cX2_isFull 5 = .ok (.getfield 9, 3) := by decide +kernel
theorem dX2_isFull_8 : decode cX2_isFull 8 = .ok (.arraylength, 1) := by decide +kernel
theorem dX2_isFull_9 : decode cX2_isFull 9 = .ok (.if_icmp .lt 7, 3) := by decide +kernel
theorem dX2_isFull_12 : decode cX2_isFull 12 = .ok (.iconst 1, 1) := by decide +kernel
theorem dX2_isFull_13 : decode cX2_isFull 13 = .ok (.goto 4, 3) := by decide +kernel
theorem dX2_isFull_16 : decode cX2_isFull 16 = .ok (.iconst 0, 1) := by decide +kernel
theorem dX2_isFull_17 : decode cX2_isFull 17 = .ok (.ireturn, 1) := by decide +kernel
theorem dX2_empty_0 : decode cX2_empty 0 = .ok (.aload_n 0, 1) := by decide +kernel
theorem dX2_empty_1 : decode cX2_empty 1 = .ok (.iconst 0, 1) := by decide +kernel
theorem dX2_empty_2 : decode cX2_empty 2 = .ok (.putfield 15, 3) := by decide +kernel
theorem dX2_empty_5 : decode cX2_empty 5 = .ok (.return_, 1) := by decide +kernel
set_option maxRecDepth 20000 in
theorem ggX2_addLast_X2_isFull : GoodIn wsX2_addLast wsX2_isFull := goodIn_r _ [7, 2, 1, 8, 9] (by decide +kernel) (by decide +kernel)
set_option maxRecDepth 20000 in
theorem gX2_addLast_X2_isFull : GoodIn wsX2_addLast (wsV RX2 19 RX2 yX2_isFull wsX2_isFull) := goodIn_app (goodIn_of _ (by decide +kernel)) ggX2_addLast_X2_isFull
theorem dX2_addLast_0 : decode cX2_addLast 0 = .ok (.aload_n 0, 1) := by decide +kernel
theorem dX2_addLast_1 : decode cX2_addLast 1 = .ok (.invokevirtual 19, 3) := by decide +kernel
theorem dX2_addLast_4 : decode cX2_addLast 4 = .ok (.ifCond .ne 23, 3) := by decide +kernel
theorem dX2_addLast_7 : decode cX2_addLast 7 = .ok (.aload_n 0, 1) := by decide +kernel
theorem dX2_addLast_8 : decode cX2_addLast 8 = .ok (.getfield 9, 3) := by decide +kernel
theorem dX2_addLast_11 : decode cX2_addLast 11 = .ok (.aload_n 0, 1) := by decide +kernel
theorem dX2_addLast_12 : decode cX2_addLast 12 = .ok (.getfield 15, 3) := by decide +kernel
theorem dX2_addLast_15 : decode cX2_addLast 15 = .ok (.iload_n 1, 1) := by decide +kernel
theorem dX2_addLast_16 : decode cX2_addLast 16 = .ok (.iastore, 1) := by decide +kernel
theorem dX2_addLast_17 : decode cX2_addLast 17 = .ok (.aload_n 0, 1) := by decide +kernel
theorem dX2_addLast_18 : decode cX2_addLast 18 = .ok (.dup, 1) := by decide +kernel
theorem dX2_addLast_19 : decode cX2_addLast 19 = .ok (.getfield 15, 3) := by decide +kernel
theorem dX2_addLast_22 : decode cX2_addLast 22 = .ok (.iconst 1, 1) := by decide +kernel
theorem dX2_addLast_23 : decode cX2_addLast 23 = .ok (.iadd, 1) := by decide +kernel
theorem dX2_addLast_24 : decode cX2_addLast 24 = .ok (.putfield 15, 3) := by decide +kernel
theorem dX2_addLast_27 : decode cX2_addLast 27 = .ok (.return_, 1) := by decide +kernel
theorem dX2_itemAt_0 : decode cX2_itemAt 0 = .ok (.iload_n 1, 1) := by decide +kernel
theorem dX2_itemAt_1 : decode cX2_itemAt 1 = .ok (.ifCond .lt 20, 3) := by decide +kernel
theorem dX2_itemAt_4 : decode cX2_itemAt 4 = .ok (.iload_n 1, 1) := by decide +kernel
theorem dX2_itemAt_5 : decode cX2_itemAt 5 = .ok (.aload_n 0, 1) := by decide +kernel
theorem dX2_itemAt_6 : decode cX2_itemAt 6 = .ok (.getfield 15, 3) := by decide +kernel
theorem dX2_itemAt_9 : decode cX2_itemAt 9 = .ok (.if_icmp .ge 12, 3) := by decide +kernel
theorem dX2_itemAt_12 : decode cX2_itemAt 12 = .ok (.aload_n 0, 1) := by decide +kernel
theorem dX2_itemAt_13 : decode cX2_itemAt 13 = .ok (.getfield 9, 3) := by decide +kernel
theorem dX2_itemAt_16 : decode cX2_itemAt 16 = .ok (.iload_n 1, 1) := by decide +kernel
theorem dX2_itemAt_17 : decode cX2_itemAt 17 = .ok (.iaload, 1) := by decide +kernel
theorem dX2_itemAt_18 : decode cX2_itemAt 18 = .ok (.goto 4, 3) := by decide +kernel
theorem dX2_itemAt_21 : decode cX2_itemAt 21 = .ok (.iconst (-1), 1) := by decide +kernel
theorem dX2_itemAt_22 : decode cX2_itemAt 22 = .ok (.ireturn, 1) := by decide +kernel
set_option maxRecDepth 20000 in
theorem ggX3_init_X4_init : GoodIn wsX3_init wsX4_init := goodIn_r _ [9, 10, 2, 3, 11, 12, 13, 14, 15, 16, 17] (by decide +kernel) (by decide +kernel)
set_option maxRecDepth 20000 in
theorem gX3_init_X4_init_n11 : GoodIn wsX3_init (wsX4_init) := ggX3_init_X4_init
theorem dX3_init_0 : decode cX3_init 0 = .ok (.aload_n 0, 1) := by decide +kernel
theorem dX3_init_1 : decode cX3_init 1 = .ok (.invokespecial 3, 3) := by decide +kernel
theorem dX3_init_4 : decode cX3_init 4 = .ok (.aload_n 0, 1) := by decide +kernel
theorem dX3_init_5 : decode cX3_init 5 = .ok (.new 9, 3) := by decide +kernel
theorem dX3_init_8 : decode cX3_init 8 = .ok (.dup, 1) := by decide +kernel
theorem dX3_init_9 : decode cX3_init 9 = .ok (.invokespecial 11, 3) := by decide +kernel
theorem dX3_init_12 : decode cX3_init 12 = .ok (.putfield 12, 3) := by decide +kernel
theorem dX3_init_15 : decode cX3_init 15 = .ok (.return_, 1) := by decide +kernel
theorem dX3_errorAt_0 : decode cX3_errorAt 0 = .ok (.aload_n 0, 1) := by decide +kernel
theorem dX3_errorAt_1 : decode cX3_errorAt 1 = .ok (.getfield 18, 3) := by decide +kernel
theorem dX3_errorAt_4 : decode cX3_errorAt 4 = .ok (.ireturn, 1) := by decide +kernel
set_option maxRecDepth 20000 in
theorem ggX3_copyResultTo_X4_copyFrom : GoodIn wsX3_copyResultTo wsX4_copyFrom := goodIn_r _ [6, 7, 8, 9, 10, 14, 15, 16, 17] (by decide +kernel) (by decide +kernel)
set_option maxRecDepth 20000 in
theorem gX3_copyResultTo_X4_copyFrom : GoodIn wsX3_copyResultTo (wsV RX3 22 RX4 yX4_copyFrom wsX4_copyFrom) := goodIn_app (goodIn_of _ (by decide +kernel)) ggX3_copyResultTo_X4_copyFrom
theorem dX3_copyResultTo_0 : decode cX3_copyResultTo 0 = .ok (.aload_n 1, 1) := by decide +kernel
theorem dX3_copyResultTo_1 : decode cX3_copyResultTo 1 = .ok (.aload_n 0, 1) := by decide +kernel
theorem dX3_copyResultTo_2 : decode cX3_copyResultTo 2 = .ok (.getfield 12, 3) := by decide +kernel
theorem dX3_copyResultTo_5 : decode cX3_copyResultTo 5 = .ok (.invokevirtual 22, 3) := by decide +kernel
theorem dX3_copyResultTo_8 : decode cX3_copyResultTo 8 = .ok (.return_, 1) := by decide +kernel
set_option maxRecDepth 20000 in
theorem ggX3_readOnto_X4_copyFrom : GoodIn wsX3_readOnto wsX4_copyFrom := goodIn_r _ [7, 8, 9, 10, 11, 69, 70, 71, 72] (by decide +kernel) (by decide +kernel)
set_option maxRecDepth 20000 in
theorem gX3_readOnto_X4_copyFrom : GoodIn wsX3_readOnto (wsV RX3 22 RX4 yX4_copyFrom wsX4_copyFrom) := goodIn_app (goodIn_of _ (by decide +kernel)) ggX3_readOnto_X4_copyFrom
set_option maxRecDepth 20000 in
theorem ggX3_readOnto_X3_skipSpaces : GoodIn wsX3_readOnto wsX3_skipSpaces := goodIn_r _ [16, 2, 17, 18, 19, 20, 21, 22, 23, 24, 25, 26, 27, 66, 67, 68, 73, 74] (by decide +kernel) (by decide +kernel)
set_option maxRecDepth 20000 in
theorem gX3_readOnto_X3_skipSpaces : GoodIn wsX3_readOnto (wsV RX3 29 RX3 yX3_skipSpaces wsX3_skipSpaces) := goodIn_app (goodIn_of _ (by decide +kernel)) ggX3_readOnto_X3_skipSpaces
set_option maxRecDepth 20000 in
theorem ggX3_readOnto_X2_size : GoodIn wsX3_readOnto wsX2_size := goodIn_r _ [21, 22, 73, 74] (by decide +kernel) (by decide +kernel)
set_option maxRecDepth 20000 in
theorem gX3_readOnto_X2_size : GoodIn wsX3_readOnto (wsV RX3 33 RX2 yX2_size wsX2_size) := goodIn_app (goodIn_of _ (by decide +kernel)) ggX3_readOnto_X2_size
set_option maxRecDepth 20000 in
theorem ggX3_readOnto_X3_readRule : GoodIn wsX3_readOnto wsX3_readRule := goodIn_r _ [31, 1, 2, 32, 33, 34, 6, 35, 8, 36, 37, 38, 15, 39, 40, 41, 42, 43, 44, 23, 24, 25, 20, 26, 22, 27, 45, 46, 47, 48, 49, 50, 51, 52, 53, 54, 12, 13, 14, 16, 17, 18, 19, 21, 55, 56, 57, 58, 59, 60, 61, 62, 63, 64, 9, 10, 65, 66, 67, 68, 69, 70, 71, 72, 73, 74] (by decide +kernel) (by decide +kernel)
set_option maxRecDepth 20000 in
theorem gX3_readOnto_X3_readRule : GoodIn wsX3_readOnto (wsV RX3 39 RX3 yX3_readRule wsX3_readRule) := goodIn_app (goodIn_of _ (by decide +kernel)) ggX3_readOnto_X3_readRule
theorem dX3_readOnto_0 : decode cX3_readOnto 0 = .ok (.aload_n 0, 1) := by decide +kernel
theorem dX3_readOnto_1 : decode cX3_readOnto 1 = .ok (.getfield 12, 3) := by decide +kernel
theorem dX3_readOnto_4 : decode cX3_readOnto 4 = .ok (.aload_n 1, 1) := by decide +kernel
theorem dX3_readOnto_5 : decode cX3_readOnto 5 = .ok (.invokevirtual 22, 3) := by decide +kernel
theorem dX3_readOnto_8 : decode cX3_readOnto 8 = .ok (.aload_n 0, 1) := by decide +kernel
theorem dX3_readOnto_9 : decode cX3_readOnto 9 = .ok (.iconst 0, 1) := by decide +kernel
theorem dX3_readOnto_10 : decode cX3_readOnto 10 = .ok (.putfield 26, 3) := by decide +kernel
theorem dX3_readOnto_13 : decode cX3_readOnto 13 = .ok (.aload_n 0, 1) := by decide +kernel
theorem dX3_readOnto_14 : decode cX3_readOnto 14 = .ok (.aload_n 2, 1) := by decide +kernel
theorem dX3_readOnto_15 : decode cX3_readOnto 15 = .ok (.invokevirtual 29, 3) := by decide +kernel
theorem dX3_readOnto_18 : decode cX3_readOnto 18 = .ok (.iconst 0, 1) := by decide +kernel
theorem dX3_readOnto_19 : decode cX3_readOnto 19 = .ok (.istore_n 3, 1) := by decide +kernel
theorem dX3_readOnto_20 : decode cX3_readOnto 20 = .ok (.iload_n 3, 1) := by decide +kernel
theorem dX3_readOnto_21 : decode cX3_readOnto 21 = .ok (.bipush 24, 2) := by decide +kernel
theorem dX3_readOnto_23 : decode cX3_readOnto 23 = .ok (.if_icmp .gt 35, 3) := by decide +kernel
theorem dX3_readOnto_26 : decode cX3_readOnto 26 = .ok (.aload_n 0, 1) := by decide +kernel
theorem dX3_readOnto_27 : decode cX3_readOnto 27 = .ok (.getfield 26, 3) := by decide +kernel
theorem dX3_readOnto_30 : decode cX3_readOnto 30 = .ok (.aload_n 2, 1) := by decide +kernel
theorem dX3_readOnto_31 : decode cX3_readOnto 31 = .ok (.invokevirtual 33, 3) := by decide +kernel
theorem dX3_readOnto_34 : decode cX3_readOnto 34 = .ok (.if_icmp .ge 24, 3) := by decide +kernel
theorem dX3_readOnto_37 : decode cX3_readOnto 37 = .ok (.aload_n 0, 1) := by decide +kernel
theorem dX3_readOnto_38 : decode cX3_readOnto 38 = .ok (.aload_n 2, 1) := by decide +kernel
theorem dX3_readOnto_39 : decode cX3_readOnto 39 = .ok (.invokevirtual 39, 3) := by decide +kernel
theorem dX3_readOnto_42 : decode cX3_readOnto 42 = .ok (.ifCond .ne 5, 3) := by decide +kernel
theorem dX3_readOnto_45 : decode cX3_readOnto 45 = .ok (.iconst 0, 1) := by decide +kernel
theorem dX3_readOnto_46 : decode cX3_readOnto 46 = .ok (.ireturn, 1) := by decide +kernel
theorem dX3_readOnto_47 : decode cX3_readOnto 47 = .ok (.aload_n 0, 1) := by decide +kernel
theorem dX3_readOnto_48 : decode cX3_readOnto 48 = .ok (.aload_n 2, 1) := by decide +kernel
theorem dX3_readOnto_49 : decode cX3_readOnto 49 = .ok (.invokevirtual 29, 3) := by decide +kernel
theorem dX3_readOnto_52 : decode cX3_readOnto 52 = .ok (.iinc 3 1, 3) := by decide +kernel
theorem dX3_readOnto_55 : decode cX3_readOnto 55 = .ok (.goto (-35), 3) := by decide +kernel
theorem dX3_readOnto_58 : decode cX3_readOnto 58 = .ok (.iconst 1, 1) := by decide +kernel
theorem dX3_readOnto_59 : decode cX3_readOnto 59 = .ok (.ireturn, 1) := by decide +kernel
set_option maxRecDepth 20000 in
theorem ggX3_readRule_X4_isFull : GoodIn wsX3_readRule wsX4_isFull := goodIn_r _ [7, 8, 60, 61, 62, 63] (by decide +kernel) (by decide +kernel)
set_option maxRecDepth 20000 in
theorem gX3_readRule_X4_isFull : GoodIn wsX3_readRule (wsV RX3 43 RX4 yX4_isFull wsX4_isFull) := goodIn_app (goodIn_of _ (by decide +kernel)) ggX3_readRule_X4_isFull
set_option maxRecDepth 20000 in
theorem ggX3_readRule_X3_refuse : GoodIn wsX3_readRule wsX3_refuse := goodIn_r _ [13, 14, 57, 58, 59] (by decide +kernel) (by decide +kernel)
set_option maxRecDepth 20000 in
theorem gX3_readRule_X3_refuse : GoodIn wsX3_readRule (wsV RX3 47 RX3 yX3_refuse wsX3_refuse) := goodIn_app (goodIn_of _ (by decide +kernel)) ggX3_readRule_X3_refuse
set_option maxRecDepth 20000 in
theorem ggX3_readRule_X3_readAtom : GoodIn wsX3_readRule wsX3_readAtom := goodIn_r _ [18, 2, 19, 20, 21, 22, 23, 24, 25, 26, 27, 12, 28, 9, 10, 11, 13, 14, 29, 30, 31, 57, 58, 59, 64, 65] (by decide +kernel) (by decide +kernel)
set_option maxRecDepth 20000 in
theorem gX3_readRule_X3_readAtom : GoodIn wsX3_readRule (wsV RX3 51 RX3 yX3_readAtom wsX3_readAtom) := goodIn_app (goodIn_of _ (by decide +kernel)) ggX3_readRule_X3_readAtom
set_option maxRecDepth 20000 in
theorem ggX3_readRule_X3_take : GoodIn wsX3_readRule wsX3_take := goodIn_r _ [35, 2, 36, 37, 38, 12, 39, 40, 41, 42, 22, 43, 24, 19, 20, 21, 23, 25, 9, 10, 11, 13, 14, 57, 58, 59, 64, 65] (by decide +kernel) (by decide +kernel)
set_option maxRecDepth 20000 in
theorem gX3_readRule_X3_take : GoodIn wsX3_readRule (wsV RX3 55 RX3 yX3_take wsX3_take) := goodIn_app (goodIn_of _ (by decide +kernel)) ggX3_readRule_X3_take
set_option maxRecDepth 20000 in
theorem ggX3_readRule_X3_readBody : GoodIn wsX3_readRule wsX3_readBody := goodIn_r _ [47, 2, 36, 37, 38, 12, 39, 40, 41, 42, 22, 43, 24, 19, 20, 21, 23, 25, 15, 16, 17, 18, 26, 27, 28, 9, 10, 11, 13, 14, 29, 30, 31, 48, 49, 57, 58, 59, 64, 65] (by decide +kernel) (by decide +kernel)
set_option maxRecDepth 20000 in
theorem gX3_readRule_X3_readBody : GoodIn wsX3_readRule (wsV RX3 59 RX3 yX3_readBody wsX3_readBody) := goodIn_app (goodIn_of _ (by decide +kernel)) ggX3_readRule_X3_readBody
set_option maxRecDepth 20000 in
theorem ggX3_readRule_X4_addLast : GoodIn wsX3_readRule wsX4_addLast := goodIn_r _ [53, 54, 8, 55, 56, 4, 5, 6, 7, 60, 61, 62, 63] (by decide +kernel) (by decide +kernel)
set_option maxRecDepth 20000 in
theorem gX3_readRule_X4_addLast : GoodIn wsX3_readRule (wsV RX3 62 RX4 yX4_addLast wsX4_addLast) := goodIn_app (goodIn_of _ (by decide +kernel)) ggX3_readRule_X4_addLast
theorem dX3_readRule_0 : decode cX3_readRule 0 = .ok (.aload_n 0, 1) := by decide +kernel
theorem dX3_readRule_1 : decode cX3_readRule 1 = .ok (.getfield 12, 3) := by decide +kernel
theorem dX3_readRule_4 : decode cX3_readRule 4 = .ok (.invokevirtual 43, 3) := by decide +kernel
theorem dX3_readRule_7 : decode cX3_readRule 7 = .ok (.ifCond .eq 14, 3) := by decide +kernel
theorem dX3_readRule_10 : decode cX3_readRule 10 = .ok (.aload_n 0, 1) := by decide +kernel
theorem dX3_readRule_11 : decode cX3_readRule 11 = .ok (.aload_n 0, 1) := by decide +kernel
theorem dX3_readRule_12 : decode cX3_readRule 12 = .ok (.getfield 26, 3) := by decide +kernel
theorem dX3_readRule_15 : decode cX3_readRule 15 = .ok (.invokevirtual 47, 3) := by decide +kernel
theorem dX3_readRule_18 : decode cX3_readRule 18 = .ok (.pop, 1) := by decide +kernel
theorem dX3_readRule_19 : decode cX3_readRule 19 = .ok (.iconst 0, 1) := by decide +kernel
theorem dX3_readRule_20 : decode cX3_readRule 20 = .ok (.ireturn, 1) := by decide +kernel
theorem dX3_readRule_21 : decode cX3_readRule 21 = .ok (.aload_n 0, 1) := by decide +kernel
theorem dX3_readRule_22 : decode cX3_readRule 22 = .ok (.aload_n 1, 1) := by decide +kernel
theorem dX3_readRule_23 : decode cX3_readRule 23 = .ok (.invokevirtual 51, 3) := by decide +kernel
theorem dX3_readRule_26 : decode cX3_readRule 26 = .ok (.istore_n 2, 1) := by decide +kernel
theorem dX3_readRule_27 : decode cX3_readRule 27 = .ok (.iload_n 2, 1) := by decide +kernel
theorem dX3_readRule_28 : decode cX3_readRule 28 = .ok (.iconst (-1), 1) := by decide +kernel
theorem dX3_readRule_29 : decode cX3_readRule 29 = .ok (.if_icmp .eq 13, 3) := by decide +kernel
theorem dX3_readRule_32 : decode cX3_readRule 32 = .ok (.aload_n 0, 1) := by decide +kernel
theorem dX3_readRule_33 : decode cX3_readRule 33 = .ok (.aload_n 1, 1) := by decide +kernel
theorem dX3_readRule_34 : decode cX3_readRule 34 = .ok (.bipush 58, 2) := by decide +kernel
theorem dX3_readRule_36 : decode cX3_readRule 36 = .ok (.invokevirtual 55, 3) := by decide +kernel
theorem dX3_readRule_39 : decode cX3_readRule 39 = .ok (.ifCond .ne 5, 3) := by decide +kernel
theorem dX3_readRule_42 : decode cX3_readRule 42 = .ok (.iconst 0, 1) := by decide +kernel
theorem dX3_readRule_43 : decode cX3_readRule 43 = .ok (.ireturn, 1) := by decide +kernel
theorem dX3_readRule_44 : decode cX3_readRule 44 = .ok (.aload_n 0, 1) := by decide +kernel
theorem dX3_readRule_45 : decode cX3_readRule 45 = .ok (.aload_n 1, 1) := by decide +kernel
theorem dX3_readRule_46 : decode cX3_readRule 46 = .ok (.invokevirtual 59, 3) := by decide +kernel
theorem dX3_readRule_49 : decode cX3_readRule 49 = .ok (.istore_n 3, 1) := by decide +kernel
theorem dX3_readRule_50 : decode cX3_readRule 50 = .ok (.iload_n 3, 1) := by decide +kernel
theorem dX3_readRule_51 : decode cX3_readRule 51 = .ok (.iconst (-1), 1) := by decide +kernel
theorem dX3_readRule_52 : decode cX3_readRule 52 = .ok (.if_icmp .eq 13, 3) := by decide +kernel
theorem dX3_readRule_55 : decode cX3_readRule 55 = .ok (.aload_n 0, 1) := by decide +kernel
theorem dX3_readRule_56 : decode cX3_readRule 56 = .ok (.aload_n 1, 1) := by decide +kernel
theorem dX3_readRule_57 : decode cX3_readRule 57 = .ok (.bipush 59, 2) := by decide +kernel
theorem dX3_readRule_59 : decode cX3_readRule 59 = .ok (.invokevirtual 55, 3) := by decide +kernel
theorem dX3_readRule_62 : decode cX3_readRule 62 = .ok (.ifCond .ne 5, 3) := by decide +kernel
theorem dX3_readRule_65 : decode cX3_readRule 65 = .ok (.iconst 0, 1) := by decide +kernel
theorem dX3_readRule_66 : decode cX3_readRule 66 = .ok (.ireturn, 1) := by decide +kernel
theorem dX3_readRule_67 : decode cX3_readRule 67 = .ok (.aload_n 0, 1) := by decide +kernel
theorem dX3_readRule_68 : decode cX3_readRule 68 = .ok (.getfield 12, 3) := by decide +kernel
theorem dX3_readRule_71 : decode cX3_readRule 71 = .ok (.iload_n 2, 1) := by decide +kernel
theorem dX3_readRule_72 : decode cX3_readRule 72 = .ok (.iload_n 3, 1) := by decide +kernel
theorem dX3_readRule_73 : decode cX3_readRule 73 = .ok (.invokevirtual 62, 3) := by decide +kernel
theorem dX3_readRule_76 : decode cX3_readRule 76 = .ok (.iconst 1, 1) := by decide +kernel
theorem dX3_readRule_77 : decode cX3_readRule 77 = .ok (.ireturn, 1) := by decide +kernel
set_option maxRecDepth 20000 in
theorem ggX3_readBody_X3_skipSpaces : GoodIn wsX3_readBody wsX3_skipSpaces := goodIn_r _ [6, 1, 7, 8, 9, 10, 11, 12, 13, 14, 15, 16, 17, 35, 36, 37, 38, 39] (by decide +kernel) (by decide +kernel)
set_option maxRecDepth 20000 in
theorem gX3_readBody_X3_skipSpaces : GoodIn wsX3_readBody (wsV RX3 29 RX3 yX3_skipSpaces wsX3_skipSpaces) := goodIn_app (goodIn_of _ (by decide +kernel)) ggX3_readBody_X3_skipSpaces
set_option maxRecDepth 20000 in
theorem ggX3_readBody_X2_itemAt : GoodIn wsX3_readBody wsX2_itemAt := goodIn_r _ [16, 12, 17, 38, 39] (by decide +kernel) (by decide +kernel)
set_option maxRecDepth 20000 in
theorem gX3_readBody_X2_itemAt : GoodIn wsX3_readBody (wsV RX3 66 RX2 yX2_itemAt wsX2_itemAt) := goodIn_app (goodIn_of _ (by decide +kernel)) ggX3_readBody_X2_itemAt
set_option maxRecDepth 20000 in
theorem ggX3_readBody_X3_readAtom : GoodIn wsX3_readBody wsX3_readAtom := goodIn_r _ [21, 1, 13, 14, 15, 10, 16, 12, 17, 22, 23, 5, 24, 25, 26, 27, 28, 29, 30, 31, 32, 35, 36, 37, 38, 39] (by decide +kernel) (by decide +kernel)
set_option maxRecDepth 20000 in
theorem gX3_readBody_X3_readAtom : GoodIn wsX3_readBody (wsV RX3 51 RX3 yX3_readAtom wsX3_readAtom) := goodIn_app (goodIn_of _ (by decide +kernel)) ggX3_readBody_X3_readAtom
set_option maxRecDepth 20000 in
theorem ggX3_readBody_X5_contains : GoodIn wsX3_readBody wsX5_contains := goodIn_r _ [34] (by decide +kernel) (by decide +kernel)
set_option maxRecDepth 20000 in
theorem gX3_readBody_X5_contains_n69 : GoodIn wsX3_readBody (wsX5_contains) := ggX3_readBody_X5_contains
set_option maxRecDepth 20000 in
theorem ggX3_readBody_X3_refuse : GoodIn wsX3_readBody wsX3_refuse := goodIn_r _ [28, 29, 35, 36, 37] (by decide +kernel) (by decide +kernel)
set_option maxRecDepth 20000 in
theorem gX3_readBody_X3_refuse : GoodIn wsX3_readBody (wsV RX3 47 RX3 yX3_refuse wsX3_refuse) := goodIn_app (goodIn_of _ (by decide +kernel)) ggX3_readBody_X3_refuse
theorem dX3_readBody_0 : decode cX3_readBody 0 = .ok (.iconst 0, 1) := by decide +kernel
theorem dX3_readBody_1 : decode cX3_readBody 1 = .ok (.istore_n 2, 1) := by decide +kernel
theorem dX3_readBody_2 : decode cX3_readBody 2 = .ok (.aload_n 0, 1) := by decide +kernel
theorem dX3_readBody_3 : decode cX3_readBody 3 = .ok (.aload_n 1, 1) := by decide +kernel
theorem dX3_readBody_4 : decode cX3_readBody 4 = .ok (.invokevirtual 29, 3) := by decide +kernel
theorem dX3_readBody_7 : decode cX3_readBody 7 = .ok (.aload_n 1, 1) := by decide +kernel
theorem dX3_readBody_8 : decode cX3_readBody 8 = .ok (.aload_n 0, 1) := by decide +kernel
theorem dX3_readBody_9 : decode cX3_readBody 9 = .ok (.getfield 26, 3) := by decide +kernel
theorem dX3_readBody_12 : decode cX3_readBody 12 = .ok (.invokevirtual 66, 3) := by decide +kernel
theorem dX3_readBody_15 : decode cX3_readBody 15 = .ok (.bipush 59, 2) := by decide +kernel
theorem dX3_readBody_17 : decode cX3_readBody 17 = .ok (.if_icmp .ne 5, 3) := by decide +kernel
theorem dX3_readBody_20 : decode cX3_readBody 20 = .ok (.iload_n 2, 1) := by decide +kernel
theorem dX3_readBody_21 : decode cX3_readBody 21 = .ok (.ireturn, 1) := by decide +kernel
theorem dX3_readBody_22 : decode cX3_readBody 22 = .ok (.iconst 0, 1) := by decide +kernel
theorem dX3_readBody_23 : decode cX3_readBody 23 = .ok (.istore_n 3, 1) := by decide +kernel
theorem dX3_readBody_24 : decode cX3_readBody 24 = .ok (.iload_n 3, 1) := by decide +kernel
theorem dX3_readBody_25 : decode cX3_readBody 25 = .ok (.iconst 4, 1) := by decide +kernel
theorem dX3_readBody_26 : decode cX3_readBody 26 = .ok (.if_icmp .ge 88, 3) := by decide +kernel
theorem dX3_readBody_29 : decode cX3_readBody 29 = .ok (.aload_n 0, 1) := by decide +kernel
theorem dX3_readBody_30 : decode cX3_readBody 30 = .ok (.getfield 26, 3) := by decide +kernel
theorem dX3_readBody_33 : decode cX3_readBody 33 = .ok (.istore 4, 2) := by decide +kernel
theorem dX3_readBody_35 : decode cX3_readBody 35 = .ok (.aload_n 0, 1) := by decide +kernel
theorem dX3_readBody_36 : decode cX3_readBody 36 = .ok (.aload_n 1, 1) := by decide +kernel
theorem dX3_readBody_37 : decode cX3_readBody 37 = .ok (.invokevirtual 51, 3) := by decide +kernel
theorem dX3_readBody_40 : decode cX3_readBody 40 = .ok (.istore 5, 2) := by decide +kernel
theorem dX3_readBody_42 : decode cX3_readBody 42 = .ok (.iload 5, 2) := by decide +kernel
theorem dX3_readBody_44 : decode cX3_readBody 44 = .ok (.iconst (-1), 1) := by decide +kernel
theorem dX3_readBody_45 : decode cX3_readBody 45 = .ok (.if_icmp .ne 5, 3) := by decide +kernel
theorem dX3_readBody_48 : decode cX3_readBody 48 = .ok (.iconst (-1), 1) := by decide +kernel
theorem dX3_readBody_49 : decode cX3_readBody 49 = .ok (.ireturn, 1) := by decide +kernel
theorem dX3_readBody_50 : decode cX3_readBody 50 = .ok (.iload_n 2, 1) := by decide +kernel
theorem dX3_readBody_51 : decode cX3_readBody 51 = .ok (.iload 5, 2) := by decide +kernel
theorem dX3_readBody_53 : decode cX3_readBody 53 = .ok (.invokestatic 69, 3) := by decide +kernel
theorem dX3_readBody_56 : decode cX3_readBody 56 = .ok (.ifCond .eq 10, 3) := by decide +kernel
theorem dX3_readBody_59 : decode cX3_readBody 59 = .ok (.aload_n 0, 1) := by decide +kernel
theorem dX3_readBody_60 : decode cX3_readBody 60 = .ok (.iload 4, 2) := by decide +kernel
theorem dX3_readBody_62 : decode cX3_readBody 62 = .ok (.invokevirtual 47, 3) := by decide +kernel
theorem dX3_readBody_65 : decode cX3_readBody 65 = .ok (.ireturn, 1) := by decide +kernel
theorem dX3_readBody_66 : decode cX3_readBody 66 = .ok (.iload_n 2, 1) := by decide +kernel
theorem dX3_readBody_67 : decode cX3_readBody 67 = .ok (.iconst 1, 1) := by decide +kernel
theorem dX3_readBody_68 : decode cX3_readBody 68 = .ok (.iload 5, 2) := by decide +kernel
theorem dX3_readBody_70 : decode cX3_readBody 70 = .ok (.ishl, 1) := by decide +kernel
theorem dX3_readBody_71 : decode cX3_readBody 71 = .ok (.ior, 1) := by decide +kernel
theorem dX3_readBody_72 : decode cX3_readBody 72 = .ok (.istore_n 2, 1) := by decide +kernel
theorem dX3_readBody_73 : decode cX3_readBody 73 = .ok (.aload_n 0, 1) := by decide +kernel
theorem dX3_readBody_74 : decode cX3_readBody 74 = .ok (.aload_n 1, 1) := by decide +kernel
theorem dX3_readBody_75 : decode cX3_readBody 75 = .ok (.invokevirtual 29, 3) := by decide +kernel
theorem dX3_readBody_78 : decode cX3_readBody 78 = .ok (.aload_n 1, 1) := by decide +kernel
theorem dX3_readBody_79 : decode cX3_readBody 79 = .ok (.aload_n 0, 1) := by decide +kernel
theorem dX3_readBody_80 : decode cX3_readBody 80 = .ok (.getfield 26, 3) := by decide +kernel
theorem dX3_readBody_83 : decode cX3_readBody 83 = .ok (.invokevirtual 66, 3) := by decide +kernel
theorem dX3_readBody_86 : decode cX3_readBody 86 = .ok (.bipush 44, 2) := by decide +kernel
theorem dX3_readBody_88 : decode cX3_readBody 88 = .ok (.if_icmp .eq 5, 3) := by decide +kernel
theorem dX3_readBody_91 : decode cX3_readBody 91 = .ok (.iload_n 2, 1) := by decide +kernel
theorem dX3_readBody_92 : decode cX3_readBody 92 = .ok (.ireturn, 1) := by decide +kernel
theorem dX3_readBody_93 : decode cX3_readBody 93 = .ok (.aload_n 0, 1) := by decide +kernel
theorem dX3_readBody_94 : decode cX3_readBody 94 = .ok (.dup, 1) := by decide +kernel
theorem dX3_readBody_95 : decode cX3_readBody 95 = .ok (.getfield 26, 3) := by decide +kernel
theorem dX3_readBody_98 : decode cX3_readBody 98 = .ok (.iconst 1, 1) := by decide +kernel
theorem dX3_readBody_99 : decode cX3_readBody 99 = .ok (.iadd, 1) := by decide +kernel
theorem dX3_readBody_100 : decode cX3_readBody 100 = .ok (.putfield 26, 3) := by decide +kernel
theorem dX3_readBody_103 : decode cX3_readBody 103 = .ok (.aload_n 0, 1) := by decide +kernel
theorem dX3_readBody_104 : decode cX3_readBody 104 = .ok (.aload_n 1, 1) := by decide +kernel
theorem dX3_readBody_105 : decode cX3_readBody 105 = .ok (.invokevirtual 29, 3) := by decide +kernel
theorem dX3_readBody_108 : decode cX3_readBody 108 = .ok (.iinc 3 1, 3) := by decide +kernel
theorem dX3_readBody_111 : decode cX3_readBody 111 = .ok (.goto (-87), 3) := by decide +kernel
theorem dX3_readBody_114 : decode cX3_readBody 114 = .ok (.aload_n 0, 1) := by decide +kernel
theorem dX3_readBody_115 : decode cX3_readBody 115 = .ok (.aload_n 0, 1) := by decide +kernel
theorem dX3_readBody_116 : decode cX3_readBody 116 = .ok (.getfield 26, 3) := by decide +kernel
theorem dX3_readBody_119 : decode cX3_readBody 119 = .ok (.invokevirtual 47, 3) := by decide +kernel
theorem dX3_readBody_122 : decode cX3_readBody 122 = .ok (.ireturn, 1) := by decide +kernel
set_option maxRecDepth 20000 in
theorem ggX3_readAtom_X2_itemAt : GoodIn wsX3_readAtom wsX2_itemAt := goodIn_r _ [6, 7, 8, 24, 25] (by decide +kernel) (by decide +kernel)
set_option maxRecDepth 20000 in
theorem gX3_readAtom_X2_itemAt : GoodIn wsX3_readAtom (wsV RX3 66 RX2 yX2_itemAt wsX2_itemAt) := goodIn_app (goodIn_of _ (by decide +kernel)) ggX3_readAtom_X2_itemAt
set_option maxRecDepth 20000 in
theorem ggX3_readAtom_X3_isDigit : GoodIn wsX3_readAtom wsX3_isDigit := goodIn_r _ [12] (by decide +kernel) (by decide +kernel)
set_option maxRecDepth 20000 in
theorem gX3_readAtom_X3_isDigit : GoodIn wsX3_readAtom (va_wsS RX3 73 yX3_isDigit wsX3_isDigit) := goodIn_app (goodIn_of _ (by decide +kernel)) ggX3_readAtom_X3_isDigit
set_option maxRecDepth 20000 in
theorem ggX3_readAtom_X3_refuse : GoodIn wsX3_readAtom wsX3_refuse := goodIn_r _ [16, 17, 21, 22, 23] (by decide +kernel) (by decide +kernel)
set_option maxRecDepth 20000 in
theorem gX3_readAtom_X3_refuse : GoodIn wsX3_readAtom (wsV RX3 47 RX3 yX3_refuse wsX3_refuse) := goodIn_app (goodIn_of _ (by decide +kernel)) ggX3_readAtom_X3_refuse
set_option maxRecDepth 20000 in
theorem ggX3_readAtom_X5_isAtom : GoodIn wsX3_readAtom wsX5_isAtom := goodIn_r _ [20] (by decide +kernel) (by decide +kernel)
set_option maxRecDepth 20000 in
theorem gX3_readAtom_X5_isAtom_n77 : GoodIn wsX3_readAtom (wsX5_isAtom) := ggX3_readAtom_X5_isAtom
theorem dX3_readAtom_0 : decode cX3_readAtom 0 = .ok (.aload_n 0, 1) := by decide +kernel
theorem dX3_readAtom_1 : decode cX3_readAtom 1 = .ok (.getfield 26, 3) := by decide +kernel
theorem dX3_readAtom_4 : decode cX3_readAtom 4 = .ok (.istore_n 2, 1) := by decide +kernel
theorem dX3_readAtom_5 : decode cX3_readAtom 5 = .ok (.aload_n 1, 1) := by decide +kernel
theorem dX3_readAtom_6 : decode cX3_readAtom 6 = .ok (.iload_n 2, 1) := by decide +kernel
theorem dX3_readAtom_7 : decode cX3_readAtom 7 = .ok (.invokevirtual 66, 3) := by decide +kernel
theorem dX3_readAtom_10 : decode cX3_readAtom 10 = .ok (.invokestatic 73, 3) := by decide +kernel
theorem dX3_readAtom_13 : decode cX3_readAtom 13 = .ok (.ifCond .ne 9, 3) := by decide +kernel
theorem dX3_readAtom_16 : decode cX3_readAtom 16 = .ok (.aload_n 0, 1) := by decide +kernel
theorem dX3_readAtom_17 : decode cX3_readAtom 17 = .ok (.iload_n 2, 1) := by decide +kernel
theorem dX3_readAtom_18 : decode cX3_readAtom 18 = .ok (.invokevirtual 47, 3) := by decide +kernel
theorem dX3_readAtom_21 : decode cX3_readAtom 21 = .ok (.ireturn, 1) := by decide +kernel
theorem dX3_readAtom_22 : decode cX3_readAtom 22 = .ok (.aload_n 1, 1) := by decide +kernel
theorem dX3_readAtom_23 : decode cX3_readAtom 23 = .ok (.iload_n 2, 1) := by decide +kernel
theorem dX3_readAtom_24 : decode cX3_readAtom 24 = .ok (.invokevirtual 66, 3) := by decide +kernel
theorem dX3_readAtom_27 : decode cX3_readAtom 27 = .ok (.bipush 48, 2) := by decide +kernel
theorem dX3_readAtom_29 : decode cX3_readAtom 29 = .ok (.isub, 1) := by decide +kernel
theorem dX3_readAtom_30 : decode cX3_readAtom 30 = .ok (.istore_n 3, 1) := by decide +kernel
theorem dX3_readAtom_31 : decode cX3_readAtom 31 = .ok (.aload_n 0, 1) := by decide +kernel
theorem dX3_readAtom_32 : decode cX3_readAtom 32 = .ok (.dup, 1) := by decide +kernel
theorem dX3_readAtom_33 : decode cX3_readAtom 33 = .ok (.getfield 26, 3) := by decide +kernel
theorem dX3_readAtom_36 : decode cX3_readAtom 36 = .ok (.iconst 1, 1) := by decide +kernel
theorem dX3_readAtom_37 : decode cX3_readAtom 37 = .ok (.iadd, 1) := by decide +kernel
theorem dX3_readAtom_38 : decode cX3_readAtom 38 = .ok (.putfield 26, 3) := by decide +kernel
theorem dX3_readAtom_41 : decode cX3_readAtom 41 = .ok (.aload_n 1, 1) := by decide +kernel
theorem dX3_readAtom_42 : decode cX3_readAtom 42 = .ok (.aload_n 0, 1) := by decide +kernel
theorem dX3_readAtom_43 : decode cX3_readAtom 43 = .ok (.getfield 26, 3) := by decide +kernel
theorem dX3_readAtom_46 : decode cX3_readAtom 46 = .ok (.invokevirtual 66, 3) := by decide +kernel
theorem dX3_readAtom_49 : decode cX3_readAtom 49 = .ok (.invokestatic 73, 3) := by decide +kernel
theorem dX3_readAtom_52 : decode cX3_readAtom 52 = .ok (.ifCond .eq 30, 3) := by decide +kernel
theorem dX3_readAtom_55 : decode cX3_readAtom 55 = .ok (.iload_n 3, 1) := by decide +kernel
theorem dX3_readAtom_56 : decode cX3_readAtom 56 = .ok (.bipush 10, 2) := by decide +kernel
theorem dX3_readAtom_58 : decode cX3_readAtom 58 = .ok (.imul, 1) := by decide +kernel
theorem dX3_readAtom_59 : decode cX3_readAtom 59 = .ok (.aload_n 1, 1) := by decide +kernel
theorem dX3_readAtom_60 : decode cX3_readAtom 60 = .ok (.aload_n 0, 1) := by decide +kernel
theorem dX3_readAtom_61 : decode cX3_readAtom 61 = .ok (.getfield 26, 3) := by decide +kernel
theorem dX3_readAtom_64 : decode cX3_readAtom 64 = .ok (.invokevirtual 66, 3) := by decide +kernel
theorem dX3_readAtom_67 : decode cX3_readAtom 67 = .ok (.iadd, 1) := by decide +kernel
theorem dX3_readAtom_68 : decode cX3_readAtom 68 = .ok (.bipush 48, 2) := by decide +kernel
theorem dX3_readAtom_70 : decode cX3_readAtom 70 = .ok (.isub, 1) := by decide +kernel
theorem dX3_readAtom_71 : decode cX3_readAtom 71 = .ok (.istore_n 3, 1) := by decide +kernel
theorem dX3_readAtom_72 : decode cX3_readAtom 72 = .ok (.aload_n 0, 1) := by decide +kernel
theorem dX3_readAtom_73 : decode cX3_readAtom 73 = .ok (.dup, 1) := by decide +kernel
theorem dX3_readAtom_74 : decode cX3_readAtom 74 = .ok (.getfield 26, 3) := by decide +kernel
theorem dX3_readAtom_77 : decode cX3_readAtom 77 = .ok (.iconst 1, 1) := by decide +kernel
theorem dX3_readAtom_78 : decode cX3_readAtom 78 = .ok (.iadd, 1) := by decide +kernel
theorem dX3_readAtom_79 : decode cX3_readAtom 79 = .ok (.putfield 26, 3) := by decide +kernel
theorem dX3_readAtom_82 : decode cX3_readAtom 82 = .ok (.aload_n 1, 1) := by decide +kernel
theorem dX3_readAtom_83 : decode cX3_readAtom 83 = .ok (.aload_n 0, 1) := by decide +kernel
theorem dX3_readAtom_84 : decode cX3_readAtom 84 = .ok (.getfield 26, 3) := by decide +kernel
theorem dX3_readAtom_87 : decode cX3_readAtom 87 = .ok (.invokevirtual 66, 3) := by decide +kernel
theorem dX3_readAtom_90 : decode cX3_readAtom 90 = .ok (.invokestatic 73, 3) := by decide +kernel
theorem dX3_readAtom_93 : decode cX3_readAtom 93 = .ok (.ifCond .eq 12, 3) := by decide +kernel
theorem dX3_readAtom_96 : decode cX3_readAtom 96 = .ok (.aload_n 0, 1) := by decide +kernel
theorem dX3_readAtom_97 : decode cX3_readAtom 97 = .ok (.aload_n 0, 1) := by decide +kernel
theorem dX3_readAtom_98 : decode cX3_readAtom 98 = .ok (.getfield 26, 3) := by decide +kernel
theorem dX3_readAtom_101 : decode cX3_readAtom 101 = .ok (.invokevirtual 47, 3) := by decide +kernel
theorem dX3_readAtom_104 : decode cX3_readAtom 104 = .ok (.ireturn, 1) := by decide +kernel
theorem dX3_readAtom_105 : decode cX3_readAtom 105 = .ok (.iload_n 3, 1) := by decide +kernel
theorem dX3_readAtom_106 : decode cX3_readAtom 106 = .ok (.invokestatic 77, 3) := by decide +kernel
theorem dX3_readAtom_109 : decode cX3_readAtom 109 = .ok (.ifCond .eq 7, 3) := by decide +kernel
theorem dX3_readAtom_112 : decode cX3_readAtom 112 = .ok (.iload_n 3, 1) := by decide +kernel
theorem dX3_readAtom_113 : decode cX3_readAtom 113 = .ok (.goto 8, 3) := by decide +kernel
theorem dX3_readAtom_116 : decode cX3_readAtom 116 = .ok (.aload_n 0, 1) := by decide +kernel
theorem dX3_readAtom_117 : decode cX3_readAtom 117 = .ok (.iload_n 2, 1) := by decide +kernel
theorem dX3_readAtom_118 : decode cX3_readAtom 118 = .ok (.invokevirtual 47, 3) := by decide +kernel
theorem dX3_readAtom_121 : decode cX3_readAtom 121 = .ok (.ireturn, 1) := by decide +kernel
set_option maxRecDepth 20000 in
theorem ggX3_take_X3_skipSpaces : GoodIn wsX3_take wsX3_skipSpaces := goodIn_r _ [6, 1, 7, 8, 9, 10, 11, 12, 13, 14, 15, 16, 17, 23, 24, 25, 26, 27] (by decide +kernel) (by decide +kernel)
set_option maxRecDepth 20000 in
theorem gX3_take_X3_skipSpaces : GoodIn wsX3_take (wsV RX3 29 RX3 yX3_skipSpaces wsX3_skipSpaces) := goodIn_app (goodIn_of _ (by decide +kernel)) ggX3_take_X3_skipSpaces
set_option maxRecDepth 20000 in
theorem ggX3_take_X2_itemAt : GoodIn wsX3_take wsX2_itemAt := goodIn_r _ [16, 12, 17, 26, 27] (by decide +kernel) (by decide +kernel)
set_option maxRecDepth 20000 in
theorem gX3_take_X2_itemAt : GoodIn wsX3_take (wsV RX3 66 RX2 yX2_itemAt wsX2_itemAt) := goodIn_app (goodIn_of _ (by decide +kernel)) ggX3_take_X2_itemAt
set_option maxRecDepth 20000 in
theorem ggX3_take_X3_refuse : GoodIn wsX3_take wsX3_refuse := goodIn_r _ [21, 22, 23, 24, 25] (by decide +kernel) (by decide +kernel)
set_option maxRecDepth 20000 in
theorem gX3_take_X3_refuse : GoodIn wsX3_take (wsV RX3 47 RX3 yX3_refuse wsX3_refuse) := goodIn_app (goodIn_of _ (by decide +kernel)) ggX3_take_X3_refuse
theorem dX3_take_0 : decode cX3_take 0 = .ok (.aload_n 0, 1) := by decide +kernel
theorem dX3_take_1 : decode cX3_take 1 = .ok (.aload_n 1, 1) := by decide +kernel
theorem dX3_take_2 : decode cX3_take 2 = .ok (.invokevirtual 29, 3) := by decide +kernel
theorem dX3_take_5 : decode cX3_take 5 = .ok (.aload_n 1, 1) := by decide +kernel
theorem dX3_take_6 : decode cX3_take 6 = .ok (.aload_n 0, 1) := by decide +kernel
theorem dX3_take_7 : decode cX3_take 7 = .ok (.getfield 26, 3) := by decide +kernel
theorem dX3_take_10 : decode cX3_take 10 = .ok (.invokevirtual 66, 3) := by decide +kernel
theorem dX3_take_13 : decode cX3_take 13 = .ok (.iload_n 2, 1) := by decide +kernel
theorem dX3_take_14 : decode cX3_take 14 = .ok (.if_icmp .eq 14, 3) := by decide +kernel
theorem dX3_take_17 : decode cX3_take 17 = .ok (.aload_n 0, 1) := by decide +kernel
theorem dX3_take_18 : decode cX3_take 18 = .ok (.aload_n 0, 1) := by decide +kernel
theorem dX3_take_19 : decode cX3_take 19 = .ok (.getfield 26, 3) := by decide +kernel
theorem dX3_take_22 : decode cX3_take 22 = .ok (.invokevirtual 47, 3) := by decide +kernel
theorem dX3_take_25 : decode cX3_take 25 = .ok (.pop, 1) := by decide +kernel
theorem dX3_take_26 : decode cX3_take 26 = .ok (.iconst 0, 1) := by decide +kernel
theorem dX3_take_27 : decode cX3_take 27 = .ok (.ireturn, 1) := by decide +kernel
theorem dX3_take_28 : decode cX3_take 28 = .ok (.aload_n 0, 1) := by decide +kernel
theorem dX3_take_29 : decode cX3_take 29 = .ok (.dup, 1) := by decide +kernel
theorem dX3_take_30 : decode cX3_take 30 = .ok (.getfield 26, 3) := by decide +kernel
theorem dX3_take_33 : decode cX3_take 33 = .ok (.iconst 1, 1) := by decide +kernel
theorem dX3_take_34 : decode cX3_take 34 = .ok (.iadd, 1) := by decide +kernel
theorem dX3_take_35 : decode cX3_take 35 = .ok (.putfield 26, 3) := by decide +kernel
theorem dX3_take_38 : decode cX3_take 38 = .ok (.iconst 1, 1) := by decide +kernel
theorem dX3_take_39 : decode cX3_take 39 = .ok (.ireturn, 1) := by decide +kernel
set_option maxRecDepth 20000 in
theorem ggX3_skipSpaces_X2_size : GoodIn wsX3_skipSpaces wsX2_size := goodIn_r _ [6, 7, 16, 17] (by decide +kernel) (by decide +kernel)
set_option maxRecDepth 20000 in
theorem gX3_skipSpaces_X2_size : GoodIn wsX3_skipSpaces (wsV RX3 33 RX2 yX2_size wsX2_size) := goodIn_app (goodIn_of _ (by decide +kernel)) ggX3_skipSpaces_X2_size
set_option maxRecDepth 20000 in
theorem ggX3_skipSpaces_X2_itemAt : GoodIn wsX3_skipSpaces wsX2_itemAt := goodIn_r _ [11, 7, 12, 16, 17] (by decide +kernel) (by decide +kernel)
set_option maxRecDepth 20000 in
theorem gX3_skipSpaces_X2_itemAt : GoodIn wsX3_skipSpaces (wsV RX3 66 RX2 yX2_itemAt wsX2_itemAt) := goodIn_app (goodIn_of _ (by decide +kernel)) ggX3_skipSpaces_X2_itemAt
theorem dX3_skipSpaces_0 : decode cX3_skipSpaces 0 = .ok (.aload_n 0, 1) := by decide +kernel
theorem dX3_skipSpaces_1 : decode cX3_skipSpaces 1 = .ok (.getfield 26, 3) := by decide +kernel
theorem dX3_skipSpaces_4 : decode cX3_skipSpaces 4 = .ok (.aload_n 1, 1) := by decide +kernel
theorem dX3_skipSpaces_5 : decode cX3_skipSpaces 5 = .ok (.invokevirtual 33, 3) := by decide +kernel
theorem dX3_skipSpaces_8 : decode cX3_skipSpaces 8 = .ok (.if_icmp .ge 29, 3) := by decide +kernel
theorem dX3_skipSpaces_11 : decode cX3_skipSpaces 11 = .ok (.aload_n 1, 1) := by decide +kernel
theorem dX3_skipSpaces_12 : decode cX3_skipSpaces 12 = .ok (.aload_n 0, 1) := by decide +kernel
theorem dX3_skipSpaces_13 : decode cX3_skipSpaces 13 = .ok (.getfield 26, 3) := by decide +kernel
theorem dX3_skipSpaces_16 : decode cX3_skipSpaces 16 = .ok (.invokevirtual 66, 3) := by decide +kernel
theorem dX3_skipSpaces_19 : decode cX3_skipSpaces 19 = .ok (.bipush 32, 2) := by decide +kernel
theorem dX3_skipSpaces_21 : decode cX3_skipSpaces 21 = .ok (.if_icmp .ne 16, 3) := by decide +kernel
theorem dX3_skipSpaces_24 : decode cX3_skipSpaces 24 = .ok (.aload_n 0, 1) := by decide +kernel
theorem dX3_skipSpaces_25 : decode cX3_skipSpaces 25 = .ok (.dup, 1) := by decide +kernel
theorem dX3_skipSpaces_26 : decode cX3_skipSpaces 26 = .ok (.getfield 26, 3) := by decide +kernel
theorem dX3_skipSpaces_29 : decode cX3_skipSpaces 29 = .ok (.iconst 1, 1) := by decide +kernel
theorem dX3_skipSpaces_30 : decode cX3_skipSpaces 30 = .ok (.iadd, 1) := by decide +kernel
theorem dX3_skipSpaces_31 : decode cX3_skipSpaces 31 = .ok (.putfield 26, 3) := by decide +kernel
theorem dX3_skipSpaces_34 : decode cX3_skipSpaces 34 = .ok (.goto (-34), 3) := by decide +kernel
theorem dX3_skipSpaces_37 : decode cX3_skipSpaces 37 = .ok (.return_, 1) := by decide +kernel
theorem dX3_isDigit_0 : decode cX3_isDigit 0 = .ok (.iload_n 0, 1) := by decide +kernel
theorem dX3_isDigit_1 : decode cX3_isDigit 1 = .ok (.bipush 48, 2) := by decide +kernel
theorem dX3_isDigit_3 : decode cX3_isDigit 3 = .ok (.if_icmp .lt 13, 3) := by decide +kernel
theorem dX3_isDigit_6 : decode cX3_isDigit 6 = .ok (.iload_n 0, 1) := by decide +kernel
theorem dX3_isDigit_7 : decode cX3_isDigit 7 = .ok (.bipush 57, 2) := by decide +kernel
theorem dX3_isDigit_9 : decode cX3_isDigit 9 = .ok (.if_icmp .gt 7, 3) := by decide +kernel
theorem dX3_isDigit_12 : decode cX3_isDigit 12 = .ok (.iconst 1, 1) := by decide +kernel
theorem dX3_isDigit_13 : decode cX3_isDigit 13 = .ok (.goto 4, 3) := by decide +kernel
theorem dX3_isDigit_16 : decode cX3_isDigit 16 = .ok (.iconst 0, 1) := by decide +kernel
theorem dX3_isDigit_17 : decode cX3_isDigit 17 = .ok (.ireturn, 1) := by decide +kernel
theorem dX3_refuse_0 : decode cX3_refuse 0 = .ok (.aload_n 0, 1) := by decide +kernel
theorem dX3_refuse_1 : decode cX3_refuse 1 = .ok (.iload_n 1, 1) := by decide +kernel
theorem dX3_refuse_2 : decode cX3_refuse 2 = .ok (.putfield 18, 3) := by decide +kernel
theorem dX3_refuse_5 : decode cX3_refuse 5 = .ok (.iconst (-1), 1) := by decide +kernel
theorem dX3_refuse_6 : decode cX3_refuse 6 = .ok (.ireturn, 1) := by decide +kernel
theorem dX4_init_0 : decode cX4_init 0 = .ok (.aload_n 0, 1) := by decide +kernel
theorem dX4_init_1 : decode cX4_init 1 = .ok (.invokespecial 3, 3) := by decide +kernel
theorem dX4_init_4 : decode cX4_init 4 = .ok (.aload_n 0, 1) := by decide +kernel
theorem dX4_init_5 : decode cX4_init 5 = .ok (.bipush 24, 2) := by decide +kernel
theorem dX4_init_7 : decode cX4_init 7 = .ok (.newarray .int, 2) := by decide +kernel
theorem dX4_init_9 : decode cX4_init 9 = .ok (.putfield 9, 3) := by decide +kernel
theorem dX4_init_12 : decode cX4_init 12 = .ok (.aload_n 0, 1) := by decide +kernel
theorem dX4_init_13 : decode cX4_init 13 = .ok (.bipush 24, 2) := by decide +kernel
theorem dX4_init_15 : decode cX4_init 15 = .ok (.newarray .int, 2) := by decide +kernel
theorem dX4_init_17 : decode cX4_init 17 = .ok (.putfield 15, 3) := by decide +kernel
theorem dX4_init_20 : decode cX4_init 20 = .ok (.return_, 1) := by decide +kernel
theorem dX4_size_0 : decode cX4_size 0 = .ok (.aload_n 0, 1) := by decide +kernel
theorem dX4_size_1 : decode cX4_size 1 = .ok (.getfield 18, 3) := by decide +kernel
theorem dX4_size_4 : decode cX4_size 4 = .ok (.ireturn, 1) := by decide +kernel
theorem dX4_isFull_0 : decode cX4_isFull 0 = .ok (.aload_n 0, 1) := by decide +kernel
theorem dX4_isFull_1 : decode cX4_isFull 1 = .ok (.getfield 18, 3) := by decide +kernel
theorem dX4_isFull_4 : decode cX4_isFull 4 = .ok (.bipush 24, 2) := by decide +kernel
theorem dX4_isFull_6 : decode cX4_isFull 6 = .ok (.if_icmp .lt 7, 3) := by decide +kernel
theorem dX4_isFull_9 : decode cX4_isFull 9 = .ok (.iconst 1, 1) := by decide +kernel
theorem dX4_isFull_10 : decode cX4_isFull 10 = .ok (.goto 4, 3) := by decide +kernel
theorem dX4_isFull_13 : decode cX4_isFull 13 = .ok (.iconst 0, 1) := by decide +kernel
theorem dX4_isFull_14 : decode cX4_isFull 14 = .ok (.ireturn, 1) := by decide +kernel
theorem dX4_hasRule_0 : decode cX4_hasRule 0 = .ok (.iload_n 1, 1) := by decide +kernel
theorem dX4_hasRule_1 : decode cX4_hasRule 1 = .ok (.ifCond .lt 15, 3) := by decide +kernel
theorem dX4_hasRule_4 : decode cX4_hasRule 4 = .ok (.iload_n 1, 1) := by decide +kernel
theorem dX4_hasRule_5 : decode cX4_hasRule 5 = .ok (.aload_n 0, 1) := by decide +kernel
theorem dX4_hasRule_6 : decode cX4_hasRule 6 = .ok (.getfield 18, 3) := by decide +kernel
theorem dX4_hasRule_9 : decode cX4_hasRule 9 = .ok (.if_icmp .ge 7, 3) := by decide +kernel
theorem dX4_hasRule_12 : decode cX4_hasRule 12 = .ok (.iconst 1, 1) := by decide +kernel
theorem dX4_hasRule_13 : decode cX4_hasRule 13 = .ok (.goto 4, 3) := by decide +kernel
theorem dX4_hasRule_16 : decode cX4_hasRule 16 = .ok (.iconst 0, 1) := by decide +kernel
theorem dX4_hasRule_17 : decode cX4_hasRule 17 = .ok (.ireturn, 1) := by decide +kernel
set_option maxRecDepth 20000 in
theorem ggX4_headOf_X4_hasRule : GoodIn wsX4_headOf wsX4_hasRule := goodIn_r _ [6, 7, 8, 9, 10, 11] (by decide +kernel) (by decide +kernel)
set_option maxRecDepth 20000 in
theorem gX4_headOf_X4_hasRule : GoodIn wsX4_headOf (wsV RX4 22 RX4 yX4_hasRule wsX4_hasRule) := goodIn_app (goodIn_of _ (by decide +kernel)) ggX4_headOf_X4_hasRule
theorem dX4_headOf_0 : decode cX4_headOf 0 = .ok (.aload_n 0, 1) := by decide +kernel
theorem dX4_headOf_1 : decode cX4_headOf 1 = .ok (.iload_n 1, 1) := by decide +kernel
theorem dX4_headOf_2 : decode cX4_headOf 2 = .ok (.invokevirtual 22, 3) := by decide +kernel
theorem dX4_headOf_5 : decode cX4_headOf 5 = .ok (.ifCond .eq 12, 3) := by decide +kernel
theorem dX4_headOf_8 : decode cX4_headOf 8 = .ok (.aload_n 0, 1) := by decide +kernel
theorem dX4_headOf_9 : decode cX4_headOf 9 = .ok (.getfield 9, 3) := by decide +kernel
theorem dX4_headOf_12 : decode cX4_headOf 12 = .ok (.iload_n 1, 1) := by decide +kernel
theorem dX4_headOf_13 : decode cX4_headOf 13 = .ok (.iaload, 1) := by decide +kernel
theorem dX4_headOf_14 : decode cX4_headOf 14 = .ok (.goto 4, 3) := by decide +kernel
theorem dX4_headOf_17 : decode cX4_headOf 17 = .ok (.iconst (-1), 1) := by decide +kernel
theorem dX4_headOf_18 : decode cX4_headOf 18 = .ok (.ireturn, 1) := by decide +kernel
set_option maxRecDepth 20000 in
theorem ggX4_bodyOf_X4_hasRule : GoodIn wsX4_bodyOf wsX4_hasRule := goodIn_r _ [6, 7, 8, 9, 10, 11] (by decide +kernel) (by decide +kernel)
set_option maxRecDepth 20000 in
theorem gX4_bodyOf_X4_hasRule : GoodIn wsX4_bodyOf (wsV RX4 22 RX4 yX4_hasRule wsX4_hasRule) := goodIn_app (goodIn_of _ (by decide +kernel)) ggX4_bodyOf_X4_hasRule
theorem dX4_bodyOf_0 : decode cX4_bodyOf 0 = .ok (.aload_n 0, 1) := by decide +kernel
theorem dX4_bodyOf_1 : decode cX4_bodyOf 1 = .ok (.iload_n 1, 1) := by decide +kernel
theorem dX4_bodyOf_2 : decode cX4_bodyOf 2 = .ok (.invokevirtual 22, 3) := by decide +kernel
theorem dX4_bodyOf_5 : decode cX4_bodyOf 5 = .ok (.ifCond .eq 12, 3) := by decide +kernel
theorem dX4_bodyOf_8 : decode cX4_bodyOf 8 = .ok (.aload_n 0, 1) := by decide +kernel
theorem dX4_bodyOf_9 : decode cX4_bodyOf 9 = .ok (.getfield 15, 3) := by decide +kernel
theorem dX4_bodyOf_12 : decode cX4_bodyOf 12 = .ok (.iload_n 1, 1) := by decide +kernel
theorem dX4_bodyOf_13 : decode cX4_bodyOf 13 = .ok (.iaload, 1) := by decide +kernel
theorem dX4_bodyOf_14 : decode cX4_bodyOf 14 = .ok (.goto 4, 3) := by decide +kernel
theorem dX4_bodyOf_17 : decode cX4_bodyOf 17 = .ok (.iconst (-1), 1) := by decide +kernel
theorem dX4_bodyOf_18 : decode cX4_bodyOf 18 = .ok (.ireturn, 1) := by decide +kernel
theorem dX4_assumableAtoms_0 : decode cX4_assumableAtoms 0 = .ok (.aload_n 0, 1) := by decide +kernel
theorem dX4_assumableAtoms_1 : decode cX4_assumableAtoms 1 = .ok (.getfield 26, 3) := by decide +kernel
theorem dX4_assumableAtoms_4 : decode cX4_assumableAtoms 4 = .ok (.ireturn, 1) := by decide +kernel
set_option maxRecDepth 20000 in
theorem ggX4_addLast_X4_isFull : GoodIn wsX4_addLast wsX4_isFull := goodIn_r _ [8, 2, 9, 10, 11, 12] (by decide +kernel) (by decide +kernel)
set_option maxRecDepth 20000 in
theorem gX4_addLast_X4_isFull : GoodIn wsX4_addLast (wsV RX4 29 RX4 yX4_isFull wsX4_isFull) := goodIn_app (goodIn_of _ (by decide +kernel)) ggX4_addLast_X4_isFull
theorem dX4_addLast_0 : decode cX4_addLast 0 = .ok (.aload_n 0, 1) := by decide +kernel
theorem dX4_addLast_1 : decode cX4_addLast 1 = .ok (.invokevirtual 29, 3) := by decide +kernel
theorem dX4_addLast_4 : decode cX4_addLast 4 = .ok (.ifCond .ne 33, 3) := by decide +kernel
theorem dX4_addLast_7 : decode cX4_addLast 7 = .ok (.aload_n 0, 1) := by decide +kernel
theorem dX4_addLast_8 : decode cX4_addLast 8 = .ok (.getfield 9, 3) := by decide +kernel
theorem dX4_addLast_11 : decode cX4_addLast 11 = .ok (.aload_n 0, 1) := by decide +kernel
theorem dX4_addLast_12 : decode cX4_addLast 12 = .ok (.getfield 18, 3) := by decide +kernel
theorem dX4_addLast_15 : decode cX4_addLast 15 = .ok (.iload_n 1, 1) := by decide +kernel
theorem dX4_addLast_16 : decode cX4_addLast 16 = .ok (.iastore, 1) := by decide +kernel
theorem dX4_addLast_17 : decode cX4_addLast 17 = .ok (.aload_n 0, 1) := by decide +kernel
theorem dX4_addLast_18 : decode cX4_addLast 18 = .ok (.getfield 15, 3) := by decide +kernel
theorem dX4_addLast_21 : decode cX4_addLast 21 = .ok (.aload_n 0, 1) := by decide +kernel
theorem dX4_addLast_22 : decode cX4_addLast 22 = .ok (.getfield 18, 3) := by decide +kernel
theorem dX4_addLast_25 : decode cX4_addLast 25 = .ok (.iload_n 2, 1) := by decide +kernel
theorem dX4_addLast_26 : decode cX4_addLast 26 = .ok (.iastore, 1) := by decide +kernel
theorem dX4_addLast_27 : decode cX4_addLast 27 = .ok (.aload_n 0, 1) := by decide +kernel
theorem dX4_addLast_28 : decode cX4_addLast 28 = .ok (.dup, 1) := by decide +kernel
theorem dX4_addLast_29 : decode cX4_addLast 29 = .ok (.getfield 18, 3) := by decide +kernel
theorem dX4_addLast_32 : decode cX4_addLast 32 = .ok (.iconst 1, 1) := by decide +kernel
theorem dX4_addLast_33 : decode cX4_addLast 33 = .ok (.iadd, 1) := by decide +kernel
theorem dX4_addLast_34 : decode cX4_addLast 34 = .ok (.putfield 18, 3) := by decide +kernel
theorem dX4_addLast_37 : decode cX4_addLast 37 = .ok (.return_, 1) := by decide +kernel
set_option maxRecDepth 20000 in
theorem ggX4_removeAt_X4_hasRule : GoodIn wsX4_removeAt wsX4_hasRule := goodIn_r _ [8, 1, 9, 10, 11, 12] (by decide +kernel) (by decide +kernel)
set_option maxRecDepth 20000 in
theorem gX4_removeAt_X4_hasRule : GoodIn wsX4_removeAt (wsV RX4 22 RX4 yX4_hasRule wsX4_hasRule) := goodIn_app (goodIn_of _ (by decide +kernel)) ggX4_removeAt_X4_hasRule
theorem dX4_removeAt_0 : decode cX4_removeAt 0 = .ok (.aload_n 0, 1) := by decide +kernel
theorem dX4_removeAt_1 : decode cX4_removeAt 1 = .ok (.iload_n 1, 1) := by decide +kernel
theorem dX4_removeAt_2 : decode cX4_removeAt 2 = .ok (.invokevirtual 22, 3) := by decide +kernel
theorem dX4_removeAt_5 : decode cX4_removeAt 5 = .ok (.ifCond .ne 4, 3) := by decide +kernel
theorem dX4_removeAt_8 : decode cX4_removeAt 8 = .ok (.return_, 1) := by decide +kernel
theorem dX4_removeAt_9 : decode cX4_removeAt 9 = .ok (.iload_n 1, 1) := by decide +kernel
theorem dX4_removeAt_10 : decode cX4_removeAt 10 = .ok (.iconst 1, 1) := by decide +kernel
theorem dX4_removeAt_11 : decode cX4_removeAt 11 = .ok (.iadd, 1) := by decide +kernel
theorem dX4_removeAt_12 : decode cX4_removeAt 12 = .ok (.istore_n 2, 1) := by decide +kernel
theorem dX4_removeAt_13 : decode cX4_removeAt 13 = .ok (.iload_n 2, 1) := by decide +kernel
theorem dX4_removeAt_14 : decode cX4_removeAt 14 = .ok (.aload_n 0, 1) := by decide +kernel
theorem dX4_removeAt_15 : decode cX4_removeAt 15 = .ok (.getfield 18, 3) := by decide +kernel
theorem dX4_removeAt_18 : decode cX4_removeAt 18 = .ok (.if_icmp .ge 37, 3) := by decide +kernel
theorem dX4_removeAt_21 : decode cX4_removeAt 21 = .ok (.aload_n 0, 1) := by decide +kernel
theorem dX4_removeAt_22 : decode cX4_removeAt 22 = .ok (.getfield 9, 3) := by decide +kernel
theorem dX4_removeAt_25 : decode cX4_removeAt 25 = .ok (.iload_n 2, 1) := by decide +kernel
theorem dX4_removeAt_26 : decode cX4_removeAt 26 = .ok (.iconst 1, 1) := by decide +kernel
theorem dX4_removeAt_27 : decode cX4_removeAt 27 = .ok (.isub, 1) := by decide +kernel
theorem dX4_removeAt_28 : decode cX4_removeAt 28 = .ok (.aload_n 0, 1) := by decide +kernel
theorem dX4_removeAt_29 : decode cX4_removeAt 29 = .ok (.getfield 9, 3) := by decide +kernel
theorem dX4_removeAt_32 : decode cX4_removeAt 32 = .ok (.iload_n 2, 1) := by decide +kernel
theorem dX4_removeAt_33 : decode cX4_removeAt 33 = .ok (.iaload, 1) := by decide +kernel
theorem dX4_removeAt_34 : decode cX4_removeAt 34 = .ok (.iastore, 1) := by decide +kernel
theorem dX4_removeAt_35 : decode cX4_removeAt 35 = .ok (.aload_n 0, 1) := by decide +kernel
theorem dX4_removeAt_36 : decode cX4_removeAt 36 = .ok (.getfield 15, 3) := by decide +kernel
theorem dX4_removeAt_39 : decode cX4_removeAt 39 = .ok (.iload_n 2, 1) := by decide +kernel
theorem dX4_removeAt_40 : decode cX4_removeAt 40 = .ok (.iconst 1, 1) := by decide +kernel
theorem dX4_removeAt_41 : decode cX4_removeAt 41 = .ok (.isub, 1) := by decide +kernel
theorem dX4_removeAt_42 : decode cX4_removeAt 42 = .ok (.aload_n 0, 1) := by decide +kernel
theorem dX4_removeAt_43 : decode cX4_removeAt 43 = .ok (.getfield 15, 3) := by decide +kernel
theorem dX4_removeAt_46 : decode cX4_removeAt 46 = .ok (.iload_n 2, 1) := by decide +kernel
theorem dX4_removeAt_47 : decode cX4_removeAt 47 = .ok (.iaload, 1) := by decide +kernel
theorem dX4_removeAt_48 : decode cX4_removeAt 48 = .ok (.iastore, 1) := by decide +kernel
theorem dX4_removeAt_49 : decode cX4_removeAt 49 = .ok (.iinc 2 1, 3) := by decide +kernel
theorem dX4_removeAt_52 : decode cX4_removeAt 52 = .ok (.goto (-39), 3) := by decide +kernel
theorem dX4_removeAt_55 : decode cX4_removeAt 55 = .ok (.aload_n 0, 1) := by decide +kernel
theorem dX4_removeAt_56 : decode cX4_removeAt 56 = .ok (.dup, 1) := by decide +kernel
theorem dX4_removeAt_57 : decode cX4_removeAt 57 = .ok (.getfield 18, 3) := by decide +kernel
theorem dX4_removeAt_60 : decode cX4_removeAt 60 = .ok (.iconst 1, 1) := by decide +kernel
theorem dX4_removeAt_61 : decode cX4_removeAt 61 = .ok (.isub, 1) := by decide +kernel
theorem dX4_removeAt_62 : decode cX4_removeAt 62 = .ok (.putfield 18, 3) := by decide +kernel
theorem dX4_removeAt_65 : decode cX4_removeAt 65 = .ok (.return_, 1) := by decide +kernel
theorem dX4_replaceAssumable_0 : decode cX4_replaceAssumable 0 = .ok (.aload_n 0, 1) := by decide +kernel
theorem dX4_replaceAssumable_1 : decode cX4_replaceAssumable 1 = .ok (.getfield 26, 3) := by decide +kernel
theorem dX4_replaceAssumable_4 : decode cX4_replaceAssumable 4 = .ok (.istore_n 2, 1) := by decide +kernel
theorem dX4_replaceAssumable_5 : decode cX4_replaceAssumable 5 = .ok (.aload_n 0, 1) := by decide +kernel
theorem dX4_replaceAssumable_6 : decode cX4_replaceAssumable 6 = .ok (.iload_n 1, 1) := by decide +kernel
theorem dX4_replaceAssumable_7 : decode cX4_replaceAssumable 7 = .ok (.putfield 26, 3) := by decide +kernel
theorem dX4_replaceAssumable_10 : decode cX4_replaceAssumable 10 = .ok (.iload_n 2, 1) := by decide +kernel
theorem dX4_replaceAssumable_11 : decode cX4_replaceAssumable 11 = .ok (.ireturn, 1) := by decide +kernel
theorem dX4_copyFrom_0 : decode cX4_copyFrom 0 = .ok (.iconst 0, 1) := by decide +kernel
theorem dX4_copyFrom_1 : decode cX4_copyFrom 1 = .ok (.istore_n 2, 1) := by decide +kernel
theorem dX4_copyFrom_2 : decode cX4_copyFrom 2 = .ok (.iload_n 2, 1) := by decide +kernel
theorem dX4_copyFrom_3 : decode cX4_copyFrom 3 = .ok (.aload_n 1, 1) := by decide +kernel
theorem dX4_copyFrom_4 : decode cX4_copyFrom 4 = .ok (.getfield 18, 3) := by decide +kernel
theorem dX4_copyFrom_7 : decode cX4_copyFrom 7 = .ok (.if_icmp .ge 33, 3) := by decide +kernel
theorem dX4_copyFrom_10 : decode cX4_copyFrom 10 = .ok (.aload_n 0, 1) := by decide +kernel
theorem dX4_copyFrom_11 : decode cX4_copyFrom 11 = .ok (.getfield 9, 3) := by decide +kernel
theorem dX4_copyFrom_14 : decode cX4_copyFrom 14 = .ok (.iload_n 2, 1) := by decide +kernel
theorem dX4_copyFrom_15 : decode cX4_copyFrom 15 = .ok (.aload_n 1, 1) := by decide +kernel
theorem dX4_copyFrom_16 : decode cX4_copyFrom 16 = .ok (.getfield 9, 3) := by decide +kernel
theorem dX4_copyFrom_19 : decode cX4_copyFrom 19 = .ok (.iload_n 2, 1) := by decide +kernel
theorem dX4_copyFrom_20 : decode cX4_copyFrom 20 = .ok (.iaload, 1) := by decide +kernel
theorem dX4_copyFrom_21 : decode cX4_copyFrom 21 = .ok (.iastore, 1) := by decide +kernel
theorem dX4_copyFrom_22 : decode cX4_copyFrom 22 = .ok (.aload_n 0, 1) := by decide +kernel
theorem dX4_copyFrom_23 : decode cX4_copyFrom 23 = .ok (.getfield 15, 3) := by decide +kernel
theorem dX4_copyFrom_26 : decode cX4_copyFrom 26 = .ok (.iload_n 2, 1) := by decide +kernel
theorem dX4_copyFrom_27 : decode cX4_copyFrom 27 = .ok (.aload_n 1, 1) := by decide +kernel
theorem dX4_copyFrom_28 : decode cX4_copyFrom 28 = .ok (.getfield 15, 3) := by decide +kernel
theorem dX4_copyFrom_31 : decode cX4_copyFrom 31 = .ok (.iload_n 2, 1) := by decide +kernel
theorem dX4_copyFrom_32 : decode cX4_copyFrom 32 = .ok (.iaload, 1) := by decide +kernel
theorem dX4_copyFrom_33 : decode cX4_copyFrom 33 = .ok (.iastore, 1) := by decide +kernel
theorem dX4_copyFrom_34 : decode cX4_copyFrom 34 = .ok (.iinc 2 1, 3) := by decide +kernel
theorem dX4_copyFrom_37 : decode cX4_copyFrom 37 = .ok (.goto (-35), 3) := by decide +kernel
theorem dX4_copyFrom_40 : decode cX4_copyFrom 40 = .ok (.aload_n 0, 1) := by decide +kernel
theorem dX4_copyFrom_41 : decode cX4_copyFrom 41 = .ok (.aload_n 1, 1) := by decide +kernel
theorem dX4_copyFrom_42 : decode cX4_copyFrom 42 = .ok (.getfield 18, 3) := by decide +kernel
theorem dX4_copyFrom_45 : decode cX4_copyFrom 45 = .ok (.putfield 18, 3) := by decide +kernel
theorem dX4_copyFrom_48 : decode cX4_copyFrom 48 = .ok (.aload_n 0, 1) := by decide +kernel
theorem dX4_copyFrom_49 : decode cX4_copyFrom 49 = .ok (.aload_n 1, 1) := by decide +kernel
theorem dX4_copyFrom_50 : decode cX4_copyFrom 50 = .ok (.getfield 26, 3) := by decide +kernel
theorem dX4_copyFrom_53 : decode cX4_copyFrom 53 = .ok (.putfield 26, 3) := by decide +kernel
theorem dX4_copyFrom_56 : decode cX4_copyFrom 56 = .ok (.return_, 1) := by decide +kernel
set_option maxRecDepth 20000 in
theorem ggX4_leastModel_X4_everyRule : GoodIn wsX4_leastModel wsX4_everyRule := goodIn_r _ [5, 6, 22, 23, 24, 25] (by decide +kernel) (by decide +kernel)
set_option maxRecDepth 20000 in
theorem gX4_leastModel_X4_everyRule : GoodIn wsX4_leastModel (wsV RX4 33 RX4 yX4_everyRule wsX4_everyRule) := goodIn_app (goodIn_of _ (by decide +kernel)) ggX4_leastModel_X4_everyRule
set_option maxRecDepth 20000 in
theorem ggX4_leastModel_X4_closure : GoodIn wsX4_leastModel wsX4_closure := goodIn_r _ [10, 11, 12, 13, 4, 14, 6, 15, 16, 17, 18, 19, 20, 21, 22, 23, 24, 25] (by decide +kernel) (by decide +kernel)
set_option maxRecDepth 20000 in
theorem gX4_leastModel_X4_closure : GoodIn wsX4_leastModel (wsV RX4 37 RX4 yX4_closure wsX4_closure) := goodIn_app (goodIn_of _ (by decide +kernel)) ggX4_leastModel_X4_closure
theorem dX4_leastModel_0 : decode cX4_leastModel 0 = .ok (.aload_n 0, 1) := by decide +kernel
theorem dX4_leastModel_1 : decode cX4_leastModel 1 = .ok (.aload_n 0, 1) := by decide +kernel
theorem dX4_leastModel_2 : decode cX4_leastModel 2 = .ok (.invokevirtual 33, 3) := by decide +kernel
theorem dX4_leastModel_5 : decode cX4_leastModel 5 = .ok (.iconst 0, 1) := by decide +kernel
theorem dX4_leastModel_6 : decode cX4_leastModel 6 = .ok (.invokevirtual 37, 3) := by decide +kernel
theorem dX4_leastModel_9 : decode cX4_leastModel 9 = .ok (.ireturn, 1) := by decide +kernel
set_option maxRecDepth 20000 in
theorem ggX4_levelOf_X4_everyRule : GoodIn wsX4_levelOf wsX4_everyRule := goodIn_r _ [5, 6, 18, 19, 20, 21] (by decide +kernel) (by decide +kernel)
set_option maxRecDepth 20000 in
theorem gX4_levelOf_X4_everyRule : GoodIn wsX4_levelOf (wsV RX4 33 RX4 yX4_everyRule wsX4_everyRule) := goodIn_app (goodIn_of _ (by decide +kernel)) ggX4_levelOf_X4_everyRule
set_option maxRecDepth 20000 in
theorem ggX4_levelOf_X4_afterOneRound : GoodIn wsX4_levelOf wsX4_afterOneRound := goodIn_r _ [10, 6, 11, 12, 13, 14, 15, 16, 17, 18, 19, 20, 21] (by decide +kernel) (by decide +kernel)
set_option maxRecDepth 20000 in
theorem gX4_levelOf_X4_afterOneRound : GoodIn wsX4_levelOf (wsV RX4 41 RX4 yX4_afterOneRound wsX4_afterOneRound) := goodIn_app (goodIn_of _ (by decide +kernel)) ggX4_levelOf_X4_afterOneRound
set_option maxRecDepth 20000 in
theorem ggX4_levelOf_X5_contains : GoodIn wsX4_levelOf wsX5_contains := goodIn_r _ [15] (by decide +kernel) (by decide +kernel)
set_option maxRecDepth 20000 in
theorem gX4_levelOf_X5_contains_n44 : GoodIn wsX4_levelOf (wsX5_contains) := ggX4_levelOf_X5_contains
theorem dX4_levelOf_0 : decode cX4_levelOf 0 = .ok (.iconst 0, 1) := by decide +kernel
theorem dX4_levelOf_1 : decode cX4_levelOf 1 = .ok (.istore_n 2, 1) := by decide +kernel
theorem dX4_levelOf_2 : decode cX4_levelOf 2 = .ok (.iconst 0, 1) := by decide +kernel
theorem dX4_levelOf_3 : decode cX4_levelOf 3 = .ok (.istore_n 3, 1) := by decide +kernel
theorem dX4_levelOf_4 : decode cX4_levelOf 4 = .ok (.iload_n 3, 1) := by decide +kernel
theorem dX4_levelOf_5 : decode cX4_levelOf 5 = .ok (.bipush 16, 2) := by decide +kernel
theorem dX4_levelOf_7 : decode cX4_levelOf 7 = .ok (.if_icmp .ge 29, 3) := by decide +kernel
theorem dX4_levelOf_10 : decode cX4_levelOf 10 = .ok (.aload_n 0, 1) := by decide +kernel
theorem dX4_levelOf_11 : decode cX4_levelOf 11 = .ok (.aload_n 0, 1) := by decide +kernel
theorem dX4_levelOf_12 : decode cX4_levelOf 12 = .ok (.invokevirtual 33, 3) := by decide +kernel
theorem dX4_levelOf_15 : decode cX4_levelOf 15 = .ok (.iload_n 2, 1) := by decide +kernel
theorem dX4_levelOf_16 : decode cX4_levelOf 16 = .ok (.invokevirtual 41, 3) := by decide +kernel
theorem dX4_levelOf_19 : decode cX4_levelOf 19 = .ok (.istore_n 2, 1) := by decide +kernel
theorem dX4_levelOf_20 : decode cX4_levelOf 20 = .ok (.iload_n 2, 1) := by decide +kernel
theorem dX4_levelOf_21 : decode cX4_levelOf 21 = .ok (.iload_n 1, 1) := by decide +kernel
theorem dX4_levelOf_22 : decode cX4_levelOf 22 = .ok (.invokestatic 44, 3) := by decide +kernel
theorem dX4_levelOf_25 : decode cX4_levelOf 25 = .ok (.ifCond .eq 5, 3) := by decide +kernel
theorem dX4_levelOf_28 : decode cX4_levelOf 28 = .ok (.iload_n 3, 1) := by decide +kernel
theorem dX4_levelOf_29 : decode cX4_levelOf 29 = .ok (.ireturn, 1) := by decide +kernel
theorem dX4_levelOf_30 : decode cX4_levelOf 30 = .ok (.iinc 3 1, 3) := by decide +kernel
theorem dX4_levelOf_33 : decode cX4_levelOf 33 = .ok (.goto (-29), 3) := by decide +kernel
theorem dX4_levelOf_36 : decode cX4_levelOf 36 = .ok (.iconst (-1), 1) := by decide +kernel
theorem dX4_levelOf_37 : decode cX4_levelOf 37 = .ok (.ireturn, 1) := by decide +kernel
set_option maxRecDepth 20000 in
theorem ggX4_supportsOf_X4_leastModel : GoodIn wsX4_supportsOf wsX4_leastModel := goodIn_r _ [8, 9, 10, 11, 7, 12, 1, 13, 14, 15, 16, 17, 18, 19, 20, 3, 2, 21, 22, 23, 24, 25, 26, 27, 28, 29] (by decide +kernel) (by decide +kernel)
set_option maxRecDepth 20000 in
theorem gX4_supportsOf_X4_leastModel : GoodIn wsX4_supportsOf (wsV RX4 48 RX4 yX4_leastModel wsX4_leastModel) := goodIn_app (goodIn_of _ (by decide +kernel)) ggX4_supportsOf_X4_leastModel
set_option maxRecDepth 20000 in
theorem ggX4_supportsOf_X5_isSubset : GoodIn wsX4_supportsOf wsX5_isSubset := goodIn_r _ [25] (by decide +kernel) (by decide +kernel)
set_option maxRecDepth 20000 in
theorem gX4_supportsOf_X5_isSubset_n51 : GoodIn wsX4_supportsOf (wsX5_isSubset) := ggX4_supportsOf_X5_isSubset
theorem dX4_supportsOf_0 : decode cX4_supportsOf 0 = .ok (.aload_n 0, 1) := by decide +kernel
theorem dX4_supportsOf_1 : decode cX4_supportsOf 1 = .ok (.invokevirtual 48, 3) := by decide +kernel
theorem dX4_supportsOf_4 : decode cX4_supportsOf 4 = .ok (.istore_n 2, 1) := by decide +kernel
theorem dX4_supportsOf_5 : decode cX4_supportsOf 5 = .ok (.iconst 0, 1) := by decide +kernel
theorem dX4_supportsOf_6 : decode cX4_supportsOf 6 = .ok (.istore_n 3, 1) := by decide +kernel
theorem dX4_supportsOf_7 : decode cX4_supportsOf 7 = .ok (.iconst 0, 1) := by decide +kernel
theorem dX4_supportsOf_8 : decode cX4_supportsOf 8 = .ok (.istore 4, 2) := by decide +kernel
theorem dX4_supportsOf_10 : decode cX4_supportsOf 10 = .ok (.iload 4, 2) := by decide +kernel
theorem dX4_supportsOf_12 : decode cX4_supportsOf 12 = .ok (.aload_n 0, 1) := by decide +kernel
theorem dX4_supportsOf_13 : decode cX4_supportsOf 13 = .ok (.getfield 18, 3) := by decide +kernel
theorem dX4_supportsOf_16 : decode cX4_supportsOf 16 = .ok (.if_icmp .ge 41, 3) := by decide +kernel
theorem dX4_supportsOf_19 : decode cX4_supportsOf 19 = .ok (.aload_n 0, 1) := by decide +kernel
theorem dX4_supportsOf_20 : decode cX4_supportsOf 20 = .ok (.getfield 9, 3) := by decide +kernel
theorem dX4_supportsOf_23 : decode cX4_supportsOf 23 = .ok (.iload 4, 2) := by decide +kernel
theorem dX4_supportsOf_25 : decode cX4_supportsOf 25 = .ok (.iaload, 1) := by decide +kernel
theorem dX4_supportsOf_26 : decode cX4_supportsOf 26 = .ok (.iload_n 1, 1) := by decide +kernel
theorem dX4_supportsOf_27 : decode cX4_supportsOf 27 = .ok (.if_icmp .ne 24, 3) := by decide +kernel
theorem dX4_supportsOf_30 : decode cX4_supportsOf 30 = .ok (.aload_n 0, 1) := by decide +kernel
theorem dX4_supportsOf_31 : decode cX4_supportsOf 31 = .ok (.getfield 15, 3) := by decide +kernel
theorem dX4_supportsOf_34 : decode cX4_supportsOf 34 = .ok (.iload 4, 2) := by decide +kernel
theorem dX4_supportsOf_36 : decode cX4_supportsOf 36 = .ok (.iaload, 1) := by decide +kernel
theorem dX4_supportsOf_37 : decode cX4_supportsOf 37 = .ok (.iload_n 2, 1) := by decide +kernel
theorem dX4_supportsOf_38 : decode cX4_supportsOf 38 = .ok (.invokestatic 51, 3) := by decide +kernel
theorem dX4_supportsOf_41 : decode cX4_supportsOf 41 = .ok (.ifCond .eq 10, 3) := by decide +kernel
theorem dX4_supportsOf_44 : decode cX4_supportsOf 44 = .ok (.iload_n 3, 1) := by decide +kernel
theorem dX4_supportsOf_45 : decode cX4_supportsOf 45 = .ok (.iconst 1, 1) := by decide +kernel
theorem dX4_supportsOf_46 : decode cX4_supportsOf 46 = .ok (.iload 4, 2) := by decide +kernel
theorem dX4_supportsOf_48 : decode cX4_supportsOf 48 = .ok (.ishl, 1) := by decide +kernel
theorem dX4_supportsOf_49 : decode cX4_supportsOf 49 = .ok (.ior, 1) := by decide +kernel
theorem dX4_supportsOf_50 : decode cX4_supportsOf 50 = .ok (.istore_n 3, 1) := by decide +kernel
theorem dX4_supportsOf_51 : decode cX4_supportsOf 51 = .ok (.iinc 4 1, 3) := by decide +kernel
theorem dX4_supportsOf_54 : decode cX4_supportsOf 54 = .ok (.goto (-44), 3) := by decide +kernel
theorem dX4_supportsOf_57 : decode cX4_supportsOf 57 = .ok (.iload_n 3, 1) := by decide +kernel
theorem dX4_supportsOf_58 : decode cX4_supportsOf 58 = .ok (.ireturn, 1) := by decide +kernel
set_option maxRecDepth 20000 in
theorem ggX4_reasonFor_X4_everyRule : GoodIn wsX4_reasonFor wsX4_everyRule := goodIn_r _ [6, 1, 22, 23, 24, 25] (by decide +kernel) (by decide +kernel)
set_option maxRecDepth 20000 in
theorem gX4_reasonFor_X4_everyRule : GoodIn wsX4_reasonFor (wsV RX4 33 RX4 yX4_everyRule wsX4_everyRule) := goodIn_app (goodIn_of _ (by decide +kernel)) ggX4_reasonFor_X4_everyRule
set_option maxRecDepth 20000 in
theorem ggX4_reasonFor_X4_closure : GoodIn wsX4_reasonFor wsX4_closure := goodIn_r _ [10, 11, 12, 13, 5, 14, 1, 15, 16, 17, 18, 19, 20, 21, 22, 23, 24, 25] (by decide +kernel) (by decide +kernel)
set_option maxRecDepth 20000 in
theorem gX4_reasonFor_X4_closure : GoodIn wsX4_reasonFor (wsV RX4 37 RX4 yX4_closure wsX4_closure) := goodIn_app (goodIn_of _ (by decide +kernel)) ggX4_reasonFor_X4_closure
set_option maxRecDepth 20000 in
theorem ggX4_reasonFor_X5_contains : GoodIn wsX4_reasonFor wsX5_contains := goodIn_r _ [19] (by decide +kernel) (by decide +kernel)
set_option maxRecDepth 20000 in
theorem gX4_reasonFor_X5_contains_n44 : GoodIn wsX4_reasonFor (wsX5_contains) := ggX4_reasonFor_X5_contains
theorem dX4_reasonFor_0 : decode cX4_reasonFor 0 = .ok (.aload_n 0, 1) := by decide +kernel
theorem dX4_reasonFor_1 : decode cX4_reasonFor 1 = .ok (.invokevirtual 33, 3) := by decide +kernel
theorem dX4_reasonFor_4 : decode cX4_reasonFor 4 = .ok (.istore_n 2, 1) := by decide +kernel
theorem dX4_reasonFor_5 : decode cX4_reasonFor 5 = .ok (.aload_n 0, 1) := by decide +kernel
theorem dX4_reasonFor_6 : decode cX4_reasonFor 6 = .ok (.getfield 18, 3) := by decide +kernel
theorem dX4_reasonFor_9 : decode cX4_reasonFor 9 = .ok (.iconst 1, 1) := by decide +kernel
theorem dX4_reasonFor_10 : decode cX4_reasonFor 10 = .ok (.isub, 1) := by decide +kernel
theorem dX4_reasonFor_11 : decode cX4_reasonFor 11 = .ok (.istore_n 3, 1) := by decide +kernel
theorem dX4_reasonFor_12 : decode cX4_reasonFor 12 = .ok (.iload_n 3, 1) := by decide +kernel
theorem dX4_reasonFor_13 : decode cX4_reasonFor 13 = .ok (.ifCond .lt 35, 3) := by decide +kernel
theorem dX4_reasonFor_16 : decode cX4_reasonFor 16 = .ok (.iload_n 2, 1) := by decide +kernel
theorem dX4_reasonFor_17 : decode cX4_reasonFor 17 = .ok (.iconst 1, 1) := by decide +kernel
theorem dX4_reasonFor_18 : decode cX4_reasonFor 18 = .ok (.iload_n 3, 1) := by decide +kernel
theorem dX4_reasonFor_19 : decode cX4_reasonFor 19 = .ok (.ishl, 1) := by decide +kernel
theorem dX4_reasonFor_20 : decode cX4_reasonFor 20 = .ok (.iconst (-1), 1) := by decide +kernel
theorem dX4_reasonFor_21 : decode cX4_reasonFor 21 = .ok (.ixor, 1) := by decide +kernel
theorem dX4_reasonFor_22 : decode cX4_reasonFor 22 = .ok (.iand, 1) := by decide +kernel
theorem dX4_reasonFor_23 : decode cX4_reasonFor 23 = .ok (.istore 4, 2) := by decide +kernel
theorem dX4_reasonFor_25 : decode cX4_reasonFor 25 = .ok (.aload_n 0, 1) := by decide +kernel
theorem dX4_reasonFor_26 : decode cX4_reasonFor 26 = .ok (.iload 4, 2) := by decide +kernel
theorem dX4_reasonFor_28 : decode cX4_reasonFor 28 = .ok (.iconst 0, 1) := by decide +kernel
theorem dX4_reasonFor_29 : decode cX4_reasonFor 29 = .ok (.invokevirtual 37, 3) := by decide +kernel
theorem dX4_reasonFor_32 : decode cX4_reasonFor 32 = .ok (.iload_n 1, 1) := by decide +kernel
theorem dX4_reasonFor_33 : decode cX4_reasonFor 33 = .ok (.invokestatic 44, 3) := by decide +kernel
theorem dX4_reasonFor_36 : decode cX4_reasonFor 36 = .ok (.ifCond .eq 6, 3) := by decide +kernel
theorem dX4_reasonFor_39 : decode cX4_reasonFor 39 = .ok (.iload 4, 2) := by decide +kernel
theorem dX4_reasonFor_41 : decode cX4_reasonFor 41 = .ok (.istore_n 2, 1) := by decide +kernel
theorem dX4_reasonFor_42 : decode cX4_reasonFor 42 = .ok (.iinc 3 (-1), 3) := by decide +kernel
theorem dX4_reasonFor_45 : decode cX4_reasonFor 45 = .ok (.goto (-33), 3) := by decide +kernel
theorem dX4_reasonFor_48 : decode cX4_reasonFor 48 = .ok (.iload_n 2, 1) := by decide +kernel
theorem dX4_reasonFor_49 : decode cX4_reasonFor 49 = .ok (.ireturn, 1) := by decide +kernel
set_option maxRecDepth 20000 in
theorem ggX4_necessaryFor_X4_modelWithout : GoodIn wsX4_necessaryFor wsX4_modelWithout := goodIn_r _ [6, 7, 8, 9, 5, 10, 1, 11, 12, 13, 14, 15, 16, 17, 18, 19, 20, 21, 22, 23, 24, 25, 26, 27, 28, 29] (by decide +kernel) (by decide +kernel)
set_option maxRecDepth 20000 in
theorem gX4_necessaryFor_X4_modelWithout : GoodIn wsX4_necessaryFor (wsV RX4 54 RX4 yX4_modelWithout wsX4_modelWithout) := goodIn_app (goodIn_of _ (by decide +kernel)) ggX4_necessaryFor_X4_modelWithout
set_option maxRecDepth 20000 in
theorem ggX4_necessaryFor_X5_contains : GoodIn wsX4_necessaryFor wsX5_contains := goodIn_r _ [23] (by decide +kernel) (by decide +kernel)
set_option maxRecDepth 20000 in
theorem gX4_necessaryFor_X5_contains_n44 : GoodIn wsX4_necessaryFor (wsX5_contains) := ggX4_necessaryFor_X5_contains
theorem dX4_necessaryFor_0 : decode cX4_necessaryFor 0 = .ok (.iconst 0, 1) := by decide +kernel
theorem dX4_necessaryFor_1 : decode cX4_necessaryFor 1 = .ok (.istore_n 2, 1) := by decide +kernel
theorem dX4_necessaryFor_2 : decode cX4_necessaryFor 2 = .ok (.iconst 0, 1) := by decide +kernel
theorem dX4_necessaryFor_3 : decode cX4_necessaryFor 3 = .ok (.istore_n 3, 1) := by decide +kernel
theorem dX4_necessaryFor_4 : decode cX4_necessaryFor 4 = .ok (.iload_n 3, 1) := by decide +kernel
theorem dX4_necessaryFor_5 : decode cX4_necessaryFor 5 = .ok (.aload_n 0, 1) := by decide +kernel
theorem dX4_necessaryFor_6 : decode cX4_necessaryFor 6 = .ok (.getfield 18, 3) := by decide +kernel
theorem dX4_necessaryFor_9 : decode cX4_necessaryFor 9 = .ok (.if_icmp .ge 27, 3) := by decide +kernel
theorem dX4_necessaryFor_12 : decode cX4_necessaryFor 12 = .ok (.aload_n 0, 1) := by decide +kernel
theorem dX4_necessaryFor_13 : decode cX4_necessaryFor 13 = .ok (.iload_n 3, 1) := by decide +kernel
theorem dX4_necessaryFor_14 : decode cX4_necessaryFor 14 = .ok (.invokevirtual 54, 3) := by decide +kernel
theorem dX4_necessaryFor_17 : decode cX4_necessaryFor 17 = .ok (.iload_n 1, 1) := by decide +kernel
theorem dX4_necessaryFor_18 : decode cX4_necessaryFor 18 = .ok (.invokestatic 44, 3) := by decide +kernel
theorem dX4_necessaryFor_21 : decode cX4_necessaryFor 21 = .ok (.ifCond .ne 9, 3) := by decide +kernel
theorem dX4_necessaryFor_24 : decode cX4_necessaryFor 24 = .ok (.iload_n 2, 1) := by decide +kernel
theorem dX4_necessaryFor_25 : decode cX4_necessaryFor 25 = .ok (.iconst 1, 1) := by decide +kernel
theorem dX4_necessaryFor_26 : decode cX4_necessaryFor 26 = .ok (.iload_n 3, 1) := by decide +kernel
theorem dX4_necessaryFor_27 : decode cX4_necessaryFor 27 = .ok (.ishl, 1) := by decide +kernel
theorem dX4_necessaryFor_28 : decode cX4_necessaryFor 28 = .ok (.ior, 1) := by decide +kernel
theorem dX4_necessaryFor_29 : decode cX4_necessaryFor 29 = .ok (.istore_n 2, 1) := by decide +kernel
theorem dX4_necessaryFor_30 : decode cX4_necessaryFor 30 = .ok (.iinc 3 1, 3) := by decide +kernel
theorem dX4_necessaryFor_33 : decode cX4_necessaryFor 33 = .ok (.goto (-29), 3) := by decide +kernel
theorem dX4_necessaryFor_36 : decode cX4_necessaryFor 36 = .ok (.iload_n 2, 1) := by decide +kernel
theorem dX4_necessaryFor_37 : decode cX4_necessaryFor 37 = .ok (.ireturn, 1) := by decide +kernel
set_option maxRecDepth 20000 in
theorem ggX4_dependenciesOf_X4_bodiesUnder : GoodIn wsX4_dependenciesOf wsX4_bodiesUnder := goodIn_r _ [5, 6, 7, 8, 9, 10, 11, 12, 13, 14, 15] (by decide +kernel) (by decide +kernel)
set_option maxRecDepth 20000 in
theorem gX4_dependenciesOf_X4_bodiesUnder : GoodIn wsX4_dependenciesOf (wsV RX4 58 RX4 yX4_bodiesUnder wsX4_bodiesUnder) := goodIn_app (goodIn_of _ (by decide +kernel)) ggX4_dependenciesOf_X4_bodiesUnder
theorem dX4_dependenciesOf_0 : decode cX4_dependenciesOf 0 = .ok (.aload_n 0, 1) := by decide +kernel
theorem dX4_dependenciesOf_1 : decode cX4_dependenciesOf 1 = .ok (.iconst 1, 1) := by decide +kernel
theorem dX4_dependenciesOf_2 : decode cX4_dependenciesOf 2 = .ok (.iload_n 1, 1) := by decide +kernel
theorem dX4_dependenciesOf_3 : decode cX4_dependenciesOf 3 = .ok (.ishl, 1) := by decide +kernel
theorem dX4_dependenciesOf_4 : decode cX4_dependenciesOf 4 = .ok (.invokevirtual 58, 3) := by decide +kernel
theorem dX4_dependenciesOf_7 : decode cX4_dependenciesOf 7 = .ok (.istore_n 2, 1) := by decide +kernel
theorem dX4_dependenciesOf_8 : decode cX4_dependenciesOf 8 = .ok (.iconst 0, 1) := by decide +kernel
theorem dX4_dependenciesOf_9 : decode cX4_dependenciesOf 9 = .ok (.istore_n 3, 1) := by decide +kernel
theorem dX4_dependenciesOf_10 : decode cX4_dependenciesOf 10 = .ok (.iload_n 3, 1) := by decide +kernel
theorem dX4_dependenciesOf_11 : decode cX4_dependenciesOf 11 = .ok (.bipush 16, 2) := by decide +kernel
theorem dX4_dependenciesOf_13 : decode cX4_dependenciesOf 13 = .ok (.if_icmp .ge 17, 3) := by decide +kernel
theorem dX4_dependenciesOf_16 : decode cX4_dependenciesOf 16 = .ok (.iload_n 2, 1) := by decide +kernel
theorem dX4_dependenciesOf_17 : decode cX4_dependenciesOf 17 = .ok (.aload_n 0, 1) := by decide +kernel
theorem dX4_dependenciesOf_18 : decode cX4_dependenciesOf 18 = .ok (.iload_n 2, 1) := by decide +kernel
theorem dX4_dependenciesOf_19 : decode cX4_dependenciesOf 19 = .ok (.invokevirtual 58, 3) := by decide +kernel
theorem dX4_dependenciesOf_22 : decode cX4_dependenciesOf 22 = .ok (.ior, 1) := by decide +kernel
theorem dX4_dependenciesOf_23 : decode cX4_dependenciesOf 23 = .ok (.istore_n 2, 1) := by decide +kernel
theorem dX4_dependenciesOf_24 : decode cX4_dependenciesOf 24 = .ok (.iinc 3 1, 3) := by decide +kernel
theorem dX4_dependenciesOf_27 : decode cX4_dependenciesOf 27 = .ok (.goto (-17), 3) := by decide +kernel
theorem dX4_dependenciesOf_30 : decode cX4_dependenciesOf 30 = .ok (.iload_n 2, 1) := by decide +kernel
theorem dX4_dependenciesOf_31 : decode cX4_dependenciesOf 31 = .ok (.ireturn, 1) := by decide +kernel
set_option maxRecDepth 20000 in
theorem ggX4_atomsOnCycles_X4_dependenciesOf : GoodIn wsX4_atomsOnCycles wsX4_dependenciesOf := goodIn_r _ [5, 6, 7, 8, 4, 9, 10, 11, 12, 13, 14, 15, 16, 17, 18, 19] (by decide +kernel) (by decide +kernel)
set_option maxRecDepth 20000 in
theorem gX4_atomsOnCycles_X4_dependenciesOf : GoodIn wsX4_atomsOnCycles (wsV RX4 61 RX4 yX4_dependenciesOf wsX4_dependenciesOf) := goodIn_app (goodIn_of _ (by decide +kernel)) ggX4_atomsOnCycles_X4_dependenciesOf
theorem dX4_atomsOnCycles_0 : decode cX4_atomsOnCycles 0 = .ok (.iconst 0, 1) := by decide +kernel
theorem dX4_atomsOnCycles_1 : decode cX4_atomsOnCycles 1 = .ok (.istore_n 1, 1) := by decide +kernel
theorem dX4_atomsOnCycles_2 : decode cX4_atomsOnCycles 2 = .ok (.iconst 0, 1) := by decide +kernel
theorem dX4_atomsOnCycles_3 : decode cX4_atomsOnCycles 3 = .ok (.istore_n 2, 1) := by decide +kernel
theorem dX4_atomsOnCycles_4 : decode cX4_atomsOnCycles 4 = .ok (.iload_n 2, 1) := by decide +kernel
theorem dX4_atomsOnCycles_5 : decode cX4_atomsOnCycles 5 = .ok (.bipush 16, 2) := by decide +kernel
theorem dX4_atomsOnCycles_7 : decode cX4_atomsOnCycles 7 = .ok (.if_icmp .ge 21, 3) := by decide +kernel
theorem dX4_atomsOnCycles_10 : decode cX4_atomsOnCycles 10 = .ok (.iload_n 1, 1) := by decide +kernel
theorem dX4_atomsOnCycles_11 : decode cX4_atomsOnCycles 11 = .ok (.aload_n 0, 1) := by decide +kernel
theorem dX4_atomsOnCycles_12 : decode cX4_atomsOnCycles 12 = .ok (.iload_n 2, 1) := by decide +kernel
theorem dX4_atomsOnCycles_13 : decode cX4_atomsOnCycles 13 = .ok (.invokevirtual 61, 3) := by decide +kernel
theorem dX4_atomsOnCycles_16 : decode cX4_atomsOnCycles 16 = .ok (.iconst 1, 1) := by decide +kernel
theorem dX4_atomsOnCycles_17 : decode cX4_atomsOnCycles 17 = .ok (.iload_n 2, 1) := by decide +kernel
theorem dX4_atomsOnCycles_18 : decode cX4_atomsOnCycles 18 = .ok (.ishl, 1) := by decide +kernel
theorem dX4_atomsOnCycles_19 : decode cX4_atomsOnCycles 19 = .ok (.iand, 1) := by decide +kernel
theorem dX4_atomsOnCycles_20 : decode cX4_atomsOnCycles 20 = .ok (.ior, 1) := by decide +kernel
theorem dX4_atomsOnCycles_21 : decode cX4_atomsOnCycles 21 = .ok (.istore_n 1, 1) := by decide +kernel
theorem dX4_atomsOnCycles_22 : decode cX4_atomsOnCycles 22 = .ok (.iinc 2 1, 3) := by decide +kernel
theorem dX4_atomsOnCycles_25 : decode cX4_atomsOnCycles 25 = .ok (.goto (-21), 3) := by decide +kernel
theorem dX4_atomsOnCycles_28 : decode cX4_atomsOnCycles 28 = .ok (.iload_n 1, 1) := by decide +kernel
theorem dX4_atomsOnCycles_29 : decode cX4_atomsOnCycles 29 = .ok (.ireturn, 1) := by decide +kernel
set_option maxRecDepth 20000 in
theorem ggX4_overDeletedBy_X4_leastModel : GoodIn wsX4_overDeletedBy wsX4_leastModel := goodIn_r _ [8, 9, 10, 11, 7, 12, 3, 13, 14, 15, 16, 17, 18, 19, 20, 1, 2, 21, 22, 23, 24, 25, 30, 31, 32, 33] (by decide +kernel) (by decide +kernel)
set_option maxRecDepth 20000 in
theorem gX4_overDeletedBy_X4_leastModel : GoodIn wsX4_overDeletedBy (wsV RX4 48 RX4 yX4_leastModel wsX4_leastModel) := goodIn_app (goodIn_of _ (by decide +kernel)) ggX4_overDeletedBy_X4_leastModel
set_option maxRecDepth 20000 in
theorem ggX4_overDeletedBy_X4_hasRule : GoodIn wsX4_overDeletedBy wsX4_hasRule := goodIn_r _ [29, 3, 30, 31, 32, 33] (by decide +kernel) (by decide +kernel)
set_option maxRecDepth 20000 in
theorem gX4_overDeletedBy_X4_hasRule : GoodIn wsX4_overDeletedBy (wsV RX4 22 RX4 yX4_hasRule wsX4_hasRule) := goodIn_app (goodIn_of _ (by decide +kernel)) ggX4_overDeletedBy_X4_hasRule
set_option maxRecDepth 20000 in
theorem ggX4_overDeletedBy_X5_isSubset : GoodIn wsX4_overDeletedBy wsX5_isSubset := goodIn_r _ [25] (by decide +kernel) (by decide +kernel)
set_option maxRecDepth 20000 in
theorem gX4_overDeletedBy_X5_isSubset_n51 : GoodIn wsX4_overDeletedBy (wsX5_isSubset) := ggX4_overDeletedBy_X5_isSubset
theorem dX4_overDeletedBy_0 : decode cX4_overDeletedBy 0 = .ok (.aload_n 0, 1) := by decide +kernel
theorem dX4_overDeletedBy_1 : decode cX4_overDeletedBy 1 = .ok (.invokevirtual 48, 3) := by decide +kernel
theorem dX4_overDeletedBy_4 : decode cX4_overDeletedBy 4 = .ok (.istore_n 2, 1) := by decide +kernel
theorem dX4_overDeletedBy_5 : decode cX4_overDeletedBy 5 = .ok (.aload_n 0, 1) := by decide +kernel
theorem dX4_overDeletedBy_6 : decode cX4_overDeletedBy 6 = .ok (.iload_n 1, 1) := by decide +kernel
theorem dX4_overDeletedBy_7 : decode cX4_overDeletedBy 7 = .ok (.invokevirtual 22, 3) := by decide +kernel
theorem dX4_overDeletedBy_10 : decode cX4_overDeletedBy 10 = .ok (.ifCond .eq 16, 3) := by decide +kernel
theorem dX4_overDeletedBy_13 : decode cX4_overDeletedBy 13 = .ok (.aload_n 0, 1) := by decide +kernel
theorem dX4_overDeletedBy_14 : decode cX4_overDeletedBy 14 = .ok (.getfield 15, 3) := by decide +kernel
theorem dX4_overDeletedBy_17 : decode cX4_overDeletedBy 17 = .ok (.iload_n 1, 1) := by decide +kernel
theorem dX4_overDeletedBy_18 : decode cX4_overDeletedBy 18 = .ok (.iaload, 1) := by decide +kernel
theorem dX4_overDeletedBy_19 : decode cX4_overDeletedBy 19 = .ok (.iload_n 2, 1) := by decide +kernel
theorem dX4_overDeletedBy_20 : decode cX4_overDeletedBy 20 = .ok (.invokestatic 51, 3) := by decide +kernel
theorem dX4_overDeletedBy_23 : decode cX4_overDeletedBy 23 = .ok (.ifCond .ne 5, 3) := by decide +kernel
theorem dX4_overDeletedBy_26 : decode cX4_overDeletedBy 26 = .ok (.iconst 0, 1) := by decide +kernel
theorem dX4_overDeletedBy_27 : decode cX4_overDeletedBy 27 = .ok (.ireturn, 1) := by decide +kernel
theorem dX4_overDeletedBy_28 : decode cX4_overDeletedBy 28 = .ok (.iconst 1, 1) := by decide +kernel
theorem dX4_overDeletedBy_29 : decode cX4_overDeletedBy 29 = .ok (.aload_n 0, 1) := by decide +kernel
theorem dX4_overDeletedBy_30 : decode cX4_overDeletedBy 30 = .ok (.getfield 9, 3) := by decide +kernel
theorem dX4_overDeletedBy_33 : decode cX4_overDeletedBy 33 = .ok (.iload_n 1, 1) := by decide +kernel
theorem dX4_overDeletedBy_34 : decode cX4_overDeletedBy 34 = .ok (.iaload, 1) := by decide +kernel
theorem dX4_overDeletedBy_35 : decode cX4_overDeletedBy 35 = .ok (.ishl, 1) := by decide +kernel
theorem dX4_overDeletedBy_36 : decode cX4_overDeletedBy 36 = .ok (.istore_n 3, 1) := by decide +kernel
theorem dX4_overDeletedBy_37 : decode cX4_overDeletedBy 37 = .ok (.iconst 0, 1) := by decide +kernel
theorem dX4_overDeletedBy_38 : decode cX4_overDeletedBy 38 = .ok (.istore 4, 2) := by decide +kernel
theorem dX4_overDeletedBy_40 : decode cX4_overDeletedBy 40 = .ok (.iload 4, 2) := by decide +kernel
theorem dX4_overDeletedBy_42 : decode cX4_overDeletedBy 42 = .ok (.bipush 16, 2) := by decide +kernel
theorem dX4_overDeletedBy_44 : decode cX4_overDeletedBy 44 = .ok (.if_icmp .ge 71, 3) := by decide +kernel
theorem dX4_overDeletedBy_47 : decode cX4_overDeletedBy 47 = .ok (.iconst 0, 1) := by decide +kernel
theorem dX4_overDeletedBy_48 : decode cX4_overDeletedBy 48 = .ok (.istore 5, 2) := by decide +kernel
theorem dX4_overDeletedBy_50 : decode cX4_overDeletedBy 50 = .ok (.iload 5, 2) := by decide +kernel
theorem dX4_overDeletedBy_52 : decode cX4_overDeletedBy 52 = .ok (.aload_n 0, 1) := by decide +kernel
theorem dX4_overDeletedBy_53 : decode cX4_overDeletedBy 53 = .ok (.getfield 18, 3) := by decide +kernel
theorem dX4_overDeletedBy_56 : decode cX4_overDeletedBy 56 = .ok (.if_icmp .ge 53, 3) := by decide +kernel
theorem dX4_overDeletedBy_59 : decode cX4_overDeletedBy 59 = .ok (.iload 5, 2) := by decide +kernel
theorem dX4_overDeletedBy_61 : decode cX4_overDeletedBy 61 = .ok (.iload_n 1, 1) := by decide +kernel
theorem dX4_overDeletedBy_62 : decode cX4_overDeletedBy 62 = .ok (.if_icmp .eq 41, 3) := by decide +kernel
theorem dX4_overDeletedBy_65 : decode cX4_overDeletedBy 65 = .ok (.aload_n 0, 1) := by decide +kernel
theorem dX4_overDeletedBy_66 : decode cX4_overDeletedBy 66 = .ok (.getfield 15, 3) := by decide +kernel
theorem dX4_overDeletedBy_69 : decode cX4_overDeletedBy 69 = .ok (.iload 5, 2) := by decide +kernel
theorem dX4_overDeletedBy_71 : decode cX4_overDeletedBy 71 = .ok (.iaload, 1) := by decide +kernel
theorem dX4_overDeletedBy_72 : decode cX4_overDeletedBy 72 = .ok (.iload_n 2, 1) := by decide +kernel
theorem dX4_overDeletedBy_73 : decode cX4_overDeletedBy 73 = .ok (.invokestatic 51, 3) := by decide +kernel
theorem dX4_overDeletedBy_76 : decode cX4_overDeletedBy 76 = .ok (.ifCond .eq 27, 3) := by decide +kernel
theorem dX4_overDeletedBy_79 : decode cX4_overDeletedBy 79 = .ok (.aload_n 0, 1) := by decide +kernel
theorem dX4_overDeletedBy_80 : decode cX4_overDeletedBy 80 = .ok (.getfield 15, 3) := by decide +kernel
theorem dX4_overDeletedBy_83 : decode cX4_overDeletedBy 83 = .ok (.iload 5, 2) := by decide +kernel
theorem dX4_overDeletedBy_85 : decode cX4_overDeletedBy 85 = .ok (.iaload, 1) := by decide +kernel
theorem dX4_overDeletedBy_86 : decode cX4_overDeletedBy 86 = .ok (.iload_n 3, 1) := by decide +kernel
theorem dX4_overDeletedBy_87 : decode cX4_overDeletedBy 87 = .ok (.iand, 1) := by decide +kernel
theorem dX4_overDeletedBy_88 : decode cX4_overDeletedBy 88 = .ok (.ifCond .eq 15, 3) := by decide +kernel
theorem dX4_overDeletedBy_91 : decode cX4_overDeletedBy 91 = .ok (.iload_n 3, 1) := by decide +kernel
theorem dX4_overDeletedBy_92 : decode cX4_overDeletedBy 92 = .ok (.iconst 1, 1) := by decide +kernel
theorem dX4_overDeletedBy_93 : decode cX4_overDeletedBy 93 = .ok (.aload_n 0, 1) := by decide +kernel
theorem dX4_overDeletedBy_94 : decode cX4_overDeletedBy 94 = .ok (.getfield 9, 3) := by decide +kernel
theorem dX4_overDeletedBy_97 : decode cX4_overDeletedBy 97 = .ok (.iload 5, 2) := by decide +kernel
theorem dX4_overDeletedBy_99 : decode cX4_overDeletedBy 99 = .ok (.iaload, 1) := by decide +kernel
theorem dX4_overDeletedBy_100 : decode cX4_overDeletedBy 100 = .ok (.ishl, 1) := by decide +kernel
theorem dX4_overDeletedBy_101 : decode cX4_overDeletedBy 101 = .ok (.ior, 1) := by decide +kernel
theorem dX4_overDeletedBy_102 : decode cX4_overDeletedBy 102 = .ok (.istore_n 3, 1) := by decide +kernel
theorem dX4_overDeletedBy_103 : decode cX4_overDeletedBy 103 = .ok (.iinc 5 1, 3) := by decide +kernel
theorem dX4_overDeletedBy_106 : decode cX4_overDeletedBy 106 = .ok (.goto (-56), 3) := by decide +kernel
theorem dX4_overDeletedBy_109 : decode cX4_overDeletedBy 109 = .ok (.iinc 4 1, 3) := by decide +kernel
theorem dX4_overDeletedBy_112 : decode cX4_overDeletedBy 112 = .ok (.goto (-72), 3) := by decide +kernel
theorem dX4_overDeletedBy_115 : decode cX4_overDeletedBy 115 = .ok (.iload_n 3, 1) := by decide +kernel
theorem dX4_overDeletedBy_116 : decode cX4_overDeletedBy 116 = .ok (.ireturn, 1) := by decide +kernel
set_option maxRecDepth 20000 in
theorem ggX4_lostWithout_X4_leastModel : GoodIn wsX4_lostWithout wsX4_leastModel := goodIn_r _ [5, 6, 7, 8, 4, 9, 10, 11, 12, 13, 14, 15, 16, 17, 18, 19, 20, 21, 22, 23, 24, 25, 30, 31, 32, 33] (by decide +kernel) (by decide +kernel)
set_option maxRecDepth 20000 in
theorem gX4_lostWithout_X4_leastModel : GoodIn wsX4_lostWithout (wsV RX4 48 RX4 yX4_leastModel wsX4_leastModel) := goodIn_app (goodIn_of _ (by decide +kernel)) ggX4_lostWithout_X4_leastModel
set_option maxRecDepth 20000 in
theorem ggX4_lostWithout_X4_modelWithout : GoodIn wsX4_lostWithout wsX4_modelWithout := goodIn_r _ [29, 6, 7, 8, 4, 9, 10, 11, 12, 13, 14, 15, 16, 17, 18, 19, 20, 21, 22, 23, 24, 25, 30, 31, 32, 33] (by decide +kernel) (by decide +kernel)
set_option maxRecDepth 20000 in
theorem gX4_lostWithout_X4_modelWithout : GoodIn wsX4_lostWithout (wsV RX4 54 RX4 yX4_modelWithout wsX4_modelWithout) := goodIn_app (goodIn_of _ (by decide +kernel)) ggX4_lostWithout_X4_modelWithout
theorem dX4_lostWithout_0 : decode cX4_lostWithout 0 = .ok (.aload_n 0, 1) := by decide +kernel
theorem dX4_lostWithout_1 : decode cX4_lostWithout 1 = .ok (.invokevirtual 48, 3) := by decide +kernel
theorem dX4_lostWithout_4 : decode cX4_lostWithout 4 = .ok (.aload_n 0, 1) := by decide +kernel
theorem dX4_lostWithout_5 : decode cX4_lostWithout 5 = .ok (.iload_n 1, 1) := by decide +kernel
theorem dX4_lostWithout_6 : decode cX4_lostWithout 6 = .ok (.invokevirtual 54, 3) := by decide +kernel
theorem dX4_lostWithout_9 : decode cX4_lostWithout 9 = .ok (.iconst (-1), 1) := by decide +kernel
theorem dX4_lostWithout_10 : decode cX4_lostWithout 10 = .ok (.ixor, 1) := by decide +kernel
theorem dX4_lostWithout_11 : decode cX4_lostWithout 11 = .ok (.iand, 1) := by decide +kernel
theorem dX4_lostWithout_12 : decode cX4_lostWithout 12 = .ok (.ireturn, 1) := by decide +kernel
set_option maxRecDepth 20000 in
theorem ggX4_gainedWith_X4_leastModel : GoodIn wsX4_gainedWith wsX4_leastModel := goodIn_r _ [5, 6, 7, 8, 4, 9, 10, 11, 12, 13, 14, 15, 16, 17, 18, 19, 20, 21, 22, 23, 24, 25, 26, 27, 28, 29] (by decide +kernel) (by decide +kernel)
set_option maxRecDepth 20000 in
theorem gX4_gainedWith_X4_leastModel : GoodIn wsX4_gainedWith (wsV RX4 48 RX4 yX4_leastModel wsX4_leastModel) := goodIn_app (goodIn_of _ (by decide +kernel)) ggX4_gainedWith_X4_leastModel
set_option maxRecDepth 20000 in
theorem ggX4_gainedWith_X5_isSubset : GoodIn wsX4_gainedWith wsX5_isSubset := goodIn_r _ [25] (by decide +kernel) (by decide +kernel)
set_option maxRecDepth 20000 in
theorem gX4_gainedWith_X5_isSubset_n51 : GoodIn wsX4_gainedWith (wsX5_isSubset) := ggX4_gainedWith_X5_isSubset
set_option maxRecDepth 20000 in
theorem ggX4_gainedWith_X4_everyRule : GoodIn wsX4_gainedWith wsX4_everyRule := goodIn_r _ [9, 10, 26, 27, 28, 29] (by decide +kernel) (by decide +kernel)
set_option maxRecDepth 20000 in
theorem gX4_gainedWith_X4_everyRule : GoodIn wsX4_gainedWith (wsV RX4 33 RX4 yX4_everyRule wsX4_everyRule) := goodIn_app (goodIn_of _ (by decide +kernel)) ggX4_gainedWith_X4_everyRule
set_option maxRecDepth 20000 in
theorem ggX4_gainedWith_X4_closure : GoodIn wsX4_gainedWith wsX4_closure := goodIn_r _ [14, 15, 16, 17, 4, 18, 10, 19, 20, 21, 22, 23, 24, 25, 26, 27, 28, 29] (by decide +kernel) (by decide +kernel)
set_option maxRecDepth 20000 in
theorem gX4_gainedWith_X4_closure : GoodIn wsX4_gainedWith (wsV RX4 37 RX4 yX4_closure wsX4_closure) := goodIn_app (goodIn_of _ (by decide +kernel)) ggX4_gainedWith_X4_closure
theorem dX4_gainedWith_0 : decode cX4_gainedWith 0 = .ok (.aload_n 0, 1) := by decide +kernel
theorem dX4_gainedWith_1 : decode cX4_gainedWith 1 = .ok (.invokevirtual 48, 3) := by decide +kernel
theorem dX4_gainedWith_4 : decode cX4_gainedWith 4 = .ok (.istore_n 3, 1) := by decide +kernel
theorem dX4_gainedWith_5 : decode cX4_gainedWith 5 = .ok (.iload_n 2, 1) := by decide +kernel
theorem dX4_gainedWith_6 : decode cX4_gainedWith 6 = .ok (.iload_n 3, 1) := by decide +kernel
theorem dX4_gainedWith_7 : decode cX4_gainedWith 7 = .ok (.invokestatic 51, 3) := by decide +kernel
theorem dX4_gainedWith_10 : decode cX4_gainedWith 10 = .ok (.ifCond .ne 5, 3) := by decide +kernel
theorem dX4_gainedWith_13 : decode cX4_gainedWith 13 = .ok (.iconst 0, 1) := by decide +kernel
theorem dX4_gainedWith_14 : decode cX4_gainedWith 14 = .ok (.ireturn, 1) := by decide +kernel
theorem dX4_gainedWith_15 : decode cX4_gainedWith 15 = .ok (.aload_n 0, 1) := by decide +kernel
theorem dX4_gainedWith_16 : decode cX4_gainedWith 16 = .ok (.aload_n 0, 1) := by decide +kernel
theorem dX4_gainedWith_17 : decode cX4_gainedWith 17 = .ok (.invokevirtual 33, 3) := by decide +kernel
theorem dX4_gainedWith_20 : decode cX4_gainedWith 20 = .ok (.iconst 1, 1) := by decide +kernel
theorem dX4_gainedWith_21 : decode cX4_gainedWith 21 = .ok (.iload_n 1, 1) := by decide +kernel
theorem dX4_gainedWith_22 : decode cX4_gainedWith 22 = .ok (.ishl, 1) := by decide +kernel
theorem dX4_gainedWith_23 : decode cX4_gainedWith 23 = .ok (.invokevirtual 37, 3) := by decide +kernel
theorem dX4_gainedWith_26 : decode cX4_gainedWith 26 = .ok (.iload_n 3, 1) := by decide +kernel
theorem dX4_gainedWith_27 : decode cX4_gainedWith 27 = .ok (.iconst (-1), 1) := by decide +kernel
theorem dX4_gainedWith_28 : decode cX4_gainedWith 28 = .ok (.ixor, 1) := by decide +kernel
theorem dX4_gainedWith_29 : decode cX4_gainedWith 29 = .ok (.iand, 1) := by decide +kernel
theorem dX4_gainedWith_30 : decode cX4_gainedWith 30 = .ok (.ireturn, 1) := by decide +kernel
set_option maxRecDepth 20000 in
theorem ggX4_bestExplanation_J6_bitCount_0f7a4 : GoodIn wsX4_bestExplanation wsJ6_bitCount_0f7a4 := goodIn_r _ [5, 6, 7, 8] (by decide +kernel) (by decide +kernel)
set_option maxRecDepth 20000 in
theorem gX4_bestExplanation_J6_bitCount_0f7a4 : GoodIn wsX4_bestExplanation (va_wsS RX4 64 yJ6_bitCount_0f7a4 wsJ6_bitCount_0f7a4) := goodIn_app (goodIn_of _ (by decide +kernel)) ggX4_bestExplanation_J6_bitCount_0f7a4
set_option maxRecDepth 20000 in
theorem ggX4_bestExplanation_X4_everyRule : GoodIn wsX4_bestExplanation wsX4_everyRule := goodIn_r _ [13, 14, 30, 31, 32, 33] (by decide +kernel) (by decide +kernel)
set_option maxRecDepth 20000 in
theorem gX4_bestExplanation_X4_everyRule : GoodIn wsX4_bestExplanation (wsV RX4 33 RX4 yX4_everyRule wsX4_everyRule) := goodIn_app (goodIn_of _ (by decide +kernel)) ggX4_bestExplanation_X4_everyRule
set_option maxRecDepth 20000 in
theorem ggX4_bestExplanation_X4_closure : GoodIn wsX4_bestExplanation wsX4_closure := goodIn_r _ [18, 19, 20, 21, 12, 22, 14, 23, 24, 25, 26, 27, 28, 29, 30, 31, 32, 33] (by decide +kernel) (by decide +kernel)
set_option maxRecDepth 20000 in
theorem gX4_bestExplanation_X4_closure : GoodIn wsX4_bestExplanation (wsV RX4 37 RX4 yX4_closure wsX4_closure) := goodIn_app (goodIn_of _ (by decide +kernel)) ggX4_bestExplanation_X4_closure
set_option maxRecDepth 20000 in
theorem ggX4_bestExplanation_X5_contains : GoodIn wsX4_bestExplanation wsX5_contains := goodIn_r _ [27] (by decide +kernel) (by decide +kernel)
set_option maxRecDepth 20000 in
theorem gX4_bestExplanation_X5_contains_n44 : GoodIn wsX4_bestExplanation (wsX5_contains) := ggX4_bestExplanation_X5_contains
theorem dX4_bestExplanation_0 : decode cX4_bestExplanation 0 = .ok (.iconst (-1), 1) := by decide +kernel
theorem dX4_bestExplanation_1 : decode cX4_bestExplanation 1 = .ok (.istore_n 2, 1) := by decide +kernel
theorem dX4_bestExplanation_2 : decode cX4_bestExplanation 2 = .ok (.bipush 9, 2) := by decide +kernel
theorem dX4_bestExplanation_4 : decode cX4_bestExplanation 4 = .ok (.istore_n 3, 1) := by decide +kernel
theorem dX4_bestExplanation_5 : decode cX4_bestExplanation 5 = .ok (.iconst 0, 1) := by decide +kernel
theorem dX4_bestExplanation_6 : decode cX4_bestExplanation 6 = .ok (.istore 4, 2) := by decide +kernel
theorem dX4_bestExplanation_8 : decode cX4_bestExplanation 8 = .ok (.iconst 1, 1) := by decide +kernel
theorem dX4_bestExplanation_9 : decode cX4_bestExplanation 9 = .ok (.aload_n 0, 1) := by decide +kernel
theorem dX4_bestExplanation_10 : decode cX4_bestExplanation 10 = .ok (.getfield 26, 3) := by decide +kernel
theorem dX4_bestExplanation_13 : decode cX4_bestExplanation 13 = .ok (.invokestatic 64, 3) := by decide +kernel
theorem dX4_bestExplanation_16 : decode cX4_bestExplanation 16 = .ok (.ishl, 1) := by decide +kernel
theorem dX4_bestExplanation_17 : decode cX4_bestExplanation 17 = .ok (.istore 5, 2) := by decide +kernel
theorem dX4_bestExplanation_19 : decode cX4_bestExplanation 19 = .ok (.iconst 0, 1) := by decide +kernel
theorem dX4_bestExplanation_20 : decode cX4_bestExplanation 20 = .ok (.istore 6, 2) := by decide +kernel
theorem dX4_bestExplanation_22 : decode cX4_bestExplanation 22 = .ok (.iload 6, 2) := by decide +kernel
theorem dX4_bestExplanation_24 : decode cX4_bestExplanation 24 = .ok (.iload 5, 2) := by decide +kernel
theorem dX4_bestExplanation_26 : decode cX4_bestExplanation 26 = .ok (.if_icmp .ge 59, 3) := by decide +kernel
theorem dX4_bestExplanation_29 : decode cX4_bestExplanation 29 = .ok (.iload 4, 2) := by decide +kernel
theorem dX4_bestExplanation_31 : decode cX4_bestExplanation 31 = .ok (.invokestatic 64, 3) := by decide +kernel
theorem dX4_bestExplanation_34 : decode cX4_bestExplanation 34 = .ok (.istore 7, 2) := by decide +kernel
theorem dX4_bestExplanation_36 : decode cX4_bestExplanation 36 = .ok (.iload 7, 2) := by decide +kernel
theorem dX4_bestExplanation_38 : decode cX4_bestExplanation 38 = .ok (.iload_n 3, 1) := by decide +kernel
theorem dX4_bestExplanation_39 : decode cX4_bestExplanation 39 = .ok (.if_icmp .ge 26, 3) := by decide +kernel
theorem dX4_bestExplanation_42 : decode cX4_bestExplanation 42 = .ok (.aload_n 0, 1) := by decide +kernel
theorem dX4_bestExplanation_43 : decode cX4_bestExplanation 43 = .ok (.aload_n 0, 1) := by decide +kernel
theorem dX4_bestExplanation_44 : decode cX4_bestExplanation 44 = .ok (.invokevirtual 33, 3) := by decide +kernel
theorem dX4_bestExplanation_47 : decode cX4_bestExplanation 47 = .ok (.iload 4, 2) := by decide +kernel
theorem dX4_bestExplanation_49 : decode cX4_bestExplanation 49 = .ok (.invokevirtual 37, 3) := by decide +kernel
theorem dX4_bestExplanation_52 : decode cX4_bestExplanation 52 = .ok (.iload_n 1, 1) := by decide +kernel
theorem dX4_bestExplanation_53 : decode cX4_bestExplanation 53 = .ok (.invokestatic 44, 3) := by decide +kernel
theorem dX4_bestExplanation_56 : decode cX4_bestExplanation 56 = .ok (.ifCond .eq 9, 3) := by decide +kernel
theorem dX4_bestExplanation_59 : decode cX4_bestExplanation 59 = .ok (.iload 4, 2) := by decide +kernel
theorem dX4_bestExplanation_61 : decode cX4_bestExplanation 61 = .ok (.istore_n 2, 1) := by decide +kernel
theorem dX4_bestExplanation_62 : decode cX4_bestExplanation 62 = .ok (.iload 7, 2) := by decide +kernel
theorem dX4_bestExplanation_64 : decode cX4_bestExplanation 64 = .ok (.istore_n 3, 1) := by decide +kernel
theorem dX4_bestExplanation_65 : decode cX4_bestExplanation 65 = .ok (.iload 4, 2) := by decide +kernel
theorem dX4_bestExplanation_67 : decode cX4_bestExplanation 67 = .ok (.aload_n 0, 1) := by decide +kernel
theorem dX4_bestExplanation_68 : decode cX4_bestExplanation 68 = .ok (.getfield 26, 3) := by decide +kernel
theorem dX4_bestExplanation_71 : decode cX4_bestExplanation 71 = .ok (.isub, 1) := by decide +kernel
theorem dX4_bestExplanation_72 : decode cX4_bestExplanation 72 = .ok (.aload_n 0, 1) := by decide +kernel
theorem dX4_bestExplanation_73 : decode cX4_bestExplanation 73 = .ok (.getfield 26, 3) := by decide +kernel
theorem dX4_bestExplanation_76 : decode cX4_bestExplanation 76 = .ok (.iand, 1) := by decide +kernel
theorem dX4_bestExplanation_77 : decode cX4_bestExplanation 77 = .ok (.istore 4, 2) := by decide +kernel
theorem dX4_bestExplanation_79 : decode cX4_bestExplanation 79 = .ok (.iinc 6 1, 3) := by decide +kernel
theorem dX4_bestExplanation_82 : decode cX4_bestExplanation 82 = .ok (.goto (-60), 3) := by decide +kernel
theorem dX4_bestExplanation_85 : decode cX4_bestExplanation 85 = .ok (.iload_n 2, 1) := by decide +kernel
theorem dX4_bestExplanation_86 : decode cX4_bestExplanation 86 = .ok (.ireturn, 1) := by decide +kernel
theorem dX4_everyRule_0 : decode cX4_everyRule 0 = .ok (.iconst 1, 1) := by decide +kernel
theorem dX4_everyRule_1 : decode cX4_everyRule 1 = .ok (.aload_n 0, 1) := by decide +kernel
theorem dX4_everyRule_2 : decode cX4_everyRule 2 = .ok (.getfield 18, 3) := by decide +kernel
theorem dX4_everyRule_5 : decode cX4_everyRule 5 = .ok (.ishl, 1) := by decide +kernel
theorem dX4_everyRule_6 : decode cX4_everyRule 6 = .ok (.iconst 1, 1) := by decide +kernel
theorem dX4_everyRule_7 : decode cX4_everyRule 7 = .ok (.isub, 1) := by decide +kernel
theorem dX4_everyRule_8 : decode cX4_everyRule 8 = .ok (.ireturn, 1) := by decide +kernel
set_option maxRecDepth 20000 in
theorem ggX4_modelWithout_X4_everyRule : GoodIn wsX4_modelWithout wsX4_everyRule := goodIn_r _ [5, 6, 22, 23, 24, 25] (by decide +kernel) (by decide +kernel)
set_option maxRecDepth 20000 in
theorem gX4_modelWithout_X4_everyRule : GoodIn wsX4_modelWithout (wsV RX4 33 RX4 yX4_everyRule wsX4_everyRule) := goodIn_app (goodIn_of _ (by decide +kernel)) ggX4_modelWithout_X4_everyRule
set_option maxRecDepth 20000 in
theorem ggX4_modelWithout_X4_closure : GoodIn wsX4_modelWithout wsX4_closure := goodIn_r _ [10, 11, 12, 13, 4, 14, 6, 15, 16, 17, 18, 19, 20, 21, 22, 23, 24, 25] (by decide +kernel) (by decide +kernel)
set_option maxRecDepth 20000 in
theorem gX4_modelWithout_X4_closure : GoodIn wsX4_modelWithout (wsV RX4 37 RX4 yX4_closure wsX4_closure) := goodIn_app (goodIn_of _ (by decide +kernel)) ggX4_modelWithout_X4_closure
theorem dX4_modelWithout_0 : decode cX4_modelWithout 0 = .ok (.aload_n 0, 1) := by decide +kernel
theorem dX4_modelWithout_1 : decode cX4_modelWithout 1 = .ok (.aload_n 0, 1) := by decide +kernel
theorem dX4_modelWithout_2 : decode cX4_modelWithout 2 = .ok (.invokevirtual 33, 3) := by decide +kernel
theorem dX4_modelWithout_5 : decode cX4_modelWithout 5 = .ok (.iconst 1, 1) := by decide +kernel
theorem dX4_modelWithout_6 : decode cX4_modelWithout 6 = .ok (.iload_n 1, 1) := by decide +kernel
theorem dX4_modelWithout_7 : decode cX4_modelWithout 7 = .ok (.ishl, 1) := by decide +kernel
theorem dX4_modelWithout_8 : decode cX4_modelWithout 8 = .ok (.iconst (-1), 1) := by decide +kernel
theorem dX4_modelWithout_9 : decode cX4_modelWithout 9 = .ok (.ixor, 1) := by decide +kernel
theorem dX4_modelWithout_10 : decode cX4_modelWithout 10 = .ok (.iand, 1) := by decide +kernel
theorem dX4_modelWithout_11 : decode cX4_modelWithout 11 = .ok (.iconst 0, 1) := by decide +kernel
theorem dX4_modelWithout_12 : decode cX4_modelWithout 12 = .ok (.invokevirtual 37, 3) := by decide +kernel
theorem dX4_modelWithout_15 : decode cX4_modelWithout 15 = .ok (.ireturn, 1) := by decide +kernel
set_option maxRecDepth 20000 in
theorem ggX4_closure_X4_afterOneRound : GoodIn wsX4_closure wsX4_afterOneRound := goodIn_r _ [5, 6, 7, 8, 9, 10, 11, 12, 13, 14, 15, 16, 17] (by decide +kernel) (by decide +kernel)
set_option maxRecDepth 20000 in
theorem gX4_closure_X4_afterOneRound : GoodIn wsX4_closure (wsV RX4 41 RX4 yX4_afterOneRound wsX4_afterOneRound) := goodIn_app (goodIn_of _ (by decide +kernel)) ggX4_closure_X4_afterOneRound
theorem dX4_closure_0 : decode cX4_closure 0 = .ok (.iload_n 2, 1) := by decide +kernel
theorem dX4_closure_1 : decode cX4_closure 1 = .ok (.istore_n 3, 1) := by decide +kernel
theorem dX4_closure_2 : decode cX4_closure 2 = .ok (.iconst 0, 1) := by decide +kernel
theorem dX4_closure_3 : decode cX4_closure 3 = .ok (.istore 4, 2) := by decide +kernel
theorem dX4_closure_5 : decode cX4_closure 5 = .ok (.iload 4, 2) := by decide +kernel
theorem dX4_closure_7 : decode cX4_closure 7 = .ok (.bipush 16, 2) := by decide +kernel
theorem dX4_closure_9 : decode cX4_closure 9 = .ok (.if_icmp .ge 28, 3) := by decide +kernel
theorem dX4_closure_12 : decode cX4_closure 12 = .ok (.aload_n 0, 1) := by decide +kernel
theorem dX4_closure_13 : decode cX4_closure 13 = .ok (.iload_n 1, 1) := by decide +kernel
theorem dX4_closure_14 : decode cX4_closure 14 = .ok (.iload_n 3, 1) := by decide +kernel
theorem dX4_closure_15 : decode cX4_closure 15 = .ok (.invokevirtual 41, 3) := by decide +kernel
theorem dX4_closure_18 : decode cX4_closure 18 = .ok (.istore 5, 2) := by decide +kernel
theorem dX4_closure_20 : decode cX4_closure 20 = .ok (.iload 5, 2) := by decide +kernel
theorem dX4_closure_22 : decode cX4_closure 22 = .ok (.iload_n 3, 1) := by decide +kernel
theorem dX4_closure_23 : decode cX4_closure 23 = .ok (.if_icmp .ne 5, 3) := by decide +kernel
theorem dX4_closure_26 : decode cX4_closure 26 = .ok (.iload_n 3, 1) := by decide +kernel
theorem dX4_closure_27 : decode cX4_closure 27 = .ok (.ireturn, 1) := by decide +kernel
theorem dX4_closure_28 : decode cX4_closure 28 = .ok (.iload 5, 2) := by decide +kernel
theorem dX4_closure_30 : decode cX4_closure 30 = .ok (.istore_n 3, 1) := by decide +kernel
theorem dX4_closure_31 : decode cX4_closure 31 = .ok (.iinc 4 1, 3) := by decide +kernel
theorem dX4_closure_34 : decode cX4_closure 34 = .ok (.goto (-29), 3) := by decide +kernel
theorem dX4_closure_37 : decode cX4_closure 37 = .ok (.iload_n 3, 1) := by decide +kernel
theorem dX4_closure_38 : decode cX4_closure 38 = .ok (.ireturn, 1) := by decide +kernel
set_option maxRecDepth 20000 in
theorem ggX4_afterOneRound_X5_contains : GoodIn wsX4_afterOneRound wsX5_contains := goodIn_r _ [6] (by decide +kernel) (by decide +kernel)
set_option maxRecDepth 20000 in
theorem gX4_afterOneRound_X5_contains_n44 : GoodIn wsX4_afterOneRound (wsX5_contains) := ggX4_afterOneRound_X5_contains
set_option maxRecDepth 20000 in
theorem ggX4_afterOneRound_X5_isSubset : GoodIn wsX4_afterOneRound wsX5_isSubset := goodIn_r _ [8] (by decide +kernel) (by decide +kernel)
set_option maxRecDepth 20000 in
theorem gX4_afterOneRound_X5_isSubset_n51 : GoodIn wsX4_afterOneRound (wsX5_isSubset) := ggX4_afterOneRound_X5_isSubset
theorem dX4_afterOneRound_0 : decode cX4_afterOneRound 0 = .ok (.iload_n 2, 1) := by decide +kernel
theorem dX4_afterOneRound_1 : decode cX4_afterOneRound 1 = .ok (.istore_n 3, 1) := by decide +kernel
theorem dX4_afterOneRound_2 : decode cX4_afterOneRound 2 = .ok (.iconst 0, 1) := by decide +kernel
theorem dX4_afterOneRound_3 : decode cX4_afterOneRound 3 = .ok (.istore 4, 2) := by decide +kernel
theorem dX4_afterOneRound_5 : decode cX4_afterOneRound 5 = .ok (.iload 4, 2) := by decide +kernel
theorem dX4_afterOneRound_7 : decode cX4_afterOneRound 7 = .ok (.aload_n 0, 1) := by decide +kernel
theorem dX4_afterOneRound_8 : decode cX4_afterOneRound 8 = .ok (.getfield 18, 3) := by decide +kernel
theorem dX4_afterOneRound_11 : decode cX4_afterOneRound 11 = .ok (.if_icmp .ge 44, 3) := by decide +kernel
theorem dX4_afterOneRound_14 : decode cX4_afterOneRound 14 = .ok (.iload_n 1, 1) := by decide +kernel
theorem dX4_afterOneRound_15 : decode cX4_afterOneRound 15 = .ok (.iload 4, 2) := by decide +kernel
theorem dX4_afterOneRound_17 : decode cX4_afterOneRound 17 = .ok (.invokestatic 44, 3) := by decide +kernel
theorem dX4_afterOneRound_20 : decode cX4_afterOneRound 20 = .ok (.ifCond .eq 29, 3) := by decide +kernel
theorem dX4_afterOneRound_23 : decode cX4_afterOneRound 23 = .ok (.aload_n 0, 1) := by decide +kernel
theorem dX4_afterOneRound_24 : decode cX4_afterOneRound 24 = .ok (.getfield 15, 3) := by decide +kernel
theorem dX4_afterOneRound_27 : decode cX4_afterOneRound 27 = .ok (.iload 4, 2) := by decide +kernel
theorem dX4_afterOneRound_29 : decode cX4_afterOneRound 29 = .ok (.iaload, 1) := by decide +kernel
theorem dX4_afterOneRound_30 : decode cX4_afterOneRound 30 = .ok (.iload_n 2, 1) := by decide +kernel
theorem dX4_afterOneRound_31 : decode cX4_afterOneRound 31 = .ok (.invokestatic 51, 3) := by decide +kernel
theorem dX4_afterOneRound_34 : decode cX4_afterOneRound 34 = .ok (.ifCond .eq 15, 3) := by decide +kernel
theorem dX4_afterOneRound_37 : decode cX4_afterOneRound 37 = .ok (.iload_n 3, 1) := by decide +kernel
theorem dX4_afterOneRound_38 : decode cX4_afterOneRound 38 = .ok (.iconst 1, 1) := by decide +kernel
theorem dX4_afterOneRound_39 : decode cX4_afterOneRound 39 = .ok (.aload_n 0, 1) := by decide +kernel
theorem dX4_afterOneRound_40 : decode cX4_afterOneRound 40 = .ok (.getfield 9, 3) := by decide +kernel
theorem dX4_afterOneRound_43 : decode cX4_afterOneRound 43 = .ok (.iload 4, 2) := by decide +kernel
theorem dX4_afterOneRound_45 : decode cX4_afterOneRound 45 = .ok (.iaload, 1) := by decide +kernel
theorem dX4_afterOneRound_46 : decode cX4_afterOneRound 46 = .ok (.ishl, 1) := by decide +kernel
theorem dX4_afterOneRound_47 : decode cX4_afterOneRound 47 = .ok (.ior, 1) := by decide +kernel
theorem dX4_afterOneRound_48 : decode cX4_afterOneRound 48 = .ok (.istore_n 3, 1) := by decide +kernel
theorem dX4_afterOneRound_49 : decode cX4_afterOneRound 49 = .ok (.iinc 4 1, 3) := by decide +kernel
theorem dX4_afterOneRound_52 : decode cX4_afterOneRound 52 = .ok (.goto (-47), 3) := by decide +kernel
theorem dX4_afterOneRound_55 : decode cX4_afterOneRound 55 = .ok (.iload_n 3, 1) := by decide +kernel
theorem dX4_afterOneRound_56 : decode cX4_afterOneRound 56 = .ok (.ireturn, 1) := by decide +kernel
set_option maxRecDepth 20000 in
theorem ggX4_bodiesUnder_X5_contains : GoodIn wsX4_bodiesUnder wsX5_contains := goodIn_r _ [6] (by decide +kernel) (by decide +kernel)
set_option maxRecDepth 20000 in
theorem gX4_bodiesUnder_X5_contains_n44 : GoodIn wsX4_bodiesUnder (wsX5_contains) := ggX4_bodiesUnder_X5_contains
theorem dX4_bodiesUnder_0 : decode cX4_bodiesUnder 0 = .ok (.iconst 0, 1) := by decide +kernel
theorem dX4_bodiesUnder_1 : decode cX4_bodiesUnder 1 = .ok (.istore_n 2, 1) := by decide +kernel
theorem dX4_bodiesUnder_2 : decode cX4_bodiesUnder 2 = .ok (.iconst 0, 1) := by decide +kernel
theorem dX4_bodiesUnder_3 : decode cX4_bodiesUnder 3 = .ok (.istore_n 3, 1) := by decide +kernel
theorem dX4_bodiesUnder_4 : decode cX4_bodiesUnder 4 = .ok (.iload_n 3, 1) := by decide +kernel
theorem dX4_bodiesUnder_5 : decode cX4_bodiesUnder 5 = .ok (.aload_n 0, 1) := by decide +kernel
theorem dX4_bodiesUnder_6 : decode cX4_bodiesUnder 6 = .ok (.getfield 18, 3) := by decide +kernel
theorem dX4_bodiesUnder_9 : decode cX4_bodiesUnder 9 = .ok (.if_icmp .ge 31, 3) := by decide +kernel
theorem dX4_bodiesUnder_12 : decode cX4_bodiesUnder 12 = .ok (.iload_n 1, 1) := by decide +kernel
theorem dX4_bodiesUnder_13 : decode cX4_bodiesUnder 13 = .ok (.aload_n 0, 1) := by decide +kernel
theorem dX4_bodiesUnder_14 : decode cX4_bodiesUnder 14 = .ok (.getfield 9, 3) := by decide +kernel
theorem dX4_bodiesUnder_17 : decode cX4_bodiesUnder 17 = .ok (.iload_n 3, 1) := by decide +kernel
theorem dX4_bodiesUnder_18 : decode cX4_bodiesUnder 18 = .ok (.iaload, 1) := by decide +kernel
theorem dX4_bodiesUnder_19 : decode cX4_bodiesUnder 19 = .ok (.invokestatic 44, 3) := by decide +kernel
theorem dX4_bodiesUnder_22 : decode cX4_bodiesUnder 22 = .ok (.ifCond .eq 12, 3) := by decide +kernel
theorem dX4_bodiesUnder_25 : decode cX4_bodiesUnder 25 = .ok (.iload_n 2, 1) := by decide +kernel
theorem dX4_bodiesUnder_26 : decode cX4_bodiesUnder 26 = .ok (.aload_n 0, 1) := by decide +kernel
theorem dX4_bodiesUnder_27 : decode cX4_bodiesUnder 27 = .ok (.getfield 15, 3) := by decide +kernel
theorem dX4_bodiesUnder_30 : decode cX4_bodiesUnder 30 = .ok (.iload_n 3, 1) := by decide +kernel
theorem dX4_bodiesUnder_31 : decode cX4_bodiesUnder 31 = .ok (.iaload, 1) := by decide +kernel
theorem dX4_bodiesUnder_32 : decode cX4_bodiesUnder 32 = .ok (.ior, 1) := by decide +kernel
theorem dX4_bodiesUnder_33 : decode cX4_bodiesUnder 33 = .ok (.istore_n 2, 1) := by decide +kernel
theorem dX4_bodiesUnder_34 : decode cX4_bodiesUnder 34 = .ok (.iinc 3 1, 3) := by decide +kernel
theorem dX4_bodiesUnder_37 : decode cX4_bodiesUnder 37 = .ok (.goto (-33), 3) := by decide +kernel
theorem dX4_bodiesUnder_40 : decode cX4_bodiesUnder 40 = .ok (.iload_n 2, 1) := by decide +kernel
theorem dX4_bodiesUnder_41 : decode cX4_bodiesUnder 41 = .ok (.ireturn, 1) := by decide +kernel
set_option maxRecDepth 20000 in
theorem ggX5_init_X4_init : GoodIn wsX5_init wsX4_init := goodIn_r _ [27, 28, 2, 3, 24, 29, 30, 55, 56, 57, 58] (by decide +kernel) (by decide +kernel)
set_option maxRecDepth 20000 in
theorem gX5_init_X4_init_n9 : GoodIn wsX5_init (wsX4_init) := ggX5_init_X4_init
set_option maxRecDepth 20000 in
theorem ggX5_init_X1_init : GoodIn wsX5_init wsX1_init := goodIn_r _ [32, 33, 2, 3, 34, 17, 18, 35, 36, 24, 37, 38, 39, 40, 41, 42, 71, 72, 65, 66, 67, 68] (by decide +kernel) (by decide +kernel)
set_option maxRecDepth 20000 in
theorem gX5_init_X1_init_n18 : GoodIn wsX5_init (wsX1_init) := ggX5_init_X1_init
set_option maxRecDepth 20000 in
theorem ggX5_init_X0_init : GoodIn wsX5_init wsX0_init := goodIn_r _ [45, 46, 2, 3, 47, 48, 5, 6, 26, 27, 28, 24, 29, 30, 69, 70, 55, 56, 57, 58] (by decide +kernel) (by decide +kernel)
set_option maxRecDepth 20000 in
theorem gX5_init_X0_init : GoodIn wsX5_init (wsX0_init) := ggX5_init_X0_init
set_option maxRecDepth 20000 in
theorem ggX5_init_X2_init : GoodIn wsX5_init wsX2_init := goodIn_r _ [40, 41, 2, 3, 24, 42, 71, 72] (by decide +kernel) (by decide +kernel)
set_option maxRecDepth 20000 in
theorem gX5_init_X2_init : GoodIn wsX5_init (wsX2_init) := ggX5_init_X2_init
set_option maxRecDepth 20000 in
theorem ggX5_init_X3_init : GoodIn wsX5_init wsX3_init := goodIn_r _ [51, 52, 2, 3, 53, 5, 6, 54, 26, 27, 28, 24, 29, 30, 55, 56, 57, 58, 73, 74, 75] (by decide +kernel) (by decide +kernel)
set_option maxRecDepth 20000 in
theorem gX5_init_X3_init_n41 : GoodIn wsX5_init (wsX3_init) := ggX5_init_X3_init
theorem dX5_init_0 : decode cX5_init 0 = .ok (.aload_n 0, 1) := by decide +kernel
theorem dX5_init_1 : decode cX5_init 1 = .ok (.invokespecial 1, 3) := by decide +kernel
theorem dX5_init_4 : decode cX5_init 4 = .ok (.aload_n 0, 1) := by decide +kernel
theorem dX5_init_5 : decode cX5_init 5 = .ok (.new 7, 3) := by decide +kernel
theorem dX5_init_8 : decode cX5_init 8 = .ok (.dup, 1) := by decide +kernel
theorem dX5_init_9 : decode cX5_init 9 = .ok (.invokespecial 9, 3) := by decide +kernel
theorem dX5_init_12 : decode cX5_init 12 = .ok (.putfield 10, 3) := by decide +kernel
theorem dX5_init_15 : decode cX5_init 15 = .ok (.aload_n 0, 1) := by decide +kernel
theorem dX5_init_16 : decode cX5_init 16 = .ok (.new 16, 3) := by decide +kernel
theorem dX5_init_19 : decode cX5_init 19 = .ok (.dup, 1) := by decide +kernel
theorem dX5_init_20 : decode cX5_init 20 = .ok (.invokespecial 18, 3) := by decide +kernel
theorem dX5_init_23 : decode cX5_init 23 = .ok (.putfield 19, 3) := by decide +kernel
theorem dX5_init_26 : decode cX5_init 26 = .ok (.aload_n 0, 1) := by decide +kernel
theorem dX5_init_27 : decode cX5_init 27 = .ok (.new 23, 3) := by decide +kernel
theorem dX5_init_30 : decode cX5_init 30 = .ok (.dup, 1) := by decide +kernel
theorem dX5_init_31 : decode cX5_init 31 = .ok (.invokespecial 25, 3) := by decide +kernel
theorem dX5_init_34 : decode cX5_init 34 = .ok (.putfield 26, 3) := by decide +kernel
theorem dX5_init_37 : decode cX5_init 37 = .ok (.aload_n 0, 1) := by decide +kernel
theorem dX5_init_38 : decode cX5_init 38 = .ok (.new 30, 3) := by decide +kernel
theorem dX5_init_41 : decode cX5_init 41 = .ok (.dup, 1) := by decide +kernel
theorem dX5_init_42 : decode cX5_init 42 = .ok (.bipush 120, 2) := by decide +kernel
theorem dX5_init_44 : decode cX5_init 44 = .ok (.invokespecial 32, 3) := by decide +kernel
theorem dX5_init_47 : decode cX5_init 47 = .ok (.putfield 35, 3) := by decide +kernel
theorem dX5_init_50 : decode cX5_init 50 = .ok (.aload_n 0, 1) := by decide +kernel
theorem dX5_init_51 : decode cX5_init 51 = .ok (.new 39, 3) := by decide +kernel
theorem dX5_init_54 : decode cX5_init 54 = .ok (.dup, 1) := by decide +kernel
theorem dX5_init_55 : decode cX5_init 55 = .ok (.invokespecial 41, 3) := by decide +kernel
theorem dX5_init_58 : decode cX5_init 58 = .ok (.putfield 42, 3) := by decide +kernel
theorem dX5_init_61 : decode cX5_init 61 = .ok (.aload_n 0, 1) := by decide +kernel
theorem dX5_init_62 : decode cX5_init 62 = .ok (.iconst 4, 1) := by decide +kernel
theorem dX5_init_63 : decode cX5_init 63 = .ok (.newarray .int, 2) := by decide +kernel
theorem dX5_init_65 : decode cX5_init 65 = .ok (.putfield 46, 3) := by decide +kernel
theorem dX5_init_68 : decode cX5_init 68 = .ok (.return_, 1) := by decide +kernel
set_option maxRecDepth 20000 in
theorem ggX5_addRule_X5_isAtom : GoodIn wsX5_addRule wsX5_isAtom := goodIn_r _ [6] (by decide +kernel) (by decide +kernel)
set_option maxRecDepth 20000 in
theorem gX5_addRule_X5_isAtom : GoodIn wsX5_addRule (va_wsS RX5 50 yX5_isAtom wsX5_isAtom) := goodIn_app (goodIn_of _ (by decide +kernel)) ggX5_addRule_X5_isAtom
set_option maxRecDepth 20000 in
theorem ggX5_addRule_X5_isAtomSet : GoodIn wsX5_addRule wsX5_isAtomSet := goodIn_r _ [9, 10, 11, 12, 13, 14, 15, 16, 17] (by decide +kernel) (by decide +kernel)
set_option maxRecDepth 20000 in
theorem gX5_addRule_X5_isAtomSet : GoodIn wsX5_addRule (va_wsS RX5 54 yX5_isAtomSet wsX5_isAtomSet) := goodIn_app (goodIn_of _ (by decide +kernel)) ggX5_addRule_X5_isAtomSet
set_option maxRecDepth 20000 in
theorem ggX5_addRule_X5_fail : GoodIn wsX5_addRule wsX5_fail := goodIn_r _ [21, 22, 23, 24, 5, 25, 59, 60, 61, 62, 63, 64] (by decide +kernel) (by decide +kernel)
set_option maxRecDepth 20000 in
theorem gX5_addRule_X5_fail : GoodIn wsX5_addRule (wsV RX5 58 RX5 yX5_fail wsX5_fail) := goodIn_app (goodIn_of _ (by decide +kernel)) ggX5_addRule_X5_fail
set_option maxRecDepth 20000 in
theorem ggX5_addRule_X4_isFull : GoodIn wsX5_addRule wsX4_isFull := goodIn_r _ [30, 31, 65, 66, 67, 68] (by decide +kernel) (by decide +kernel)
set_option maxRecDepth 20000 in
theorem gX5_addRule_X4_isFull : GoodIn wsX5_addRule (wsV RX5 62 RX4 yX4_isFull wsX4_isFull) := goodIn_app (goodIn_of _ (by decide +kernel)) ggX5_addRule_X4_isFull
set_option maxRecDepth 20000 in
theorem ggX5_addRule_X0_save : GoodIn wsX5_addRule wsX0_save := goodIn_r _ [36, 37, 38, 39, 40, 41, 35, 42, 43, 44, 45, 29, 46, 31, 47, 48, 49, 69, 70, 65, 66, 67, 68] (by decide +kernel) (by decide +kernel)
set_option maxRecDepth 20000 in
theorem gX5_addRule_X0_save : GoodIn wsX5_addRule (wsV RX5 66 RX0 yX0_save wsX0_save) := goodIn_app (goodIn_of _ (by decide +kernel)) ggX5_addRule_X0_save
set_option maxRecDepth 20000 in
theorem ggX5_addRule_X4_addLast : GoodIn wsX5_addRule wsX4_addLast := goodIn_r _ [53, 47, 31, 48, 54, 27, 28, 29, 30, 65, 66, 67, 68] (by decide +kernel) (by decide +kernel)
set_option maxRecDepth 20000 in
theorem gX5_addRule_X4_addLast : GoodIn wsX5_addRule (wsV RX5 70 RX4 yX4_addLast wsX4_addLast) := goodIn_app (goodIn_of _ (by decide +kernel)) ggX5_addRule_X4_addLast
set_option maxRecDepth 20000 in
theorem ggX5_addRule_X4_size : GoodIn wsX5_addRule wsX4_size := goodIn_r _ [58, 31, 65, 66, 67, 68] (by decide +kernel) (by decide +kernel)
set_option maxRecDepth 20000 in
theorem gX5_addRule_X4_size : GoodIn wsX5_addRule (wsV RX5 74 RX4 yX4_size wsX4_size) := goodIn_app (goodIn_of _ (by decide +kernel)) ggX5_addRule_X4_size
theorem dX5_addRule_0 : decode cX5_addRule 0 = .ok (.iload_n 1, 1) := by decide +kernel
theorem dX5_addRule_1 : decode cX5_addRule 1 = .ok (.invokestatic 50, 3) := by decide +kernel
theorem dX5_addRule_4 : decode cX5_addRule 4 = .ok (.ifCond .eq 11, 3) := by decide +kernel
theorem dX5_addRule_7 : decode cX5_addRule 7 = .ok (.iload_n 2, 1) := by decide +kernel
theorem dX5_addRule_8 : decode cX5_addRule 8 = .ok (.iconst 4, 1) := by decide +kernel
theorem dX5_addRule_9 : decode cX5_addRule 9 = .ok (.invokestatic 54, 3) := by decide +kernel
theorem dX5_addRule_12 : decode cX5_addRule 12 = .ok (.ifCond .ne 10, 3) := by decide +kernel
theorem dX5_addRule_15 : decode cX5_addRule 15 = .ok (.aload_n 0, 1) := by decide +kernel
theorem dX5_addRule_16 : decode cX5_addRule 16 = .ok (.bipush (-2), 2) := by decide +kernel
theorem dX5_addRule_18 : decode cX5_addRule 18 = .ok (.invokevirtual 58, 3) := by decide +kernel
theorem dX5_addRule_21 : decode cX5_addRule 21 = .ok (.ireturn, 1) := by decide +kernel
theorem dX5_addRule_22 : decode cX5_addRule 22 = .ok (.aload_n 0, 1) := by decide +kernel
theorem dX5_addRule_23 : decode cX5_addRule 23 = .ok (.getfield 10, 3) := by decide +kernel
theorem dX5_addRule_26 : decode cX5_addRule 26 = .ok (.invokevirtual 62, 3) := by decide +kernel
theorem dX5_addRule_29 : decode cX5_addRule 29 = .ok (.ifCond .eq 10, 3) := by decide +kernel
theorem dX5_addRule_32 : decode cX5_addRule 32 = .ok (.aload_n 0, 1) := by decide +kernel
theorem dX5_addRule_33 : decode cX5_addRule 33 = .ok (.bipush (-4), 2) := by decide +kernel
theorem dX5_addRule_35 : decode cX5_addRule 35 = .ok (.invokevirtual 58, 3) := by decide +kernel
theorem dX5_addRule_38 : decode cX5_addRule 38 = .ok (.ireturn, 1) := by decide +kernel
theorem dX5_addRule_39 : decode cX5_addRule 39 = .ok (.aload_n 0, 1) := by decide +kernel
theorem dX5_addRule_40 : decode cX5_addRule 40 = .ok (.getfield 26, 3) := by decide +kernel
theorem dX5_addRule_43 : decode cX5_addRule 43 = .ok (.aload_n 0, 1) := by decide +kernel
theorem dX5_addRule_44 : decode cX5_addRule 44 = .ok (.getfield 10, 3) := by decide +kernel
theorem dX5_addRule_47 : decode cX5_addRule 47 = .ok (.invokevirtual 66, 3) := by decide +kernel
theorem dX5_addRule_50 : decode cX5_addRule 50 = .ok (.aload_n 0, 1) := by decide +kernel
theorem dX5_addRule_51 : decode cX5_addRule 51 = .ok (.getfield 10, 3) := by decide +kernel
theorem dX5_addRule_54 : decode cX5_addRule 54 = .ok (.iload_n 1, 1) := by decide +kernel
theorem dX5_addRule_55 : decode cX5_addRule 55 = .ok (.iload_n 2, 1) := by decide +kernel
theorem dX5_addRule_56 : decode cX5_addRule 56 = .ok (.invokevirtual 70, 3) := by decide +kernel
theorem dX5_addRule_59 : decode cX5_addRule 59 = .ok (.aload_n 0, 1) := by decide +kernel
theorem dX5_addRule_60 : decode cX5_addRule 60 = .ok (.getfield 10, 3) := by decide +kernel
theorem dX5_addRule_63 : decode cX5_addRule 63 = .ok (.invokevirtual 74, 3) := by decide +kernel
theorem dX5_addRule_66 : decode cX5_addRule 66 = .ok (.iconst 1, 1) := by decide +kernel
theorem dX5_addRule_67 : decode cX5_addRule 67 = .ok (.isub, 1) := by decide +kernel
theorem dX5_addRule_68 : decode cX5_addRule 68 = .ok (.ireturn, 1) := by decide +kernel
set_option maxRecDepth 20000 in
theorem ggX5_removeRule_X4_hasRule : GoodIn wsX5_removeRule wsX4_hasRule := goodIn_r _ [7, 8, 51, 52, 53, 54] (by decide +kernel) (by decide +kernel)
set_option maxRecDepth 20000 in
theorem gX5_removeRule_X4_hasRule : GoodIn wsX5_removeRule (wsV RX5 78 RX4 yX4_hasRule wsX4_hasRule) := goodIn_app (goodIn_of _ (by decide +kernel)) ggX5_removeRule_X4_hasRule
set_option maxRecDepth 20000 in
theorem ggX5_removeRule_X5_fail : GoodIn wsX5_removeRule wsX5_fail := goodIn_r _ [13, 14, 15, 16, 12, 17, 45, 46, 47, 48, 49, 50] (by decide +kernel) (by decide +kernel)
set_option maxRecDepth 20000 in
theorem gX5_removeRule_X5_fail : GoodIn wsX5_removeRule (wsV RX5 58 RX5 yX5_fail wsX5_fail) := goodIn_app (goodIn_of _ (by decide +kernel)) ggX5_removeRule_X5_fail
set_option maxRecDepth 20000 in
theorem ggX5_removeRule_X0_save : GoodIn wsX5_removeRule wsX0_save := goodIn_r _ [22, 23, 24, 25, 26, 27, 21, 28, 29, 30, 31, 6, 32, 8, 33, 34, 35, 55, 56, 51, 52, 53, 54] (by decide +kernel) (by decide +kernel)
set_option maxRecDepth 20000 in
theorem gX5_removeRule_X0_save : GoodIn wsX5_removeRule (wsV RX5 66 RX0 yX0_save wsX0_save) := goodIn_app (goodIn_of _ (by decide +kernel)) ggX5_removeRule_X0_save
set_option maxRecDepth 20000 in
theorem ggX5_removeRule_X4_removeAt : GoodIn wsX5_removeRule wsX4_removeAt := goodIn_r _ [39, 8, 33, 34, 40, 4, 5, 6, 7, 51, 52, 53, 54] (by decide +kernel) (by decide +kernel)
set_option maxRecDepth 20000 in
theorem gX5_removeRule_X4_removeAt : GoodIn wsX5_removeRule (wsV RX5 81 RX4 yX4_removeAt wsX4_removeAt) := goodIn_app (goodIn_of _ (by decide +kernel)) ggX5_removeRule_X4_removeAt
set_option maxRecDepth 20000 in
theorem ggX5_removeRule_X4_size : GoodIn wsX5_removeRule wsX4_size := goodIn_r _ [44, 8, 51, 52, 53, 54] (by decide +kernel) (by decide +kernel)
set_option maxRecDepth 20000 in
theorem gX5_removeRule_X4_size : GoodIn wsX5_removeRule (wsV RX5 74 RX4 yX4_size wsX4_size) := goodIn_app (goodIn_of _ (by decide +kernel)) ggX5_removeRule_X4_size
theorem dX5_removeRule_0 : decode cX5_removeRule 0 = .ok (.aload_n 0, 1) := by decide +kernel
theorem dX5_removeRule_1 : decode cX5_removeRule 1 = .ok (.getfield 10, 3) := by decide +kernel
theorem dX5_removeRule_4 : decode cX5_removeRule 4 = .ok (.iload_n 1, 1) := by decide +kernel
theorem dX5_removeRule_5 : decode cX5_removeRule 5 = .ok (.invokevirtual 78, 3) := by decide +kernel
theorem dX5_removeRule_8 : decode cX5_removeRule 8 = .ok (.ifCond .ne 10, 3) := by decide +kernel
theorem dX5_removeRule_11 : decode cX5_removeRule 11 = .ok (.aload_n 0, 1) := by decide +kernel
theorem dX5_removeRule_12 : decode cX5_removeRule 12 = .ok (.bipush (-2), 2) := by decide +kernel
theorem dX5_removeRule_14 : decode cX5_removeRule 14 = .ok (.invokevirtual 58, 3) := by decide +kernel
theorem dX5_removeRule_17 : decode cX5_removeRule 17 = .ok (.ireturn, 1) := by decide +kernel
theorem dX5_removeRule_18 : decode cX5_removeRule 18 = .ok (.aload_n 0, 1) := by decide +kernel
theorem dX5_removeRule_19 : decode cX5_removeRule 19 = .ok (.getfield 26, 3) := by decide +kernel
theorem dX5_removeRule_22 : decode cX5_removeRule 22 = .ok (.aload_n 0, 1) := by decide +kernel
theorem dX5_removeRule_23 : decode cX5_removeRule 23 = .ok (.getfield 10, 3) := by decide +kernel
theorem dX5_removeRule_26 : decode cX5_removeRule 26 = .ok (.invokevirtual 66, 3) := by decide +kernel
theorem dX5_removeRule_29 : decode cX5_removeRule 29 = .ok (.aload_n 0, 1) := by decide +kernel
theorem dX5_removeRule_30 : decode cX5_removeRule 30 = .ok (.getfield 10, 3) := by decide +kernel
theorem dX5_removeRule_33 : decode cX5_removeRule 33 = .ok (.iload_n 1, 1) := by decide +kernel
theorem dX5_removeRule_34 : decode cX5_removeRule 34 = .ok (.invokevirtual 81, 3) := by decide +kernel
theorem dX5_removeRule_37 : decode cX5_removeRule 37 = .ok (.aload_n 0, 1) := by decide +kernel
theorem dX5_removeRule_38 : decode cX5_removeRule 38 = .ok (.getfield 10, 3) := by decide +kernel
theorem dX5_removeRule_41 : decode cX5_removeRule 41 = .ok (.invokevirtual 74, 3) := by decide +kernel
theorem dX5_removeRule_44 : decode cX5_removeRule 44 = .ok (.ireturn, 1) := by decide +kernel
set_option maxRecDepth 20000 in
theorem ggX5_rules_X4_size : GoodIn wsX5_rules wsX4_size := goodIn_r _ [6, 7, 14, 15, 16, 17] (by decide +kernel) (by decide +kernel)
set_option maxRecDepth 20000 in
theorem gX5_rules_X4_size : GoodIn wsX5_rules (wsV RX5 74 RX4 yX4_size wsX4_size) := goodIn_app (goodIn_of _ (by decide +kernel)) ggX5_rules_X4_size
theorem dX5_rules_0 : decode cX5_rules 0 = .ok (.aload_n 0, 1) := by decide +kernel
theorem dX5_rules_1 : decode cX5_rules 1 = .ok (.getfield 10, 3) := by decide +kernel
theorem dX5_rules_4 : decode cX5_rules 4 = .ok (.invokevirtual 74, 3) := by decide +kernel
theorem dX5_rules_7 : decode cX5_rules 7 = .ok (.ireturn, 1) := by decide +kernel
set_option maxRecDepth 20000 in
theorem ggX5_head_X4_hasRule : GoodIn wsX5_head wsX4_hasRule := goodIn_r _ [6, 7, 29, 30, 31, 32] (by decide +kernel) (by decide +kernel)
set_option maxRecDepth 20000 in
theorem gX5_head_X4_hasRule : GoodIn wsX5_head (wsV RX5 78 RX4 yX4_hasRule wsX4_hasRule) := goodIn_app (goodIn_of _ (by decide +kernel)) ggX5_head_X4_hasRule
set_option maxRecDepth 20000 in
theorem ggX5_head_X4_headOf : GoodIn wsX5_head wsX4_headOf := goodIn_r _ [11, 12, 13, 3, 4, 5, 6, 7, 29, 30, 31, 32] (by decide +kernel) (by decide +kernel)
set_option maxRecDepth 20000 in
theorem gX5_head_X4_headOf : GoodIn wsX5_head (wsV RX5 84 RX4 yX4_headOf wsX4_headOf) := goodIn_app (goodIn_of _ (by decide +kernel)) ggX5_head_X4_headOf
set_option maxRecDepth 20000 in
theorem ggX5_head_X5_fail : GoodIn wsX5_head wsX5_fail := goodIn_r _ [18, 19, 20, 21, 17, 22, 23, 24, 25, 26, 27, 28] (by decide +kernel) (by decide +kernel)
set_option maxRecDepth 20000 in
theorem gX5_head_X5_fail : GoodIn wsX5_head (wsV RX5 58 RX5 yX5_fail wsX5_fail) := goodIn_app (goodIn_of _ (by decide +kernel)) ggX5_head_X5_fail
theorem dX5_head_0 : decode cX5_head 0 = .ok (.aload_n 0, 1) := by decide +kernel
theorem dX5_head_1 : decode cX5_head 1 = .ok (.getfield 10, 3) := by decide +kernel
theorem dX5_head_4 : decode cX5_head 4 = .ok (.iload_n 1, 1) := by decide +kernel
theorem dX5_head_5 : decode cX5_head 5 = .ok (.invokevirtual 78, 3) := by decide +kernel
theorem dX5_head_8 : decode cX5_head 8 = .ok (.ifCond .eq 14, 3) := by decide +kernel
theorem dX5_head_11 : decode cX5_head 11 = .ok (.aload_n 0, 1) := by decide +kernel
theorem dX5_head_12 : decode cX5_head 12 = .ok (.getfield 10, 3) := by decide +kernel
theorem dX5_head_15 : decode cX5_head 15 = .ok (.iload_n 1, 1) := by decide +kernel
theorem dX5_head_16 : decode cX5_head 16 = .ok (.invokevirtual 84, 3) := by decide +kernel
theorem dX5_head_19 : decode cX5_head 19 = .ok (.goto 9, 3) := by decide +kernel
theorem dX5_head_22 : decode cX5_head 22 = .ok (.aload_n 0, 1) := by decide +kernel
theorem dX5_head_23 : decode cX5_head 23 = .ok (.bipush (-2), 2) := by decide +kernel
theorem dX5_head_25 : decode cX5_head 25 = .ok (.invokevirtual 58, 3) := by decide +kernel
theorem dX5_head_28 : decode cX5_head 28 = .ok (.ireturn, 1) := by decide +kernel
set_option maxRecDepth 20000 in
theorem ggX5_body_X4_hasRule : GoodIn wsX5_body wsX4_hasRule := goodIn_r _ [6, 7, 29, 30, 31, 32] (by decide +kernel) (by decide +kernel)
set_option maxRecDepth 20000 in
theorem gX5_body_X4_hasRule : GoodIn wsX5_body (wsV RX5 78 RX4 yX4_hasRule wsX4_hasRule) := goodIn_app (goodIn_of _ (by decide +kernel)) ggX5_body_X4_hasRule
set_option maxRecDepth 20000 in
theorem ggX5_body_X4_bodyOf : GoodIn wsX5_body wsX4_bodyOf := goodIn_r _ [11, 12, 13, 3, 4, 5, 6, 7, 29, 30, 31, 32] (by decide +kernel) (by decide +kernel)
set_option maxRecDepth 20000 in
theorem gX5_body_X4_bodyOf : GoodIn wsX5_body (wsV RX5 87 RX4 yX4_bodyOf wsX4_bodyOf) := goodIn_app (goodIn_of _ (by decide +kernel)) ggX5_body_X4_bodyOf
set_option maxRecDepth 20000 in
theorem ggX5_body_X5_fail : GoodIn wsX5_body wsX5_fail := goodIn_r _ [18, 19, 20, 21, 17, 22, 23, 24, 25, 26, 27, 28] (by decide +kernel) (by decide +kernel)
set_option maxRecDepth 20000 in
theorem gX5_body_X5_fail : GoodIn wsX5_body (wsV RX5 58 RX5 yX5_fail wsX5_fail) := goodIn_app (goodIn_of _ (by decide +kernel)) ggX5_body_X5_fail
theorem dX5_body_0 : decode cX5_body 0 = .ok (.aload_n 0, 1) := by decide +kernel
theorem dX5_body_1 : decode cX5_body 1 = .ok (.getfield 10, 3) := by decide +kernel
theorem dX5_body_4 : decode cX5_body 4 = .ok (.iload_n 1, 1) := by decide +kernel
theorem dX5_body_5 : decode cX5_body 5 = .ok (.invokevirtual 78, 3) := by decide +kernel
theorem dX5_body_8 : decode cX5_body 8 = .ok (.ifCond .eq 14, 3) := by decide +kernel
theorem dX5_body_11 : decode cX5_body 11 = .ok (.aload_n 0, 1) := by decide +kernel
theorem dX5_body_12 : decode cX5_body 12 = .ok (.getfield 10, 3) := by decide +kernel
theorem dX5_body_15 : decode cX5_body 15 = .ok (.iload_n 1, 1) := by decide +kernel
theorem dX5_body_16 : decode cX5_body 16 = .ok (.invokevirtual 87, 3) := by decide +kernel
theorem dX5_body_19 : decode cX5_body 19 = .ok (.goto 9, 3) := by decide +kernel
theorem dX5_body_22 : decode cX5_body 22 = .ok (.aload_n 0, 1) := by decide +kernel
theorem dX5_body_23 : decode cX5_body 23 = .ok (.bipush (-2), 2) := by decide +kernel
theorem dX5_body_25 : decode cX5_body 25 = .ok (.invokevirtual 58, 3) := by decide +kernel
theorem dX5_body_28 : decode cX5_body 28 = .ok (.ireturn, 1) := by decide +kernel
set_option maxRecDepth 20000 in
theorem ggX5_model_X4_leastModel : GoodIn wsX5_model wsX4_leastModel := goodIn_r _ [6, 7, 8, 9, 5, 10, 11, 12, 13, 14, 15, 16, 17, 18, 19, 20, 21, 22, 23, 24, 25, 26, 33, 34, 35, 36] (by decide +kernel) (by decide +kernel)
set_option maxRecDepth 20000 in
theorem gX5_model_X4_leastModel : GoodIn wsX5_model (wsV RX5 90 RX4 yX4_leastModel wsX4_leastModel) := goodIn_app (goodIn_of _ (by decide +kernel)) ggX5_model_X4_leastModel
theorem dX5_model_0 : decode cX5_model 0 = .ok (.aload_n 0, 1) := by decide +kernel
theorem dX5_model_1 : decode cX5_model 1 = .ok (.getfield 10, 3) := by decide +kernel
theorem dX5_model_4 : decode cX5_model 4 = .ok (.invokevirtual 90, 3) := by decide +kernel
theorem dX5_model_7 : decode cX5_model 7 = .ok (.ireturn, 1) := by decide +kernel
set_option maxRecDepth 20000 in
theorem ggX5_derived_X5_fail : GoodIn wsX5_derived wsX5_fail := goodIn_r _ [7, 8, 9, 10, 6, 11, 89, 90, 91, 92, 93, 94] (by decide +kernel) (by decide +kernel)
set_option maxRecDepth 20000 in
theorem gX5_derived_X5_fail : GoodIn wsX5_derived (wsV RX5 58 RX5 yX5_fail wsX5_fail) := goodIn_app (goodIn_of _ (by decide +kernel)) ggX5_derived_X5_fail
set_option maxRecDepth 20000 in
theorem ggX5_derived_X1_run : GoodIn wsX5_derived wsX1_run := goodIn_r _ [16, 17, 18, 19, 20, 21, 22, 23, 24, 25, 26, 27, 28, 15, 29, 30, 31, 32, 33, 34, 35, 36, 37, 38, 39, 40, 41, 42, 43, 44, 45, 46, 47, 48, 49, 50, 51, 52, 53, 54, 55, 56, 57, 58, 59, 60, 61, 62, 63, 64, 65, 66, 67, 68, 69, 70, 71, 6, 72, 73, 74, 75, 76, 77, 78, 79, 80, 81, 82, 83, 84, 95, 96, 97, 98, 99, 100, 101, 102, 103, 104] (by decide +kernel) (by decide +kernel)
set_option maxRecDepth 20000 in
theorem gX5_derived_X1_run : GoodIn wsX5_derived (wsV RX5 93 RX1 yX1_run wsX1_run) := goodIn_app (goodIn_of _ (by decide +kernel)) ggX5_derived_X1_run
set_option maxRecDepth 20000 in
theorem ggX5_derived_X1_atomAt : GoodIn wsX5_derived wsX1_atomAt := goodIn_r _ [88, 17, 77, 78, 79, 23, 80, 25, 66, 95, 96, 97, 98, 99, 100] (by decide +kernel) (by decide +kernel)
set_option maxRecDepth 20000 in
theorem gX5_derived_X1_atomAt : GoodIn wsX5_derived (wsV RX5 96 RX1 yX1_atomAt wsX1_atomAt) := goodIn_app (goodIn_of _ (by decide +kernel)) ggX5_derived_X1_atomAt
theorem dX5_derived_0 : decode cX5_derived 0 = .ok (.iload_n 1, 1) := by decide +kernel
theorem dX5_derived_1 : decode cX5_derived 1 = .ok (.ifCond .ge 10, 3) := by decide +kernel
theorem dX5_derived_4 : decode cX5_derived 4 = .ok (.aload_n 0, 1) := by decide +kernel
theorem dX5_derived_5 : decode cX5_derived 5 = .ok (.bipush (-2), 2) := by decide +kernel
theorem dX5_derived_7 : decode cX5_derived 7 = .ok (.invokevirtual 58, 3) := by decide +kernel
theorem dX5_derived_10 : decode cX5_derived 10 = .ok (.ireturn, 1) := by decide +kernel
theorem dX5_derived_11 : decode cX5_derived 11 = .ok (.aload_n 0, 1) := by decide +kernel
theorem dX5_derived_12 : decode cX5_derived 12 = .ok (.getfield 19, 3) := by decide +kernel
theorem dX5_derived_15 : decode cX5_derived 15 = .ok (.aload_n 0, 1) := by decide +kernel
theorem dX5_derived_16 : decode cX5_derived 16 = .ok (.getfield 10, 3) := by decide +kernel
theorem dX5_derived_19 : decode cX5_derived 19 = .ok (.invokevirtual 93, 3) := by decide +kernel
theorem dX5_derived_22 : decode cX5_derived 22 = .ok (.aload_n 0, 1) := by decide +kernel
theorem dX5_derived_23 : decode cX5_derived 23 = .ok (.getfield 19, 3) := by decide +kernel
theorem dX5_derived_26 : decode cX5_derived 26 = .ok (.iload_n 1, 1) := by decide +kernel
theorem dX5_derived_27 : decode cX5_derived 27 = .ok (.invokevirtual 96, 3) := by decide +kernel
theorem dX5_derived_30 : decode cX5_derived 30 = .ok (.ireturn, 1) := by decide +kernel
set_option maxRecDepth 20000 in
theorem ggX5_fired_X5_fail : GoodIn wsX5_fired wsX5_fail := goodIn_r _ [7, 8, 9, 10, 6, 11, 89, 90, 91, 92, 93, 94] (by decide +kernel) (by decide +kernel)
set_option maxRecDepth 20000 in
theorem gX5_fired_X5_fail : GoodIn wsX5_fired (wsV RX5 58 RX5 yX5_fail wsX5_fail) := goodIn_app (goodIn_of _ (by decide +kernel)) ggX5_fired_X5_fail
set_option maxRecDepth 20000 in
theorem ggX5_fired_X1_run : GoodIn wsX5_fired wsX1_run := goodIn_r _ [16, 17, 18, 19, 20, 21, 22, 23, 24, 25, 26, 27, 28, 15, 29, 30, 31, 32, 33, 34, 35, 36, 37, 38, 39, 40, 41, 42, 43, 44, 45, 46, 47, 48, 49, 50, 51, 52, 53, 54, 55, 56, 57, 58, 59, 60, 61, 62, 63, 64, 65, 66, 67, 68, 69, 70, 71, 6, 72, 73, 74, 75, 76, 77, 78, 79, 80, 81, 82, 83, 84, 95, 96, 97, 98, 99, 100, 101, 102, 103, 104] (by decide +kernel) (by decide +kernel)
set_option maxRecDepth 20000 in
theorem gX5_fired_X1_run : GoodIn wsX5_fired (wsV RX5 93 RX1 yX1_run wsX1_run) := goodIn_app (goodIn_of _ (by decide +kernel)) ggX5_fired_X1_run
set_option maxRecDepth 20000 in
theorem ggX5_fired_X1_ruleAt : GoodIn wsX5_fired wsX1_ruleAt := goodIn_r _ [88, 18, 77, 78, 79, 23, 80, 25, 66, 95, 96, 97, 98, 99, 100] (by decide +kernel) (by decide +kernel)
set_option maxRecDepth 20000 in
theorem gX5_fired_X1_ruleAt : GoodIn wsX5_fired (wsV RX5 99 RX1 yX1_ruleAt wsX1_ruleAt) := goodIn_app (goodIn_of _ (by decide +kernel)) ggX5_fired_X1_ruleAt
theorem dX5_fired_0 : decode cX5_fired 0 = .ok (.iload_n 1, 1) := by decide +kernel
theorem dX5_fired_1 : decode cX5_fired 1 = .ok (.ifCond .ge 10, 3) := by decide +kernel
theorem dX5_fired_4 : decode cX5_fired 4 = .ok (.aload_n 0, 1) := by decide +kernel
theorem dX5_fired_5 : decode cX5_fired 5 = .ok (.bipush (-2), 2) := by decide +kernel
theorem dX5_fired_7 : decode cX5_fired 7 = .ok (.invokevirtual 58, 3) := by decide +kernel
theorem dX5_fired_10 : decode cX5_fired 10 = .ok (.ireturn, 1) := by decide +kernel
theorem dX5_fired_11 : decode cX5_fired 11 = .ok (.aload_n 0, 1) := by decide +kernel
theorem dX5_fired_12 : decode cX5_fired 12 = .ok (.getfield 19, 3) := by decide +kernel
theorem dX5_fired_15 : decode cX5_fired 15 = .ok (.aload_n 0, 1) := by decide +kernel
theorem dX5_fired_16 : decode cX5_fired 16 = .ok (.getfield 10, 3) := by decide +kernel
theorem dX5_fired_19 : decode cX5_fired 19 = .ok (.invokevirtual 93, 3) := by decide +kernel
theorem dX5_fired_22 : decode cX5_fired 22 = .ok (.aload_n 0, 1) := by decide +kernel
theorem dX5_fired_23 : decode cX5_fired 23 = .ok (.getfield 19, 3) := by decide +kernel
theorem dX5_fired_26 : decode cX5_fired 26 = .ok (.iload_n 1, 1) := by decide +kernel
theorem dX5_fired_27 : decode cX5_fired 27 = .ok (.invokevirtual 99, 3) := by decide +kernel
theorem dX5_fired_30 : decode cX5_fired 30 = .ok (.ireturn, 1) := by decide +kernel
set_option maxRecDepth 20000 in
theorem ggX5_level_X5_isAtom : GoodIn wsX5_level wsX5_isAtom := goodIn_r _ [5] (by decide +kernel) (by decide +kernel)
set_option maxRecDepth 20000 in
theorem gX5_level_X5_isAtom : GoodIn wsX5_level (va_wsS RX5 50 yX5_isAtom wsX5_isAtom) := goodIn_app (goodIn_of _ (by decide +kernel)) ggX5_level_X5_isAtom
set_option maxRecDepth 20000 in
theorem ggX5_level_X5_fail : GoodIn wsX5_level wsX5_fail := goodIn_r _ [9, 10, 11, 12, 4, 13, 47, 48, 49, 50, 51, 52] (by decide +kernel) (by decide +kernel)
set_option maxRecDepth 20000 in
theorem gX5_level_X5_fail : GoodIn wsX5_level (wsV RX5 58 RX5 yX5_fail wsX5_fail) := goodIn_app (goodIn_of _ (by decide +kernel)) ggX5_level_X5_fail
set_option maxRecDepth 20000 in
theorem ggX5_level_X5_isDerived : GoodIn wsX5_level wsX5_isDerived := goodIn_r _ [17, 1, 18, 19, 20, 21, 22, 23, 24, 25, 26, 27, 28, 29, 30, 31, 32, 33, 34, 35, 36, 37, 38, 4, 39, 40, 41, 42, 47, 48, 49, 50, 51, 52, 53, 54, 55, 56] (by decide +kernel) (by decide +kernel)
set_option maxRecDepth 20000 in
theorem gX5_level_X5_isDerived : GoodIn wsX5_level (wsV RX5 102 RX5 yX5_isDerived wsX5_isDerived) := goodIn_app (goodIn_of _ (by decide +kernel)) ggX5_level_X5_isDerived
set_option maxRecDepth 20000 in
theorem ggX5_level_X4_levelOf : GoodIn wsX5_level wsX4_levelOf := goodIn_r _ [46, 23, 24, 25, 21, 26, 27, 32, 33, 34, 35, 36, 37, 38, 4, 39, 40, 41, 53, 54, 55, 56] (by decide +kernel) (by decide +kernel)
set_option maxRecDepth 20000 in
theorem gX5_level_X4_levelOf : GoodIn wsX5_level (wsV RX5 105 RX4 yX4_levelOf wsX4_levelOf) := goodIn_app (goodIn_of _ (by decide +kernel)) ggX5_level_X4_levelOf
theorem dX5_level_0 : decode cX5_level 0 = .ok (.iload_n 1, 1) := by decide +kernel
theorem dX5_level_1 : decode cX5_level 1 = .ok (.invokestatic 50, 3) := by decide +kernel
theorem dX5_level_4 : decode cX5_level 4 = .ok (.ifCond .ne 10, 3) := by decide +kernel
theorem dX5_level_7 : decode cX5_level 7 = .ok (.aload_n 0, 1) := by decide +kernel
theorem dX5_level_8 : decode cX5_level 8 = .ok (.bipush (-2), 2) := by decide +kernel
theorem dX5_level_10 : decode cX5_level 10 = .ok (.invokevirtual 58, 3) := by decide +kernel
theorem dX5_level_13 : decode cX5_level 13 = .ok (.ireturn, 1) := by decide +kernel
theorem dX5_level_14 : decode cX5_level 14 = .ok (.aload_n 0, 1) := by decide +kernel
theorem dX5_level_15 : decode cX5_level 15 = .ok (.iload_n 1, 1) := by decide +kernel
theorem dX5_level_16 : decode cX5_level 16 = .ok (.invokevirtual 102, 3) := by decide +kernel
theorem dX5_level_19 : decode cX5_level 19 = .ok (.ifCond .eq 14, 3) := by decide +kernel
theorem dX5_level_22 : decode cX5_level 22 = .ok (.aload_n 0, 1) := by decide +kernel
theorem dX5_level_23 : decode cX5_level 23 = .ok (.getfield 10, 3) := by decide +kernel
theorem dX5_level_26 : decode cX5_level 26 = .ok (.iload_n 1, 1) := by decide +kernel
theorem dX5_level_27 : decode cX5_level 27 = .ok (.invokevirtual 105, 3) := by decide +kernel
theorem dX5_level_30 : decode cX5_level 30 = .ok (.goto 9, 3) := by decide +kernel
theorem dX5_level_33 : decode cX5_level 33 = .ok (.aload_n 0, 1) := by decide +kernel
theorem dX5_level_34 : decode cX5_level 34 = .ok (.bipush (-3), 2) := by decide +kernel
theorem dX5_level_36 : decode cX5_level 36 = .ok (.invokevirtual 58, 3) := by decide +kernel
theorem dX5_level_39 : decode cX5_level 39 = .ok (.ireturn, 1) := by decide +kernel
set_option maxRecDepth 20000 in
theorem ggX5_modelShareBits_X4_leastModel : GoodIn wsX5_modelShareBits wsX4_leastModel := goodIn_r _ [6, 7, 8, 9, 5, 10, 11, 12, 13, 14, 15, 16, 17, 18, 19, 20, 21, 22, 23, 24, 25, 26, 45, 46, 47, 48] (by decide +kernel) (by decide +kernel)
set_option maxRecDepth 20000 in
theorem gX5_modelShareBits_X4_leastModel : GoodIn wsX5_modelShareBits (wsV RX5 90 RX4 yX4_leastModel wsX4_leastModel) := goodIn_app (goodIn_of _ (by decide +kernel)) ggX5_modelShareBits_X4_leastModel
set_option maxRecDepth 20000 in
theorem ggX5_modelShareBits_J6_bitCount_0f7a4 : GoodIn wsX5_modelShareBits wsJ6_bitCount_0f7a4 := goodIn_r _ [30, 31, 32, 33] (by decide +kernel) (by decide +kernel)
set_option maxRecDepth 20000 in
theorem gX5_modelShareBits_J6_bitCount_0f7a4 : GoodIn wsX5_modelShareBits (va_wsS RX5 108 yJ6_bitCount_0f7a4 wsJ6_bitCount_0f7a4) := goodIn_app (goodIn_of _ (by decide +kernel)) ggX5_modelShareBits_J6_bitCount_0f7a4
set_option maxRecDepth 20000 in
theorem ggX5_modelShareBits_X5_bitsOfSixteenths : GoodIn wsX5_modelShareBits wsX5_bitsOfSixteenths := goodIn_r _ [36, 37, 38, 22, 23, 24] (by decide +kernel) (by decide +kernel)
set_option maxRecDepth 20000 in
theorem gX5_modelShareBits_X5_bitsOfSixteenths : GoodIn wsX5_modelShareBits (va_wsS RX5 113 yX5_bitsOfSixteenths wsX5_bitsOfSixteenths) := goodIn_app (goodIn_of _ (by decide +kernel)) ggX5_modelShareBits_X5_bitsOfSixteenths
theorem dX5_modelShareBits_0 : decode cX5_modelShareBits 0 = .ok (.aload_n 0, 1) := by decide +kernel
theorem dX5_modelShareBits_1 : decode cX5_modelShareBits 1 = .ok (.getfield 10, 3) := by decide +kernel
theorem dX5_modelShareBits_4 : decode cX5_modelShareBits 4 = .ok (.invokevirtual 90, 3) := by decide +kernel
theorem dX5_modelShareBits_7 : decode cX5_modelShareBits 7 = .ok (.invokestatic 108, 3) := by decide +kernel
theorem dX5_modelShareBits_10 : decode cX5_modelShareBits 10 = .ok (.invokestatic 113, 3) := by decide +kernel
theorem dX5_modelShareBits_13 : decode cX5_modelShareBits 13 = .ok (.ireturn, 1) := by decide +kernel
set_option maxRecDepth 20000 in
theorem ggX5_supports_X5_isAtom : GoodIn wsX5_supports wsX5_isAtom := goodIn_r _ [5] (by decide +kernel) (by decide +kernel)
set_option maxRecDepth 20000 in
theorem gX5_supports_X5_isAtom : GoodIn wsX5_supports (va_wsS RX5 50 yX5_isAtom wsX5_isAtom) := goodIn_app (goodIn_of _ (by decide +kernel)) ggX5_supports_X5_isAtom
set_option maxRecDepth 20000 in
theorem ggX5_supports_X4_supportsOf : GoodIn wsX5_supports wsX4_supportsOf := goodIn_r _ [10, 11, 12, 13, 14, 15, 16, 9, 17, 18, 19, 20, 21, 22, 23, 24, 25, 26, 27, 28, 29, 30, 4, 31, 32, 33, 48, 49, 50, 51] (by decide +kernel) (by decide +kernel)
set_option maxRecDepth 20000 in
theorem gX5_supports_X4_supportsOf : GoodIn wsX5_supports (wsV RX5 116 RX4 yX4_supportsOf wsX4_supportsOf) := goodIn_app (goodIn_of _ (by decide +kernel)) ggX5_supports_X4_supportsOf
set_option maxRecDepth 20000 in
theorem ggX5_supports_X5_fail : GoodIn wsX5_supports wsX5_fail := goodIn_r _ [37, 38, 39, 40, 4, 41, 42, 43, 44, 45, 46, 47] (by decide +kernel) (by decide +kernel)
set_option maxRecDepth 20000 in
theorem gX5_supports_X5_fail : GoodIn wsX5_supports (wsV RX5 58 RX5 yX5_fail wsX5_fail) := goodIn_app (goodIn_of _ (by decide +kernel)) ggX5_supports_X5_fail
theorem dX5_supports_0 : decode cX5_supports 0 = .ok (.iload_n 1, 1) := by decide +kernel
theorem dX5_supports_1 : decode cX5_supports 1 = .ok (.invokestatic 50, 3) := by decide +kernel
theorem dX5_supports_4 : decode cX5_supports 4 = .ok (.ifCond .eq 14, 3) := by decide +kernel
theorem dX5_supports_7 : decode cX5_supports 7 = .ok (.aload_n 0, 1) := by decide +kernel
theorem dX5_supports_8 : decode cX5_supports 8 = .ok (.getfield 10, 3) := by decide +kernel
theorem dX5_supports_11 : decode cX5_supports 11 = .ok (.iload_n 1, 1) := by decide +kernel
theorem dX5_supports_12 : decode cX5_supports 12 = .ok (.invokevirtual 116, 3) := by decide +kernel
theorem dX5_supports_15 : decode cX5_supports 15 = .ok (.goto 9, 3) := by decide +kernel
theorem dX5_supports_18 : decode cX5_supports 18 = .ok (.aload_n 0, 1) := by decide +kernel
theorem dX5_supports_19 : decode cX5_supports 19 = .ok (.bipush (-2), 2) := by decide +kernel
theorem dX5_supports_21 : decode cX5_supports 21 = .ok (.invokevirtual 58, 3) := by decide +kernel
theorem dX5_supports_24 : decode cX5_supports 24 = .ok (.ireturn, 1) := by decide +kernel
set_option maxRecDepth 20000 in
theorem ggX5_reason_X5_isAtom : GoodIn wsX5_reason wsX5_isAtom := goodIn_r _ [5] (by decide +kernel) (by decide +kernel)
set_option maxRecDepth 20000 in
theorem gX5_reason_X5_isAtom : GoodIn wsX5_reason (va_wsS RX5 50 yX5_isAtom wsX5_isAtom) := goodIn_app (goodIn_of _ (by decide +kernel)) ggX5_reason_X5_isAtom
set_option maxRecDepth 20000 in
theorem ggX5_reason_X5_fail : GoodIn wsX5_reason wsX5_fail := goodIn_r _ [9, 10, 11, 12, 4, 13, 47, 48, 49, 50, 51, 52] (by decide +kernel) (by decide +kernel)
set_option maxRecDepth 20000 in
theorem gX5_reason_X5_fail : GoodIn wsX5_reason (wsV RX5 58 RX5 yX5_fail wsX5_fail) := goodIn_app (goodIn_of _ (by decide +kernel)) ggX5_reason_X5_fail
set_option maxRecDepth 20000 in
theorem ggX5_reason_X5_isDerived : GoodIn wsX5_reason wsX5_isDerived := goodIn_r _ [17, 1, 18, 19, 20, 21, 22, 23, 24, 25, 26, 27, 28, 29, 30, 31, 32, 33, 34, 35, 36, 37, 38, 4, 39, 40, 41, 42, 47, 48, 49, 50, 51, 52, 53, 54, 55, 56] (by decide +kernel) (by decide +kernel)
set_option maxRecDepth 20000 in
theorem gX5_reason_X5_isDerived : GoodIn wsX5_reason (wsV RX5 102 RX5 yX5_isDerived wsX5_isDerived) := goodIn_app (goodIn_of _ (by decide +kernel)) ggX5_reason_X5_isDerived
set_option maxRecDepth 20000 in
theorem ggX5_reason_X4_reasonFor : GoodIn wsX5_reason wsX4_reasonFor := goodIn_r _ [46, 27, 23, 24, 25, 21, 26, 28, 29, 30, 31, 32, 33, 34, 35, 36, 37, 38, 4, 39, 40, 41, 53, 54, 55, 56] (by decide +kernel) (by decide +kernel)
set_option maxRecDepth 20000 in
theorem gX5_reason_X4_reasonFor : GoodIn wsX5_reason (wsV RX5 119 RX4 yX4_reasonFor wsX4_reasonFor) := goodIn_app (goodIn_of _ (by decide +kernel)) ggX5_reason_X4_reasonFor
theorem dX5_reason_0 : decode cX5_reason 0 = .ok (.iload_n 1, 1) := by decide +kernel
theorem dX5_reason_1 : decode cX5_reason 1 = .ok (.invokestatic 50, 3) := by decide +kernel
theorem dX5_reason_4 : decode cX5_reason 4 = .ok (.ifCond .ne 10, 3) := by decide +kernel
theorem dX5_reason_7 : decode cX5_reason 7 = .ok (.aload_n 0, 1) := by decide +kernel
theorem dX5_reason_8 : decode cX5_reason 8 = .ok (.bipush (-2), 2) := by decide +kernel
theorem dX5_reason_10 : decode cX5_reason 10 = .ok (.invokevirtual 58, 3) := by decide +kernel
theorem dX5_reason_13 : decode cX5_reason 13 = .ok (.ireturn, 1) := by decide +kernel
theorem dX5_reason_14 : decode cX5_reason 14 = .ok (.aload_n 0, 1) := by decide +kernel
theorem dX5_reason_15 : decode cX5_reason 15 = .ok (.iload_n 1, 1) := by decide +kernel
theorem dX5_reason_16 : decode cX5_reason 16 = .ok (.invokevirtual 102, 3) := by decide +kernel
theorem dX5_reason_19 : decode cX5_reason 19 = .ok (.ifCond .eq 14, 3) := by decide +kernel
theorem dX5_reason_22 : decode cX5_reason 22 = .ok (.aload_n 0, 1) := by decide +kernel
theorem dX5_reason_23 : decode cX5_reason 23 = .ok (.getfield 10, 3) := by decide +kernel
theorem dX5_reason_26 : decode cX5_reason 26 = .ok (.iload_n 1, 1) := by decide +kernel
theorem dX5_reason_27 : decode cX5_reason 27 = .ok (.invokevirtual 119, 3) := by decide +kernel
theorem dX5_reason_30 : decode cX5_reason 30 = .ok (.goto 9, 3) := by decide +kernel
theorem dX5_reason_33 : decode cX5_reason 33 = .ok (.aload_n 0, 1) := by decide +kernel
theorem dX5_reason_34 : decode cX5_reason 34 = .ok (.bipush (-3), 2) := by decide +kernel
theorem dX5_reason_36 : decode cX5_reason 36 = .ok (.invokevirtual 58, 3) := by decide +kernel
theorem dX5_reason_39 : decode cX5_reason 39 = .ok (.ireturn, 1) := by decide +kernel
set_option maxRecDepth 20000 in
theorem ggX5_necessary_X5_isAtom : GoodIn wsX5_necessary wsX5_isAtom := goodIn_r _ [5] (by decide +kernel) (by decide +kernel)
set_option maxRecDepth 20000 in
theorem gX5_necessary_X5_isAtom : GoodIn wsX5_necessary (va_wsS RX5 50 yX5_isAtom wsX5_isAtom) := goodIn_app (goodIn_of _ (by decide +kernel)) ggX5_necessary_X5_isAtom
set_option maxRecDepth 20000 in
theorem ggX5_necessary_X5_fail : GoodIn wsX5_necessary wsX5_fail := goodIn_r _ [9, 10, 11, 12, 4, 13, 51, 52, 53, 54, 55, 56] (by decide +kernel) (by decide +kernel)
set_option maxRecDepth 20000 in
theorem gX5_necessary_X5_fail : GoodIn wsX5_necessary (wsV RX5 58 RX5 yX5_fail wsX5_fail) := goodIn_app (goodIn_of _ (by decide +kernel)) ggX5_necessary_X5_fail
set_option maxRecDepth 20000 in
theorem ggX5_necessary_X5_isDerived : GoodIn wsX5_necessary wsX5_isDerived := goodIn_r _ [17, 1, 18, 19, 20, 21, 22, 23, 24, 25, 26, 27, 28, 29, 30, 31, 32, 33, 34, 35, 36, 37, 38, 4, 39, 40, 41, 42, 51, 52, 53, 54, 55, 56, 57, 58, 59, 60] (by decide +kernel) (by decide +kernel)
set_option maxRecDepth 20000 in
theorem gX5_necessary_X5_isDerived : GoodIn wsX5_necessary (wsV RX5 102 RX5 yX5_isDerived wsX5_isDerived) := goodIn_app (goodIn_of _ (by decide +kernel)) ggX5_necessary_X5_isDerived
set_option maxRecDepth 20000 in
theorem ggX5_necessary_X4_necessaryFor : GoodIn wsX5_necessary wsX4_necessaryFor := goodIn_r _ [46, 27, 47, 48, 49, 21, 50, 23, 24, 25, 26, 28, 29, 30, 31, 32, 33, 34, 35, 36, 37, 38, 4, 39, 40, 41, 57, 58, 59, 60] (by decide +kernel) (by decide +kernel)
set_option maxRecDepth 20000 in
theorem gX5_necessary_X4_necessaryFor : GoodIn wsX5_necessary (wsV RX5 122 RX4 yX4_necessaryFor wsX4_necessaryFor) := goodIn_app (goodIn_of _ (by decide +kernel)) ggX5_necessary_X4_necessaryFor
theorem dX5_necessary_0 : decode cX5_necessary 0 = .ok (.iload_n 1, 1) := by decide +kernel
theorem dX5_necessary_1 : decode cX5_necessary 1 = .ok (.invokestatic 50, 3) := by decide +kernel
theorem dX5_necessary_4 : decode cX5_necessary 4 = .ok (.ifCond .ne 10, 3) := by decide +kernel
theorem dX5_necessary_7 : decode cX5_necessary 7 = .ok (.aload_n 0, 1) := by decide +kernel
theorem dX5_necessary_8 : decode cX5_necessary 8 = .ok (.bipush (-2), 2) := by decide +kernel
theorem dX5_necessary_10 : decode cX5_necessary 10 = .ok (.invokevirtual 58, 3) := by decide +kernel
theorem dX5_necessary_13 : decode cX5_necessary 13 = .ok (.ireturn, 1) := by decide +kernel
theorem dX5_necessary_14 : decode cX5_necessary 14 = .ok (.aload_n 0, 1) := by decide +kernel
theorem dX5_necessary_15 : decode cX5_necessary 15 = .ok (.iload_n 1, 1) := by decide +kernel
theorem dX5_necessary_16 : decode cX5_necessary 16 = .ok (.invokevirtual 102, 3) := by decide +kernel
theorem dX5_necessary_19 : decode cX5_necessary 19 = .ok (.ifCond .eq 14, 3) := by decide +kernel
theorem dX5_necessary_22 : decode cX5_necessary 22 = .ok (.aload_n 0, 1) := by decide +kernel
theorem dX5_necessary_23 : decode cX5_necessary 23 = .ok (.getfield 10, 3) := by decide +kernel
theorem dX5_necessary_26 : decode cX5_necessary 26 = .ok (.iload_n 1, 1) := by decide +kernel
theorem dX5_necessary_27 : decode cX5_necessary 27 = .ok (.invokevirtual 122, 3) := by decide +kernel
theorem dX5_necessary_30 : decode cX5_necessary 30 = .ok (.goto 9, 3) := by decide +kernel
theorem dX5_necessary_33 : decode cX5_necessary 33 = .ok (.aload_n 0, 1) := by decide +kernel
theorem dX5_necessary_34 : decode cX5_necessary 34 = .ok (.bipush (-3), 2) := by decide +kernel
theorem dX5_necessary_36 : decode cX5_necessary 36 = .ok (.invokevirtual 58, 3) := by decide +kernel
theorem dX5_necessary_39 : decode cX5_necessary 39 = .ok (.ireturn, 1) := by decide +kernel
set_option maxRecDepth 20000 in
theorem ggX5_dependencies_X5_isAtom : GoodIn wsX5_dependencies wsX5_isAtom := goodIn_r _ [5] (by decide +kernel) (by decide +kernel)
set_option maxRecDepth 20000 in
theorem gX5_dependencies_X5_isAtom : GoodIn wsX5_dependencies (va_wsS RX5 50 yX5_isAtom wsX5_isAtom) := goodIn_app (goodIn_of _ (by decide +kernel)) ggX5_dependencies_X5_isAtom
set_option maxRecDepth 20000 in
theorem ggX5_dependencies_X4_dependenciesOf : GoodIn wsX5_dependencies wsX4_dependenciesOf := goodIn_r _ [10, 11, 12, 13, 9, 14, 15, 16, 17, 18, 4, 19, 34, 35, 36, 37] (by decide +kernel) (by decide +kernel)
set_option maxRecDepth 20000 in
theorem gX5_dependencies_X4_dependenciesOf : GoodIn wsX5_dependencies (wsV RX5 125 RX4 yX4_dependenciesOf wsX4_dependenciesOf) := goodIn_app (goodIn_of _ (by decide +kernel)) ggX5_dependencies_X4_dependenciesOf
set_option maxRecDepth 20000 in
theorem ggX5_dependencies_X5_fail : GoodIn wsX5_dependencies wsX5_fail := goodIn_r _ [23, 24, 25, 26, 4, 27, 28, 29, 30, 31, 32, 33] (by decide +kernel) (by decide +kernel)
set_option maxRecDepth 20000 in
theorem gX5_dependencies_X5_fail : GoodIn wsX5_dependencies (wsV RX5 58 RX5 yX5_fail wsX5_fail) := goodIn_app (goodIn_of _ (by decide +kernel)) ggX5_dependencies_X5_fail
theorem dX5_dependencies_0 : decode cX5_dependencies 0 = .ok (.iload_n 1, 1) := by decide +kernel
theorem dX5_dependencies_1 : decode cX5_dependencies 1 = .ok (.invokestatic 50, 3) := by decide +kernel
theorem dX5_dependencies_4 : decode cX5_dependencies 4 = .ok (.ifCond .eq 14, 3) := by decide +kernel
theorem dX5_dependencies_7 : decode cX5_dependencies 7 = .ok (.aload_n 0, 1) := by decide +kernel
theorem dX5_dependencies_8 : decode cX5_dependencies 8 = .ok (.getfield 10, 3) := by decide +kernel
theorem dX5_dependencies_11 : decode cX5_dependencies 11 = .ok (.iload_n 1, 1) := by decide +kernel
theorem dX5_dependencies_12 : decode cX5_dependencies 12 = .ok (.invokevirtual 125, 3) := by decide +kernel
theorem dX5_dependencies_15 : decode cX5_dependencies 15 = .ok (.goto 9, 3) := by decide +kernel
theorem dX5_dependencies_18 : decode cX5_dependencies 18 = .ok (.aload_n 0, 1) := by decide +kernel
theorem dX5_dependencies_19 : decode cX5_dependencies 19 = .ok (.bipush (-2), 2) := by decide +kernel
theorem dX5_dependencies_21 : decode cX5_dependencies 21 = .ok (.invokevirtual 58, 3) := by decide +kernel
theorem dX5_dependencies_24 : decode cX5_dependencies 24 = .ok (.ireturn, 1) := by decide +kernel
set_option maxRecDepth 20000 in
theorem ggX5_cyclicAtoms_X4_atomsOnCycles : GoodIn wsX5_cyclicAtoms wsX4_atomsOnCycles := goodIn_r _ [6, 7, 8, 9, 5, 10, 11, 12, 13, 14, 15, 16, 17, 18, 19, 20, 27, 28, 29, 30] (by decide +kernel) (by decide +kernel)
set_option maxRecDepth 20000 in
theorem gX5_cyclicAtoms_X4_atomsOnCycles : GoodIn wsX5_cyclicAtoms (wsV RX5 128 RX4 yX4_atomsOnCycles wsX4_atomsOnCycles) := goodIn_app (goodIn_of _ (by decide +kernel)) ggX5_cyclicAtoms_X4_atomsOnCycles
theorem dX5_cyclicAtoms_0 : decode cX5_cyclicAtoms 0 = .ok (.aload_n 0, 1) := by decide +kernel
theorem dX5_cyclicAtoms_1 : decode cX5_cyclicAtoms 1 = .ok (.getfield 10, 3) := by decide +kernel
theorem dX5_cyclicAtoms_4 : decode cX5_cyclicAtoms 4 = .ok (.invokevirtual 128, 3) := by decide +kernel
theorem dX5_cyclicAtoms_7 : decode cX5_cyclicAtoms 7 = .ok (.ireturn, 1) := by decide +kernel
set_option maxRecDepth 20000 in
theorem ggX5_overDeleted_X4_hasRule : GoodIn wsX5_overDeleted wsX4_hasRule := goodIn_r _ [6, 7, 50, 51, 52, 53] (by decide +kernel) (by decide +kernel)
set_option maxRecDepth 20000 in
theorem gX5_overDeleted_X4_hasRule : GoodIn wsX5_overDeleted (wsV RX5 78 RX4 yX4_hasRule wsX4_hasRule) := goodIn_app (goodIn_of _ (by decide +kernel)) ggX5_overDeleted_X4_hasRule
set_option maxRecDepth 20000 in
theorem ggX5_overDeleted_X4_overDeletedBy : GoodIn wsX5_overDeleted wsX4_overDeletedBy := goodIn_r _ [11, 12, 13, 7, 14, 15, 16, 5, 17, 18, 19, 20, 21, 22, 23, 24, 25, 26, 27, 28, 29, 30, 31, 32, 33, 34, 35, 3, 4, 6, 50, 51, 52, 53] (by decide +kernel) (by decide +kernel)
set_option maxRecDepth 20000 in
theorem gX5_overDeleted_X4_overDeletedBy : GoodIn wsX5_overDeleted (wsV RX5 131 RX4 yX4_overDeletedBy wsX4_overDeletedBy) := goodIn_app (goodIn_of _ (by decide +kernel)) ggX5_overDeleted_X4_overDeletedBy
set_option maxRecDepth 20000 in
theorem ggX5_overDeleted_X5_fail : GoodIn wsX5_overDeleted wsX5_fail := goodIn_r _ [39, 40, 41, 42, 31, 43, 44, 45, 46, 47, 48, 49] (by decide +kernel) (by decide +kernel)
set_option maxRecDepth 20000 in
theorem gX5_overDeleted_X5_fail : GoodIn wsX5_overDeleted (wsV RX5 58 RX5 yX5_fail wsX5_fail) := goodIn_app (goodIn_of _ (by decide +kernel)) ggX5_overDeleted_X5_fail
theorem dX5_overDeleted_0 : decode cX5_overDeleted 0 = .ok (.aload_n 0, 1) := by decide +kernel
theorem dX5_overDeleted_1 : decode cX5_overDeleted 1 = .ok (.getfield 10, 3) := by decide +kernel
theorem dX5_overDeleted_4 : decode cX5_overDeleted 4 = .ok (.iload_n 1, 1) := by decide +kernel
theorem dX5_overDeleted_5 : decode cX5_overDeleted 5 = .ok (.invokevirtual 78, 3) := by decide +kernel
theorem dX5_overDeleted_8 : decode cX5_overDeleted 8 = .ok (.ifCond .eq 14, 3) := by decide +kernel
theorem dX5_overDeleted_11 : decode cX5_overDeleted 11 = .ok (.aload_n 0, 1) := by decide +kernel
theorem dX5_overDeleted_12 : decode cX5_overDeleted 12 = .ok (.getfield 10, 3) := by decide +kernel
theorem dX5_overDeleted_15 : decode cX5_overDeleted 15 = .ok (.iload_n 1, 1) := by decide +kernel
theorem dX5_overDeleted_16 : decode cX5_overDeleted 16 = .ok (.invokevirtual 131, 3) := by decide +kernel
theorem dX5_overDeleted_19 : decode cX5_overDeleted 19 = .ok (.goto 9, 3) := by decide +kernel
theorem dX5_overDeleted_22 : decode cX5_overDeleted 22 = .ok (.aload_n 0, 1) := by decide +kernel
theorem dX5_overDeleted_23 : decode cX5_overDeleted 23 = .ok (.bipush (-2), 2) := by decide +kernel
theorem dX5_overDeleted_25 : decode cX5_overDeleted 25 = .ok (.invokevirtual 58, 3) := by decide +kernel
theorem dX5_overDeleted_28 : decode cX5_overDeleted 28 = .ok (.ireturn, 1) := by decide +kernel
set_option maxRecDepth 20000 in
theorem ggX5_lost_X4_hasRule : GoodIn wsX5_lost wsX4_hasRule := goodIn_r _ [6, 7, 53, 54, 55, 56] (by decide +kernel) (by decide +kernel)
set_option maxRecDepth 20000 in
theorem gX5_lost_X4_hasRule : GoodIn wsX5_lost (wsV RX5 78 RX4 yX4_hasRule wsX4_hasRule) := goodIn_app (goodIn_of _ (by decide +kernel)) ggX5_lost_X4_hasRule
set_option maxRecDepth 20000 in
theorem ggX5_lost_X4_lostWithout : GoodIn wsX5_lost wsX4_lostWithout := goodIn_r _ [11, 12, 13, 14, 5, 15, 16, 17, 18, 19, 7, 20, 21, 22, 23, 24, 25, 26, 27, 28, 29, 30, 31, 32, 33, 34, 35, 36, 37, 38, 53, 54, 55, 56] (by decide +kernel) (by decide +kernel)
set_option maxRecDepth 20000 in
theorem gX5_lost_X4_lostWithout : GoodIn wsX5_lost (wsV RX5 134 RX4 yX4_lostWithout wsX4_lostWithout) := goodIn_app (goodIn_of _ (by decide +kernel)) ggX5_lost_X4_lostWithout
set_option maxRecDepth 20000 in
theorem ggX5_lost_X5_fail : GoodIn wsX5_lost wsX5_fail := goodIn_r _ [42, 43, 44, 45, 31, 46, 47, 48, 49, 50, 51, 52] (by decide +kernel) (by decide +kernel)
set_option maxRecDepth 20000 in
theorem gX5_lost_X5_fail : GoodIn wsX5_lost (wsV RX5 58 RX5 yX5_fail wsX5_fail) := goodIn_app (goodIn_of _ (by decide +kernel)) ggX5_lost_X5_fail
theorem dX5_lost_0 : decode cX5_lost 0 = .ok (.aload_n 0, 1) := by decide +kernel
theorem dX5_lost_1 : decode cX5_lost 1 = .ok (.getfield 10, 3) := by decide +kernel
theorem dX5_lost_4 : decode cX5_lost 4 = .ok (.iload_n 1, 1) := by decide +kernel
theorem dX5_lost_5 : decode cX5_lost 5 = .ok (.invokevirtual 78, 3) := by decide +kernel
theorem dX5_lost_8 : decode cX5_lost 8 = .ok (.ifCond .eq 14, 3) := by decide +kernel
theorem dX5_lost_11 : decode cX5_lost 11 = .ok (.aload_n 0, 1) := by decide +kernel
theorem dX5_lost_12 : decode cX5_lost 12 = .ok (.getfield 10, 3) := by decide +kernel
theorem dX5_lost_15 : decode cX5_lost 15 = .ok (.iload_n 1, 1) := by decide +kernel
theorem dX5_lost_16 : decode cX5_lost 16 = .ok (.invokevirtual 134, 3) := by decide +kernel
theorem dX5_lost_19 : decode cX5_lost 19 = .ok (.goto 9, 3) := by decide +kernel
theorem dX5_lost_22 : decode cX5_lost 22 = .ok (.aload_n 0, 1) := by decide +kernel
theorem dX5_lost_23 : decode cX5_lost 23 = .ok (.bipush (-2), 2) := by decide +kernel
theorem dX5_lost_25 : decode cX5_lost 25 = .ok (.invokevirtual 58, 3) := by decide +kernel
theorem dX5_lost_28 : decode cX5_lost 28 = .ok (.ireturn, 1) := by decide +kernel
set_option maxRecDepth 20000 in
theorem ggX5_gained_X5_isAtom : GoodIn wsX5_gained wsX5_isAtom := goodIn_r _ [5] (by decide +kernel) (by decide +kernel)
set_option maxRecDepth 20000 in
theorem gX5_gained_X5_isAtom : GoodIn wsX5_gained (va_wsS RX5 50 yX5_isAtom wsX5_isAtom) := goodIn_app (goodIn_of _ (by decide +kernel)) ggX5_gained_X5_isAtom
set_option maxRecDepth 20000 in
theorem ggX5_gained_X5_isAtomSet : GoodIn wsX5_gained wsX5_isAtomSet := goodIn_r _ [8, 9, 10, 11, 12, 13, 14, 15, 16] (by decide +kernel) (by decide +kernel)
set_option maxRecDepth 20000 in
theorem gX5_gained_X5_isAtomSet : GoodIn wsX5_gained (va_wsS RX5 54 yX5_isAtomSet wsX5_isAtomSet) := goodIn_app (goodIn_of _ (by decide +kernel)) ggX5_gained_X5_isAtomSet
set_option maxRecDepth 20000 in
theorem ggX5_gained_X5_fail : GoodIn wsX5_gained wsX5_fail := goodIn_r _ [20, 21, 22, 23, 4, 24, 53, 54, 55, 56, 57, 58] (by decide +kernel) (by decide +kernel)
set_option maxRecDepth 20000 in
theorem gX5_gained_X5_fail : GoodIn wsX5_gained (wsV RX5 58 RX5 yX5_fail wsX5_fail) := goodIn_app (goodIn_of _ (by decide +kernel)) ggX5_gained_X5_fail
set_option maxRecDepth 20000 in
theorem ggX5_gained_X4_gainedWith : GoodIn wsX5_gained wsX4_gainedWith := goodIn_r _ [29, 30, 31, 32, 28, 33, 34, 35, 36, 37, 38, 39, 40, 41, 42, 43, 44, 45, 46, 47, 48, 49, 4, 50, 51, 52, 59, 60, 61, 62] (by decide +kernel) (by decide +kernel)
set_option maxRecDepth 20000 in
theorem gX5_gained_X4_gainedWith : GoodIn wsX5_gained (wsV RX5 137 RX4 yX4_gainedWith wsX4_gainedWith) := goodIn_app (goodIn_of _ (by decide +kernel)) ggX5_gained_X4_gainedWith
theorem dX5_gained_0 : decode cX5_gained 0 = .ok (.iload_n 1, 1) := by decide +kernel
theorem dX5_gained_1 : decode cX5_gained 1 = .ok (.invokestatic 50, 3) := by decide +kernel
theorem dX5_gained_4 : decode cX5_gained 4 = .ok (.ifCond .eq 11, 3) := by decide +kernel
theorem dX5_gained_7 : decode cX5_gained 7 = .ok (.iload_n 2, 1) := by decide +kernel
theorem dX5_gained_8 : decode cX5_gained 8 = .ok (.iconst 4, 1) := by decide +kernel
theorem dX5_gained_9 : decode cX5_gained 9 = .ok (.invokestatic 54, 3) := by decide +kernel
theorem dX5_gained_12 : decode cX5_gained 12 = .ok (.ifCond .ne 10, 3) := by decide +kernel
theorem dX5_gained_15 : decode cX5_gained 15 = .ok (.aload_n 0, 1) := by decide +kernel
theorem dX5_gained_16 : decode cX5_gained 16 = .ok (.bipush (-2), 2) := by decide +kernel
theorem dX5_gained_18 : decode cX5_gained 18 = .ok (.invokevirtual 58, 3) := by decide +kernel
theorem dX5_gained_21 : decode cX5_gained 21 = .ok (.ireturn, 1) := by decide +kernel
theorem dX5_gained_22 : decode cX5_gained 22 = .ok (.aload_n 0, 1) := by decide +kernel
theorem dX5_gained_23 : decode cX5_gained 23 = .ok (.getfield 10, 3) := by decide +kernel
theorem dX5_gained_26 : decode cX5_gained 26 = .ok (.iload_n 1, 1) := by decide +kernel
theorem dX5_gained_27 : decode cX5_gained 27 = .ok (.iload_n 2, 1) := by decide +kernel
theorem dX5_gained_28 : decode cX5_gained 28 = .ok (.invokevirtual 137, 3) := by decide +kernel
theorem dX5_gained_31 : decode cX5_gained 31 = .ok (.ireturn, 1) := by decide +kernel
set_option maxRecDepth 20000 in
theorem ggX5_setAssumable_X5_isAtomSet : GoodIn wsX5_setAssumable wsX5_isAtomSet := goodIn_r _ [6, 7, 8, 9, 10, 11, 12, 13, 14] (by decide +kernel) (by decide +kernel)
set_option maxRecDepth 20000 in
theorem gX5_setAssumable_X5_isAtomSet : GoodIn wsX5_setAssumable (va_wsS RX5 54 yX5_isAtomSet wsX5_isAtomSet) := goodIn_app (goodIn_of _ (by decide +kernel)) ggX5_setAssumable_X5_isAtomSet
set_option maxRecDepth 20000 in
theorem ggX5_setAssumable_X5_fail : GoodIn wsX5_setAssumable wsX5_fail := goodIn_r _ [18, 19, 20, 21, 5, 22, 47, 48, 49, 50, 51, 52] (by decide +kernel) (by decide +kernel)
set_option maxRecDepth 20000 in
theorem gX5_setAssumable_X5_fail : GoodIn wsX5_setAssumable (wsV RX5 58 RX5 yX5_fail wsX5_fail) := goodIn_app (goodIn_of _ (by decide +kernel)) ggX5_setAssumable_X5_fail
set_option maxRecDepth 20000 in
theorem ggX5_setAssumable_X0_save : GoodIn wsX5_setAssumable wsX0_save := goodIn_r _ [27, 28, 29, 30, 31, 32, 26, 33, 34, 35, 36, 37, 38, 39, 40, 41, 42, 53, 54, 55, 56, 57, 58] (by decide +kernel) (by decide +kernel)
set_option maxRecDepth 20000 in
theorem gX5_setAssumable_X0_save : GoodIn wsX5_setAssumable (wsV RX5 66 RX0 yX0_save wsX0_save) := goodIn_app (goodIn_of _ (by decide +kernel)) ggX5_setAssumable_X0_save
set_option maxRecDepth 20000 in
theorem ggX5_setAssumable_X4_replaceAssumable : GoodIn wsX5_setAssumable wsX4_replaceAssumable := goodIn_r _ [46, 42, 55, 56, 57, 58] (by decide +kernel) (by decide +kernel)
set_option maxRecDepth 20000 in
theorem gX5_setAssumable_X4_replaceAssumable : GoodIn wsX5_setAssumable (wsV RX5 141 RX4 yX4_replaceAssumable wsX4_replaceAssumable) := goodIn_app (goodIn_of _ (by decide +kernel)) ggX5_setAssumable_X4_replaceAssumable
theorem dX5_setAssumable_0 : decode cX5_setAssumable 0 = .ok (.iload_n 1, 1) := by decide +kernel
theorem dX5_setAssumable_1 : decode cX5_setAssumable 1 = .ok (.bipush 8, 2) := by decide +kernel
theorem dX5_setAssumable_3 : decode cX5_setAssumable 3 = .ok (.invokestatic 54, 3) := by decide +kernel
theorem dX5_setAssumable_6 : decode cX5_setAssumable 6 = .ok (.ifCond .ne 10, 3) := by decide +kernel
theorem dX5_setAssumable_9 : decode cX5_setAssumable 9 = .ok (.aload_n 0, 1) := by decide +kernel
theorem dX5_setAssumable_10 : decode cX5_setAssumable 10 = .ok (.bipush (-2), 2) := by decide +kernel
theorem dX5_setAssumable_12 : decode cX5_setAssumable 12 = .ok (.invokevirtual 58, 3) := by decide +kernel
theorem dX5_setAssumable_15 : decode cX5_setAssumable 15 = .ok (.ireturn, 1) := by decide +kernel
theorem dX5_setAssumable_16 : decode cX5_setAssumable 16 = .ok (.aload_n 0, 1) := by decide +kernel
theorem dX5_setAssumable_17 : decode cX5_setAssumable 17 = .ok (.getfield 26, 3) := by decide +kernel
theorem dX5_setAssumable_20 : decode cX5_setAssumable 20 = .ok (.aload_n 0, 1) := by decide +kernel
theorem dX5_setAssumable_21 : decode cX5_setAssumable 21 = .ok (.getfield 10, 3) := by decide +kernel
theorem dX5_setAssumable_24 : decode cX5_setAssumable 24 = .ok (.invokevirtual 66, 3) := by decide +kernel
theorem dX5_setAssumable_27 : decode cX5_setAssumable 27 = .ok (.aload_n 0, 1) := by decide +kernel
theorem dX5_setAssumable_28 : decode cX5_setAssumable 28 = .ok (.getfield 10, 3) := by decide +kernel
theorem dX5_setAssumable_31 : decode cX5_setAssumable 31 = .ok (.iload_n 1, 1) := by decide +kernel
theorem dX5_setAssumable_32 : decode cX5_setAssumable 32 = .ok (.invokevirtual 141, 3) := by decide +kernel
theorem dX5_setAssumable_35 : decode cX5_setAssumable 35 = .ok (.ireturn, 1) := by decide +kernel
set_option maxRecDepth 20000 in
theorem ggX5_explanation_X5_isAtom : GoodIn wsX5_explanation wsX5_isAtom := goodIn_r _ [5] (by decide +kernel) (by decide +kernel)
set_option maxRecDepth 20000 in
theorem gX5_explanation_X5_isAtom : GoodIn wsX5_explanation (va_wsS RX5 50 yX5_isAtom wsX5_isAtom) := goodIn_app (goodIn_of _ (by decide +kernel)) ggX5_explanation_X5_isAtom
set_option maxRecDepth 20000 in
theorem ggX5_explanation_X5_fail : GoodIn wsX5_explanation wsX5_fail := goodIn_r _ [9, 10, 11, 12, 4, 13, 46, 47, 48, 49, 50, 51] (by decide +kernel) (by decide +kernel)
set_option maxRecDepth 20000 in
theorem gX5_explanation_X5_fail : GoodIn wsX5_explanation (wsV RX5 58 RX5 yX5_fail wsX5_fail) := goodIn_app (goodIn_of _ (by decide +kernel)) ggX5_explanation_X5_fail
set_option maxRecDepth 20000 in
theorem ggX5_explanation_X4_bestExplanation : GoodIn wsX5_explanation wsX4_bestExplanation := goodIn_r _ [18, 19, 20, 21, 22, 23, 24, 25, 26, 27, 28, 29, 17, 30, 31, 32, 33, 34, 35, 36, 37, 38, 39, 40, 41, 42, 4, 43, 44, 45, 52, 53, 54, 55] (by decide +kernel) (by decide +kernel)
set_option maxRecDepth 20000 in
theorem gX5_explanation_X4_bestExplanation : GoodIn wsX5_explanation (wsV RX5 144 RX4 yX4_bestExplanation wsX4_bestExplanation) := goodIn_app (goodIn_of _ (by decide +kernel)) ggX5_explanation_X4_bestExplanation
theorem dX5_explanation_0 : decode cX5_explanation 0 = .ok (.iload_n 1, 1) := by decide +kernel
theorem dX5_explanation_1 : decode cX5_explanation 1 = .ok (.invokestatic 50, 3) := by decide +kernel
theorem dX5_explanation_4 : decode cX5_explanation 4 = .ok (.ifCond .ne 10, 3) := by decide +kernel
theorem dX5_explanation_7 : decode cX5_explanation 7 = .ok (.aload_n 0, 1) := by decide +kernel
theorem dX5_explanation_8 : decode cX5_explanation 8 = .ok (.bipush (-2), 2) := by decide +kernel
theorem dX5_explanation_10 : decode cX5_explanation 10 = .ok (.invokevirtual 58, 3) := by decide +kernel
theorem dX5_explanation_13 : decode cX5_explanation 13 = .ok (.ireturn, 1) := by decide +kernel
theorem dX5_explanation_14 : decode cX5_explanation 14 = .ok (.aload_n 0, 1) := by decide +kernel
theorem dX5_explanation_15 : decode cX5_explanation 15 = .ok (.getfield 10, 3) := by decide +kernel
theorem dX5_explanation_18 : decode cX5_explanation 18 = .ok (.iload_n 1, 1) := by decide +kernel
theorem dX5_explanation_19 : decode cX5_explanation 19 = .ok (.invokevirtual 144, 3) := by decide +kernel
theorem dX5_explanation_22 : decode cX5_explanation 22 = .ok (.istore_n 2, 1) := by decide +kernel
theorem dX5_explanation_23 : decode cX5_explanation 23 = .ok (.iload_n 2, 1) := by decide +kernel
theorem dX5_explanation_24 : decode cX5_explanation 24 = .ok (.iconst (-1), 1) := by decide +kernel
theorem dX5_explanation_25 : decode cX5_explanation 25 = .ok (.if_icmp .ne 12, 3) := by decide +kernel
theorem dX5_explanation_28 : decode cX5_explanation 28 = .ok (.aload_n 0, 1) := by decide +kernel
theorem dX5_explanation_29 : decode cX5_explanation 29 = .ok (.bipush (-3), 2) := by decide +kernel
theorem dX5_explanation_31 : decode cX5_explanation 31 = .ok (.invokevirtual 58, 3) := by decide +kernel
theorem dX5_explanation_34 : decode cX5_explanation 34 = .ok (.goto 4, 3) := by decide +kernel
theorem dX5_explanation_37 : decode cX5_explanation 37 = .ok (.iload_n 2, 1) := by decide +kernel
theorem dX5_explanation_38 : decode cX5_explanation 38 = .ok (.ireturn, 1) := by decide +kernel
set_option maxRecDepth 20000 in
theorem ggX5_append_X5_fail : GoodIn wsX5_append wsX5_fail := goodIn_r _ [6, 7, 8, 9, 5, 10, 27, 28, 29, 30, 31, 32] (by decide +kernel) (by decide +kernel)
set_option maxRecDepth 20000 in
theorem gX5_append_X5_fail : GoodIn wsX5_append (wsV RX5 58 RX5 yX5_fail wsX5_fail) := goodIn_app (goodIn_of _ (by decide +kernel)) ggX5_append_X5_fail
set_option maxRecDepth 20000 in
theorem ggX5_append_X2_isFull : GoodIn wsX5_append wsX2_isFull := goodIn_r _ [15, 16, 17, 33, 34] (by decide +kernel) (by decide +kernel)
set_option maxRecDepth 20000 in
theorem gX5_append_X2_isFull : GoodIn wsX5_append (wsV RX5 147 RX2 yX2_isFull wsX2_isFull) := goodIn_app (goodIn_of _ (by decide +kernel)) ggX5_append_X2_isFull
set_option maxRecDepth 20000 in
theorem ggX5_append_X2_addLast : GoodIn wsX5_append wsX2_addLast := goodIn_r _ [21, 17, 16, 22, 12, 13, 14, 15, 33, 34] (by decide +kernel) (by decide +kernel)
set_option maxRecDepth 20000 in
theorem gX5_append_X2_addLast : GoodIn wsX5_append (wsV RX5 148 RX2 yX2_addLast wsX2_addLast) := goodIn_app (goodIn_of _ (by decide +kernel)) ggX5_append_X2_addLast
set_option maxRecDepth 20000 in
theorem ggX5_append_X2_size : GoodIn wsX5_append wsX2_size := goodIn_r _ [26, 16, 33, 34] (by decide +kernel) (by decide +kernel)
set_option maxRecDepth 20000 in
theorem gX5_append_X2_size : GoodIn wsX5_append (wsV RX5 150 RX2 yX2_size wsX2_size) := goodIn_app (goodIn_of _ (by decide +kernel)) ggX5_append_X2_size
theorem dX5_append_0 : decode cX5_append 0 = .ok (.iload_n 1, 1) := by decide +kernel
theorem dX5_append_1 : decode cX5_append 1 = .ok (.ifCond .lt 9, 3) := by decide +kernel
theorem dX5_append_4 : decode cX5_append 4 = .ok (.iload_n 1, 1) := by decide +kernel
theorem dX5_append_5 : decode cX5_append 5 = .ok (.bipush 127, 2) := by decide +kernel
theorem dX5_append_7 : decode cX5_append 7 = .ok (.if_icmp .le 10, 3) := by decide +kernel
theorem dX5_append_10 : decode cX5_append 10 = .ok (.aload_n 0, 1) := by decide +kernel
theorem dX5_append_11 : decode cX5_append 11 = .ok (.bipush (-2), 2) := by decide +kernel
theorem dX5_append_13 : decode cX5_append 13 = .ok (.invokevirtual 58, 3) := by decide +kernel
theorem dX5_append_16 : decode cX5_append 16 = .ok (.ireturn, 1) := by decide +kernel
theorem dX5_append_17 : decode cX5_append 17 = .ok (.aload_n 0, 1) := by decide +kernel
theorem dX5_append_18 : decode cX5_append 18 = .ok (.getfield 35, 3) := by decide +kernel
theorem dX5_append_21 : decode cX5_append 21 = .ok (.invokevirtual 147, 3) := by decide +kernel
theorem dX5_append_24 : decode cX5_append 24 = .ok (.ifCond .eq 10, 3) := by decide +kernel
theorem dX5_append_27 : decode cX5_append 27 = .ok (.aload_n 0, 1) := by decide +kernel
theorem dX5_append_28 : decode cX5_append 28 = .ok (.bipush (-4), 2) := by decide +kernel
theorem dX5_append_30 : decode cX5_append 30 = .ok (.invokevirtual 58, 3) := by decide +kernel
theorem dX5_append_33 : decode cX5_append 33 = .ok (.ireturn, 1) := by decide +kernel
theorem dX5_append_34 : decode cX5_append 34 = .ok (.aload_n 0, 1) := by decide +kernel
theorem dX5_append_35 : decode cX5_append 35 = .ok (.getfield 35, 3) := by decide +kernel
theorem dX5_append_38 : decode cX5_append 38 = .ok (.iload_n 1, 1) := by decide +kernel
theorem dX5_append_39 : decode cX5_append 39 = .ok (.invokevirtual 148, 3) := by decide +kernel
theorem dX5_append_42 : decode cX5_append 42 = .ok (.aload_n 0, 1) := by decide +kernel
theorem dX5_append_43 : decode cX5_append 43 = .ok (.getfield 35, 3) := by decide +kernel
theorem dX5_append_46 : decode cX5_append 46 = .ok (.invokevirtual 150, 3) := by decide +kernel
theorem dX5_append_49 : decode cX5_append 49 = .ok (.ireturn, 1) := by decide +kernel
set_option maxRecDepth 20000 in
theorem ggX5_clearText_X2_size : GoodIn wsX5_clearText wsX2_size := goodIn_r _ [6, 7, 18, 19] (by decide +kernel) (by decide +kernel)
set_option maxRecDepth 20000 in
theorem gX5_clearText_X2_size : GoodIn wsX5_clearText (wsV RX5 150 RX2 yX2_size wsX2_size) := goodIn_app (goodIn_of _ (by decide +kernel)) ggX5_clearText_X2_size
set_option maxRecDepth 20000 in
theorem ggX5_clearText_X2_empty : GoodIn wsX5_clearText wsX2_empty := goodIn_r _ [11, 7, 18, 19] (by decide +kernel) (by decide +kernel)
set_option maxRecDepth 20000 in
theorem gX5_clearText_X2_empty : GoodIn wsX5_clearText (wsV RX5 151 RX2 yX2_empty wsX2_empty) := goodIn_app (goodIn_of _ (by decide +kernel)) ggX5_clearText_X2_empty
theorem dX5_clearText_0 : decode cX5_clearText 0 = .ok (.aload_n 0, 1) := by decide +kernel
theorem dX5_clearText_1 : decode cX5_clearText 1 = .ok (.getfield 35, 3) := by decide +kernel
theorem dX5_clearText_4 : decode cX5_clearText 4 = .ok (.invokevirtual 150, 3) := by decide +kernel
theorem dX5_clearText_7 : decode cX5_clearText 7 = .ok (.istore_n 1, 1) := by decide +kernel
theorem dX5_clearText_8 : decode cX5_clearText 8 = .ok (.aload_n 0, 1) := by decide +kernel
theorem dX5_clearText_9 : decode cX5_clearText 9 = .ok (.getfield 35, 3) := by decide +kernel
theorem dX5_clearText_12 : decode cX5_clearText 12 = .ok (.invokevirtual 151, 3) := by decide +kernel
theorem dX5_clearText_15 : decode cX5_clearText 15 = .ok (.iload_n 1, 1) := by decide +kernel
theorem dX5_clearText_16 : decode cX5_clearText 16 = .ok (.ireturn, 1) := by decide +kernel
set_option maxRecDepth 20000 in
theorem ggX5_parse_X3_readOnto : GoodIn wsX5_parse wsX3_readOnto := goodIn_r _ [9, 10, 11, 12, 13, 14, 15, 16, 17, 18, 19, 20, 21, 22, 23, 8, 24, 25, 26, 27, 28, 29, 30, 31, 32, 33, 34, 35, 36, 37, 38, 39, 40, 41, 42, 43, 44, 45, 46, 47, 48, 49, 50, 51, 52, 53, 54, 55, 56, 57, 58, 59, 60, 61, 62, 63, 64, 65, 66, 67, 68, 69, 70, 71, 72, 73, 104, 105, 106, 107, 108, 109, 110, 111, 112] (by decide +kernel) (by decide +kernel)
set_option maxRecDepth 20000 in
theorem gX5_parse_X3_readOnto : GoodIn wsX5_parse (wsV RX5 154 RX3 yX3_readOnto wsX3_readOnto) := goodIn_app (goodIn_of _ (by decide +kernel)) ggX5_parse_X3_readOnto
set_option maxRecDepth 20000 in
theorem ggX5_parse_X3_errorAt : GoodIn wsX5_parse wsX3_errorAt := goodIn_r _ [77, 48, 104, 105, 106] (by decide +kernel) (by decide +kernel)
set_option maxRecDepth 20000 in
theorem gX5_parse_X3_errorAt : GoodIn wsX5_parse (wsV RX5 158 RX3 yX3_errorAt wsX3_errorAt) := goodIn_app (goodIn_of _ (by decide +kernel)) ggX5_parse_X3_errorAt
set_option maxRecDepth 20000 in
theorem ggX5_parse_X4_size : GoodIn wsX5_parse wsX4_size := goodIn_r _ [81, 17, 107, 108, 109, 110] (by decide +kernel) (by decide +kernel)
set_option maxRecDepth 20000 in
theorem gX5_parse_X4_size : GoodIn wsX5_parse (wsV RX5 74 RX4 yX4_size wsX4_size) := goodIn_app (goodIn_of _ (by decide +kernel)) ggX5_parse_X4_size
set_option maxRecDepth 20000 in
theorem ggX5_parse_X0_save : GoodIn wsX5_parse wsX0_save := goodIn_r _ [86, 87, 88, 89, 90, 91, 85, 92, 93, 13, 14, 15, 16, 17, 18, 19, 20, 113, 114, 107, 108, 109, 110] (by decide +kernel) (by decide +kernel)
set_option maxRecDepth 20000 in
theorem gX5_parse_X0_save : GoodIn wsX5_parse (wsV RX5 66 RX0 yX0_save wsX0_save) := goodIn_app (goodIn_of _ (by decide +kernel)) ggX5_parse_X0_save
set_option maxRecDepth 20000 in
theorem ggX5_parse_X3_copyResultTo : GoodIn wsX5_parse wsX3_copyResultTo := goodIn_r _ [97, 10, 12, 13, 14, 15, 16, 17, 18, 19, 20, 104, 105, 106, 107, 108, 109, 110] (by decide +kernel) (by decide +kernel)
set_option maxRecDepth 20000 in
theorem gX5_parse_X3_copyResultTo : GoodIn wsX5_parse (wsV RX5 161 RX3 yX3_copyResultTo wsX3_copyResultTo) := goodIn_app (goodIn_of _ (by decide +kernel)) ggX5_parse_X3_copyResultTo
theorem dX5_parse_0 : decode cX5_parse 0 = .ok (.aload_n 0, 1) := by decide +kernel
theorem dX5_parse_1 : decode cX5_parse 1 = .ok (.getfield 42, 3) := by decide +kernel
theorem dX5_parse_4 : decode cX5_parse 4 = .ok (.aload_n 0, 1) := by decide +kernel
theorem dX5_parse_5 : decode cX5_parse 5 = .ok (.getfield 10, 3) := by decide +kernel
theorem dX5_parse_8 : decode cX5_parse 8 = .ok (.aload_n 0, 1) := by decide +kernel
theorem dX5_parse_9 : decode cX5_parse 9 = .ok (.getfield 35, 3) := by decide +kernel
theorem dX5_parse_12 : decode cX5_parse 12 = .ok (.invokevirtual 154, 3) := by decide +kernel
theorem dX5_parse_15 : decode cX5_parse 15 = .ok (.ifCond .ne 14, 3) := by decide +kernel
theorem dX5_parse_18 : decode cX5_parse 18 = .ok (.bipush (-10), 2) := by decide +kernel
theorem dX5_parse_20 : decode cX5_parse 20 = .ok (.aload_n 0, 1) := by decide +kernel
theorem dX5_parse_21 : decode cX5_parse 21 = .ok (.getfield 42, 3) := by decide +kernel
theorem dX5_parse_24 : decode cX5_parse 24 = .ok (.invokevirtual 158, 3) := by decide +kernel
theorem dX5_parse_27 : decode cX5_parse 27 = .ok (.isub, 1) := by decide +kernel
theorem dX5_parse_28 : decode cX5_parse 28 = .ok (.ireturn, 1) := by decide +kernel
theorem dX5_parse_29 : decode cX5_parse 29 = .ok (.aload_n 0, 1) := by decide +kernel
theorem dX5_parse_30 : decode cX5_parse 30 = .ok (.getfield 10, 3) := by decide +kernel
theorem dX5_parse_33 : decode cX5_parse 33 = .ok (.invokevirtual 74, 3) := by decide +kernel
theorem dX5_parse_36 : decode cX5_parse 36 = .ok (.istore_n 1, 1) := by decide +kernel
theorem dX5_parse_37 : decode cX5_parse 37 = .ok (.aload_n 0, 1) := by decide +kernel
theorem dX5_parse_38 : decode cX5_parse 38 = .ok (.getfield 26, 3) := by decide +kernel
theorem dX5_parse_41 : decode cX5_parse 41 = .ok (.aload_n 0, 1) := by decide +kernel
theorem dX5_parse_42 : decode cX5_parse 42 = .ok (.getfield 10, 3) := by decide +kernel
theorem dX5_parse_45 : decode cX5_parse 45 = .ok (.invokevirtual 66, 3) := by decide +kernel
theorem dX5_parse_48 : decode cX5_parse 48 = .ok (.aload_n 0, 1) := by decide +kernel
theorem dX5_parse_49 : decode cX5_parse 49 = .ok (.getfield 42, 3) := by decide +kernel
theorem dX5_parse_52 : decode cX5_parse 52 = .ok (.aload_n 0, 1) := by decide +kernel
theorem dX5_parse_53 : decode cX5_parse 53 = .ok (.getfield 10, 3) := by decide +kernel
theorem dX5_parse_56 : decode cX5_parse 56 = .ok (.invokevirtual 161, 3) := by decide +kernel
theorem dX5_parse_59 : decode cX5_parse 59 = .ok (.aload_n 0, 1) := by decide +kernel
theorem dX5_parse_60 : decode cX5_parse 60 = .ok (.getfield 10, 3) := by decide +kernel
theorem dX5_parse_63 : decode cX5_parse 63 = .ok (.invokevirtual 74, 3) := by decide +kernel
theorem dX5_parse_66 : decode cX5_parse 66 = .ok (.iload_n 1, 1) := by decide +kernel
theorem dX5_parse_67 : decode cX5_parse 67 = .ok (.isub, 1) := by decide +kernel
theorem dX5_parse_68 : decode cX5_parse 68 = .ok (.ireturn, 1) := by decide +kernel
set_option maxRecDepth 20000 in
theorem ggX5_undo_X0_isEmpty : GoodIn wsX5_undo wsX0_isEmpty := goodIn_r _ [7, 8, 43, 44] (by decide +kernel) (by decide +kernel)
set_option maxRecDepth 20000 in
theorem gX5_undo_X0_isEmpty : GoodIn wsX5_undo (wsV RX5 164 RX0 yX0_isEmpty wsX0_isEmpty) := goodIn_app (goodIn_of _ (by decide +kernel)) ggX5_undo_X0_isEmpty
set_option maxRecDepth 20000 in
theorem ggX5_undo_X5_fail : GoodIn wsX5_undo wsX5_fail := goodIn_r _ [13, 14, 15, 16, 12, 17, 37, 38, 39, 40, 41, 42] (by decide +kernel) (by decide +kernel)
set_option maxRecDepth 20000 in
theorem gX5_undo_X5_fail : GoodIn wsX5_undo (wsV RX5 58 RX5 yX5_fail wsX5_fail) := goodIn_app (goodIn_of _ (by decide +kernel)) ggX5_undo_X5_fail
set_option maxRecDepth 20000 in
theorem ggX5_undo_X0_restore : GoodIn wsX5_undo wsX0_restore := goodIn_r _ [21, 8, 22, 23, 4, 5, 6, 7, 24, 25, 26, 27, 28, 29, 30, 31, 32, 43, 44, 45, 46, 47, 48] (by decide +kernel) (by decide +kernel)
set_option maxRecDepth 20000 in
theorem gX5_undo_X0_restore : GoodIn wsX5_undo (wsV RX5 167 RX0 yX0_restore wsX0_restore) := goodIn_app (goodIn_of _ (by decide +kernel)) ggX5_undo_X0_restore
set_option maxRecDepth 20000 in
theorem ggX5_undo_X0_size : GoodIn wsX5_undo wsX0_size := goodIn_r _ [36, 8, 43, 44] (by decide +kernel) (by decide +kernel)
set_option maxRecDepth 20000 in
theorem gX5_undo_X0_size : GoodIn wsX5_undo (wsV RX5 170 RX0 yX0_size wsX0_size) := goodIn_app (goodIn_of _ (by decide +kernel)) ggX5_undo_X0_size
theorem dX5_undo_0 : decode cX5_undo 0 = .ok (.aload_n 0, 1) := by decide +kernel
theorem dX5_undo_1 : decode cX5_undo 1 = .ok (.getfield 26, 3) := by decide +kernel
theorem dX5_undo_4 : decode cX5_undo 4 = .ok (.invokevirtual 164, 3) := by decide +kernel
theorem dX5_undo_7 : decode cX5_undo 7 = .ok (.ifCond .eq 10, 3) := by decide +kernel
theorem dX5_undo_10 : decode cX5_undo 10 = .ok (.aload_n 0, 1) := by decide +kernel
theorem dX5_undo_11 : decode cX5_undo 11 = .ok (.bipush (-5), 2) := by decide +kernel
theorem dX5_undo_13 : decode cX5_undo 13 = .ok (.invokevirtual 58, 3) := by decide +kernel
theorem dX5_undo_16 : decode cX5_undo 16 = .ok (.ireturn, 1) := by decide +kernel
theorem dX5_undo_17 : decode cX5_undo 17 = .ok (.aload_n 0, 1) := by decide +kernel
theorem dX5_undo_18 : decode cX5_undo 18 = .ok (.getfield 26, 3) := by decide +kernel
theorem dX5_undo_21 : decode cX5_undo 21 = .ok (.aload_n 0, 1) := by decide +kernel
theorem dX5_undo_22 : decode cX5_undo 22 = .ok (.getfield 10, 3) := by decide +kernel
theorem dX5_undo_25 : decode cX5_undo 25 = .ok (.invokevirtual 167, 3) := by decide +kernel
theorem dX5_undo_28 : decode cX5_undo 28 = .ok (.aload_n 0, 1) := by decide +kernel
theorem dX5_undo_29 : decode cX5_undo 29 = .ok (.getfield 26, 3) := by decide +kernel
theorem dX5_undo_32 : decode cX5_undo 32 = .ok (.invokevirtual 170, 3) := by decide +kernel
theorem dX5_undo_35 : decode cX5_undo 35 = .ok (.ireturn, 1) := by decide +kernel
set_option maxRecDepth 20000 in
theorem ggX5_errorCount_X5_isErrorCode : GoodIn wsX5_errorCount wsX5_isErrorCode := goodIn_r _ [5] (by decide +kernel) (by decide +kernel)
set_option maxRecDepth 20000 in
theorem gX5_errorCount_X5_isErrorCode : GoodIn wsX5_errorCount (va_wsS RX5 171 yX5_isErrorCode wsX5_isErrorCode) := goodIn_app (goodIn_of _ (by decide +kernel)) ggX5_errorCount_X5_isErrorCode
set_option maxRecDepth 20000 in
theorem ggX5_errorCount_X5_fail : GoodIn wsX5_errorCount wsX5_fail := goodIn_r _ [9, 1, 2, 3, 4, 5, 10, 11, 12, 13, 14, 15] (by decide +kernel) (by decide +kernel)
set_option maxRecDepth 20000 in
theorem gX5_errorCount_X5_fail : GoodIn wsX5_errorCount (wsV RX5 58 RX5 yX5_fail wsX5_fail) := goodIn_app (goodIn_of _ (by decide +kernel)) ggX5_errorCount_X5_fail
theorem dX5_errorCount_0 : decode cX5_errorCount 0 = .ok (.iload_n 1, 1) := by decide +kernel
theorem dX5_errorCount_1 : decode cX5_errorCount 1 = .ok (.invokestatic 171, 3) := by decide +kernel
theorem dX5_errorCount_4 : decode cX5_errorCount 4 = .ok (.ifCond .eq 15, 3) := by decide +kernel
theorem dX5_errorCount_7 : decode cX5_errorCount 7 = .ok (.aload_n 0, 1) := by decide +kernel
theorem dX5_errorCount_8 : decode cX5_errorCount 8 = .ok (.getfield 46, 3) := by decide +kernel
theorem dX5_errorCount_11 : decode cX5_errorCount 11 = .ok (.bipush (-2), 2) := by decide +kernel
theorem dX5_errorCount_13 : decode cX5_errorCount 13 = .ok (.iload_n 1, 1) := by decide +kernel
theorem dX5_errorCount_14 : decode cX5_errorCount 14 = .ok (.isub, 1) := by decide +kernel
theorem dX5_errorCount_15 : decode cX5_errorCount 15 = .ok (.iaload, 1) := by decide +kernel
theorem dX5_errorCount_16 : decode cX5_errorCount 16 = .ok (.goto 9, 3) := by decide +kernel
theorem dX5_errorCount_19 : decode cX5_errorCount 19 = .ok (.aload_n 0, 1) := by decide +kernel
theorem dX5_errorCount_20 : decode cX5_errorCount 20 = .ok (.bipush (-2), 2) := by decide +kernel
theorem dX5_errorCount_22 : decode cX5_errorCount 22 = .ok (.invokevirtual 58, 3) := by decide +kernel
theorem dX5_errorCount_25 : decode cX5_errorCount 25 = .ok (.ireturn, 1) := by decide +kernel
set_option maxRecDepth 20000 in
theorem ggX5_digest_X5_mix : GoodIn wsX5_digest wsX5_mix := goodIn_r _ [9, 10] (by decide +kernel) (by decide +kernel)
set_option maxRecDepth 20000 in
theorem gX5_digest_X5_mix : GoodIn wsX5_digest (va_wsS RX5 176 yX5_mix wsX5_mix) := goodIn_app (goodIn_of _ (by decide +kernel)) ggX5_digest_X5_mix
set_option maxRecDepth 20000 in
theorem ggX5_digest_X2_size : GoodIn wsX5_digest wsX2_size := goodIn_r _ [15, 16, 190, 191] (by decide +kernel) (by decide +kernel)
set_option maxRecDepth 20000 in
theorem gX5_digest_X2_size : GoodIn wsX5_digest (wsV RX5 150 RX2 yX2_size wsX2_size) := goodIn_app (goodIn_of _ (by decide +kernel)) ggX5_digest_X2_size
set_option maxRecDepth 20000 in
theorem ggX5_digest_X4_assumableAtoms : GoodIn wsX5_digest wsX4_assumableAtoms := goodIn_r _ [21, 22, 192, 193, 194, 195] (by decide +kernel) (by decide +kernel)
set_option maxRecDepth 20000 in
theorem gX5_digest_X4_assumableAtoms : GoodIn wsX5_digest (wsV RX5 180 RX4 yX4_assumableAtoms wsX4_assumableAtoms) := goodIn_app (goodIn_of _ (by decide +kernel)) ggX5_digest_X4_assumableAtoms
set_option maxRecDepth 20000 in
theorem ggX5_digest_X5_mixRules : GoodIn wsX5_digest wsX5_mixRules := goodIn_r _ [26, 4, 27, 28, 29, 20, 30, 31, 6, 7, 8, 9, 10, 32, 33, 34, 35, 36, 37, 38, 39, 40, 41, 42, 43, 44, 45, 46, 47, 48, 49, 50, 51, 52, 53, 54, 55, 56, 57, 58, 59, 60, 61, 62, 63, 64, 65, 66, 67, 68, 69, 70, 71, 72, 73, 74, 75, 76, 77, 184, 185, 186, 187, 188, 189, 192, 193, 194, 195] (by decide +kernel) (by decide +kernel)
set_option maxRecDepth 20000 in
theorem gX5_digest_X5_mixRules : GoodIn wsX5_digest (wsV RX5 183 RX5 yX5_mixRules wsX5_mixRules) := goodIn_app (goodIn_of _ (by decide +kernel)) ggX5_digest_X5_mixRules
set_option maxRecDepth 20000 in
theorem ggX5_digest_X5_mixPropagation : GoodIn wsX5_digest wsX5_mixPropagation := goodIn_r _ [81, 82, 4, 83, 84, 85, 86, 87, 88, 89, 90, 91, 92, 93, 14, 94, 16, 95, 96, 97, 98, 99, 100, 28, 29, 20, 30, 31, 101, 42, 43, 44, 45, 37, 38, 39, 40, 102, 103, 104, 105, 106, 107, 108, 109, 110, 111, 112, 113, 33, 34, 35, 36, 114, 115, 116, 117, 118, 119, 120, 121, 122, 66, 8, 67, 123, 12, 13, 15, 124, 125, 126, 127, 128, 129, 130, 131, 132, 51, 52, 53, 54, 55, 56, 57, 58, 59, 60, 61, 62, 63, 64, 65, 68, 69, 6, 7, 9, 10, 133, 134, 135, 136, 137, 138, 139, 140, 141, 142, 143, 144, 145, 146, 147, 148, 184, 185, 186, 187, 188, 189, 196, 197, 198, 199, 190, 191, 192, 193, 194, 195] (by decide +kernel) (by decide +kernel)
set_option maxRecDepth 20000 in
theorem gX5_digest_X5_mixPropagation : GoodIn wsX5_digest (wsV RX5 187 RX5 yX5_mixPropagation wsX5_mixPropagation) := goodIn_app (goodIn_of _ (by decide +kernel)) ggX5_digest_X5_mixPropagation
set_option maxRecDepth 20000 in
theorem ggX5_digest_X5_mixAtoms : GoodIn wsX5_digest wsX5_mixAtoms := goodIn_r _ [152, 4, 132, 51, 52, 20, 53, 54, 55, 56, 57, 31, 58, 59, 60, 61, 62, 63, 64, 65, 45, 36, 66, 8, 67, 68, 69, 153, 154, 155, 156, 157, 6, 7, 9, 10, 158, 159, 160, 161, 162, 163, 164, 165, 74, 75, 76, 77, 184, 185, 186, 187, 188, 189, 192, 193, 194, 195] (by decide +kernel) (by decide +kernel)
set_option maxRecDepth 20000 in
theorem gX5_digest_X5_mixAtoms : GoodIn wsX5_digest (wsV RX5 190 RX5 yX5_mixAtoms wsX5_mixAtoms) := goodIn_app (goodIn_of _ (by decide +kernel)) ggX5_digest_X5_mixAtoms
set_option maxRecDepth 20000 in
theorem ggX5_digest_X4_atomsOnCycles : GoodIn wsX5_digest wsX4_atomsOnCycles := goodIn_r _ [169, 170, 171, 172, 20, 173, 174, 175, 176, 177, 31, 36, 45, 66, 8, 67, 192, 193, 194, 195] (by decide +kernel) (by decide +kernel)
set_option maxRecDepth 20000 in
theorem gX5_digest_X4_atomsOnCycles : GoodIn wsX5_digest (wsV RX5 128 RX4 yX4_atomsOnCycles wsX4_atomsOnCycles) := goodIn_app (goodIn_of _ (by decide +kernel)) ggX5_digest_X4_atomsOnCycles
set_option maxRecDepth 20000 in
theorem ggX5_digest_X0_size : GoodIn wsX5_digest wsX0_size := goodIn_r _ [182, 183, 200, 201] (by decide +kernel) (by decide +kernel)
set_option maxRecDepth 20000 in
theorem gX5_digest_X0_size : GoodIn wsX5_digest (wsV RX5 170 RX0 yX0_size wsX0_size) := goodIn_app (goodIn_of _ (by decide +kernel)) ggX5_digest_X0_size
theorem dX5_digest_0 : decode cX5_digest 0 = .ok (.ldc2_w 174, 3) := by decide +kernel
theorem dX5_digest_3 : decode cX5_digest 3 = .ok (.lstore_n 1, 1) := by decide +kernel
theorem dX5_digest_4 : decode cX5_digest 4 = .ok (.bipush (-2), 2) := by decide +kernel
theorem dX5_digest_6 : decode cX5_digest 6 = .ok (.istore_n 3, 1) := by decide +kernel
theorem dX5_digest_7 : decode cX5_digest 7 = .ok (.iload_n 3, 1) := by decide +kernel
theorem dX5_digest_8 : decode cX5_digest 8 = .ok (.bipush (-5), 2) := by decide +kernel
theorem dX5_digest_10 : decode cX5_digest 10 = .ok (.if_icmp .lt 23, 3) := by decide +kernel
theorem dX5_digest_13 : decode cX5_digest 13 = .ok (.lload_n 1, 1) := by decide +kernel
theorem dX5_digest_14 : decode cX5_digest 14 = .ok (.aload_n 0, 1) := by decide +kernel
theorem dX5_digest_15 : decode cX5_digest 15 = .ok (.getfield 46, 3) := by decide +kernel
theorem dX5_digest_18 : decode cX5_digest 18 = .ok (.bipush (-2), 2) := by decide +kernel
theorem dX5_digest_20 : decode cX5_digest 20 = .ok (.iload_n 3, 1) := by decide +kernel
theorem dX5_digest_21 : decode cX5_digest 21 = .ok (.isub, 1) := by decide +kernel
theorem dX5_digest_22 : decode cX5_digest 22 = .ok (.iaload, 1) := by decide +kernel
theorem dX5_digest_23 : decode cX5_digest 23 = .ok (.invokestatic 176, 3) := by decide +kernel
theorem dX5_digest_26 : decode cX5_digest 26 = .ok (.lstore_n 1, 1) := by decide +kernel
theorem dX5_digest_27 : decode cX5_digest 27 = .ok (.iinc 3 (-1), 3) := by decide +kernel
theorem dX5_digest_30 : decode cX5_digest 30 = .ok (.goto (-23), 3) := by decide +kernel
theorem dX5_digest_33 : decode cX5_digest 33 = .ok (.lload_n 1, 1) := by decide +kernel
theorem dX5_digest_34 : decode cX5_digest 34 = .ok (.aload_n 0, 1) := by decide +kernel
theorem dX5_digest_35 : decode cX5_digest 35 = .ok (.getfield 35, 3) := by decide +kernel
theorem dX5_digest_38 : decode cX5_digest 38 = .ok (.invokevirtual 150, 3) := by decide +kernel
theorem dX5_digest_41 : decode cX5_digest 41 = .ok (.invokestatic 176, 3) := by decide +kernel
theorem dX5_digest_44 : decode cX5_digest 44 = .ok (.lstore_n 1, 1) := by decide +kernel
theorem dX5_digest_45 : decode cX5_digest 45 = .ok (.lload_n 1, 1) := by decide +kernel
theorem dX5_digest_46 : decode cX5_digest 46 = .ok (.aload_n 0, 1) := by decide +kernel
theorem dX5_digest_47 : decode cX5_digest 47 = .ok (.getfield 10, 3) := by decide +kernel
theorem dX5_digest_50 : decode cX5_digest 50 = .ok (.invokevirtual 180, 3) := by decide +kernel
theorem dX5_digest_53 : decode cX5_digest 53 = .ok (.invokestatic 176, 3) := by decide +kernel
theorem dX5_digest_56 : decode cX5_digest 56 = .ok (.lstore_n 1, 1) := by decide +kernel
theorem dX5_digest_57 : decode cX5_digest 57 = .ok (.aload_n 0, 1) := by decide +kernel
theorem dX5_digest_58 : decode cX5_digest 58 = .ok (.lload_n 1, 1) := by decide +kernel
theorem dX5_digest_59 : decode cX5_digest 59 = .ok (.invokevirtual 183, 3) := by decide +kernel
theorem dX5_digest_62 : decode cX5_digest 62 = .ok (.lstore_n 1, 1) := by decide +kernel
theorem dX5_digest_63 : decode cX5_digest 63 = .ok (.aload_n 0, 1) := by decide +kernel
theorem dX5_digest_64 : decode cX5_digest 64 = .ok (.lload_n 1, 1) := by decide +kernel
theorem dX5_digest_65 : decode cX5_digest 65 = .ok (.invokevirtual 187, 3) := by decide +kernel
theorem dX5_digest_68 : decode cX5_digest 68 = .ok (.lstore_n 1, 1) := by decide +kernel
theorem dX5_digest_69 : decode cX5_digest 69 = .ok (.aload_n 0, 1) := by decide +kernel
theorem dX5_digest_70 : decode cX5_digest 70 = .ok (.lload_n 1, 1) := by decide +kernel
theorem dX5_digest_71 : decode cX5_digest 71 = .ok (.invokevirtual 190, 3) := by decide +kernel
theorem dX5_digest_74 : decode cX5_digest 74 = .ok (.lstore_n 1, 1) := by decide +kernel
theorem dX5_digest_75 : decode cX5_digest 75 = .ok (.lload_n 1, 1) := by decide +kernel
theorem dX5_digest_76 : decode cX5_digest 76 = .ok (.aload_n 0, 1) := by decide +kernel
theorem dX5_digest_77 : decode cX5_digest 77 = .ok (.getfield 10, 3) := by decide +kernel
theorem dX5_digest_80 : decode cX5_digest 80 = .ok (.invokevirtual 128, 3) := by decide +kernel
theorem dX5_digest_83 : decode cX5_digest 83 = .ok (.invokestatic 176, 3) := by decide +kernel
theorem dX5_digest_86 : decode cX5_digest 86 = .ok (.lstore_n 1, 1) := by decide +kernel
theorem dX5_digest_87 : decode cX5_digest 87 = .ok (.lload_n 1, 1) := by decide +kernel
theorem dX5_digest_88 : decode cX5_digest 88 = .ok (.aload_n 0, 1) := by decide +kernel
theorem dX5_digest_89 : decode cX5_digest 89 = .ok (.getfield 26, 3) := by decide +kernel
theorem dX5_digest_92 : decode cX5_digest 92 = .ok (.invokevirtual 170, 3) := by decide +kernel
theorem dX5_digest_95 : decode cX5_digest 95 = .ok (.invokestatic 176, 3) := by decide +kernel
theorem dX5_digest_98 : decode cX5_digest 98 = .ok (.lreturn, 1) := by decide +kernel
set_option maxRecDepth 20000 in
theorem ggX5_mixRules_X4_size : GoodIn wsX5_mixRules wsX4_size := goodIn_r _ [6, 7, 65, 66, 67, 68] (by decide +kernel) (by decide +kernel)
set_option maxRecDepth 20000 in
theorem gX5_mixRules_X4_size : GoodIn wsX5_mixRules (wsV RX5 74 RX4 yX4_size wsX4_size) := goodIn_app (goodIn_of _ (by decide +kernel)) ggX5_mixRules_X4_size
set_option maxRecDepth 20000 in
theorem ggX5_mixRules_X5_mix : GoodIn wsX5_mixRules wsX5_mix := goodIn_r _ [11, 12] (by decide +kernel) (by decide +kernel)
set_option maxRecDepth 20000 in
theorem gX5_mixRules_X5_mix : GoodIn wsX5_mixRules (va_wsS RX5 176 yX5_mix wsX5_mix) := goodIn_app (goodIn_of _ (by decide +kernel)) ggX5_mixRules_X5_mix
set_option maxRecDepth 20000 in
theorem ggX5_mixRules_X4_headOf : GoodIn wsX5_mixRules wsX4_headOf := goodIn_r _ [16, 17, 18, 19, 20, 5, 21, 7, 65, 66, 67, 68] (by decide +kernel) (by decide +kernel)
set_option maxRecDepth 20000 in
theorem gX5_mixRules_X4_headOf : GoodIn wsX5_mixRules (wsV RX5 84 RX4 yX4_headOf wsX4_headOf) := goodIn_app (goodIn_of _ (by decide +kernel)) ggX5_mixRules_X4_headOf
set_option maxRecDepth 20000 in
theorem ggX5_mixRules_X4_bodyOf : GoodIn wsX5_mixRules wsX4_bodyOf := goodIn_r _ [25, 26, 18, 19, 20, 5, 21, 7, 65, 66, 67, 68] (by decide +kernel) (by decide +kernel)
set_option maxRecDepth 20000 in
theorem gX5_mixRules_X4_bodyOf : GoodIn wsX5_mixRules (wsV RX5 87 RX4 yX4_bodyOf wsX4_bodyOf) := goodIn_app (goodIn_of _ (by decide +kernel)) ggX5_mixRules_X4_bodyOf
set_option maxRecDepth 20000 in
theorem ggX5_mixRules_X4_overDeletedBy : GoodIn wsX5_mixRules wsX4_overDeletedBy := goodIn_r _ [30, 26, 17, 7, 31, 32, 33, 5, 34, 35, 36, 37, 38, 39, 40, 41, 42, 43, 44, 45, 46, 47, 10, 48, 49, 50, 18, 19, 20, 21, 65, 66, 67, 68] (by decide +kernel) (by decide +kernel)
set_option maxRecDepth 20000 in
theorem gX5_mixRules_X4_overDeletedBy : GoodIn wsX5_mixRules (wsV RX5 131 RX4 yX4_overDeletedBy wsX4_overDeletedBy) := goodIn_app (goodIn_of _ (by decide +kernel)) ggX5_mixRules_X4_overDeletedBy
set_option maxRecDepth 20000 in
theorem ggX5_mixRules_X4_lostWithout : GoodIn wsX5_mixRules wsX4_lostWithout := goodIn_r _ [54, 31, 32, 33, 5, 34, 35, 36, 37, 38, 7, 39, 40, 41, 42, 43, 44, 45, 46, 26, 17, 47, 10, 48, 49, 50, 55, 56, 57, 58, 65, 66, 67, 68] (by decide +kernel) (by decide +kernel)
set_option maxRecDepth 20000 in
theorem gX5_mixRules_X4_lostWithout : GoodIn wsX5_mixRules (wsV RX5 134 RX4 yX4_lostWithout wsX4_lostWithout) := goodIn_app (goodIn_of _ (by decide +kernel)) ggX5_mixRules_X4_lostWithout
theorem dX5_mixRules_0 : decode cX5_mixRules 0 = .ok (.lload_n 1, 1) := by decide +kernel
theorem dX5_mixRules_1 : decode cX5_mixRules 1 = .ok (.aload_n 0, 1) := by decide +kernel
theorem dX5_mixRules_2 : decode cX5_mixRules 2 = .ok (.getfield 10, 3) := by decide +kernel
theorem dX5_mixRules_5 : decode cX5_mixRules 5 = .ok (.invokevirtual 74, 3) := by decide +kernel
theorem dX5_mixRules_8 : decode cX5_mixRules 8 = .ok (.invokestatic 176, 3) := by decide +kernel
theorem dX5_mixRules_11 : decode cX5_mixRules 11 = .ok (.lstore_n 3, 1) := by decide +kernel
theorem dX5_mixRules_12 : decode cX5_mixRules 12 = .ok (.iconst 0, 1) := by decide +kernel
theorem dX5_mixRules_13 : decode cX5_mixRules 13 = .ok (.istore 5, 2) := by decide +kernel
theorem dX5_mixRules_15 : decode cX5_mixRules 15 = .ok (.iload 5, 2) := by decide +kernel
theorem dX5_mixRules_17 : decode cX5_mixRules 17 = .ok (.aload_n 0, 1) := by decide +kernel
theorem dX5_mixRules_18 : decode cX5_mixRules 18 = .ok (.getfield 10, 3) := by decide +kernel
theorem dX5_mixRules_21 : decode cX5_mixRules 21 = .ok (.invokevirtual 74, 3) := by decide +kernel
theorem dX5_mixRules_24 : decode cX5_mixRules 24 = .ok (.if_icmp .ge 65, 3) := by decide +kernel
theorem dX5_mixRules_27 : decode cX5_mixRules 27 = .ok (.lload_n 3, 1) := by decide +kernel
theorem dX5_mixRules_28 : decode cX5_mixRules 28 = .ok (.aload_n 0, 1) := by decide +kernel
theorem dX5_mixRules_29 : decode cX5_mixRules 29 = .ok (.getfield 10, 3) := by decide +kernel
theorem dX5_mixRules_32 : decode cX5_mixRules 32 = .ok (.iload 5, 2) := by decide +kernel
theorem dX5_mixRules_34 : decode cX5_mixRules 34 = .ok (.invokevirtual 84, 3) := by decide +kernel
theorem dX5_mixRules_37 : decode cX5_mixRules 37 = .ok (.invokestatic 176, 3) := by decide +kernel
theorem dX5_mixRules_40 : decode cX5_mixRules 40 = .ok (.lstore_n 3, 1) := by decide +kernel
theorem dX5_mixRules_41 : decode cX5_mixRules 41 = .ok (.lload_n 3, 1) := by decide +kernel
theorem dX5_mixRules_42 : decode cX5_mixRules 42 = .ok (.aload_n 0, 1) := by decide +kernel
theorem dX5_mixRules_43 : decode cX5_mixRules 43 = .ok (.getfield 10, 3) := by decide +kernel
theorem dX5_mixRules_46 : decode cX5_mixRules 46 = .ok (.iload 5, 2) := by decide +kernel
theorem dX5_mixRules_48 : decode cX5_mixRules 48 = .ok (.invokevirtual 87, 3) := by decide +kernel
theorem dX5_mixRules_51 : decode cX5_mixRules 51 = .ok (.invokestatic 176, 3) := by decide +kernel
theorem dX5_mixRules_54 : decode cX5_mixRules 54 = .ok (.lstore_n 3, 1) := by decide +kernel
theorem dX5_mixRules_55 : decode cX5_mixRules 55 = .ok (.lload_n 3, 1) := by decide +kernel
theorem dX5_mixRules_56 : decode cX5_mixRules 56 = .ok (.aload_n 0, 1) := by decide +kernel
theorem dX5_mixRules_57 : decode cX5_mixRules 57 = .ok (.getfield 10, 3) := by decide +kernel
theorem dX5_mixRules_60 : decode cX5_mixRules 60 = .ok (.iload 5, 2) := by decide +kernel
theorem dX5_mixRules_62 : decode cX5_mixRules 62 = .ok (.invokevirtual 131, 3) := by decide +kernel
theorem dX5_mixRules_65 : decode cX5_mixRules 65 = .ok (.invokestatic 176, 3) := by decide +kernel
theorem dX5_mixRules_68 : decode cX5_mixRules 68 = .ok (.lstore_n 3, 1) := by decide +kernel
theorem dX5_mixRules_69 : decode cX5_mixRules 69 = .ok (.lload_n 3, 1) := by decide +kernel
theorem dX5_mixRules_70 : decode cX5_mixRules 70 = .ok (.aload_n 0, 1) := by decide +kernel
theorem dX5_mixRules_71 : decode cX5_mixRules 71 = .ok (.getfield 10, 3) := by decide +kernel
theorem dX5_mixRules_74 : decode cX5_mixRules 74 = .ok (.iload 5, 2) := by decide +kernel
theorem dX5_mixRules_76 : decode cX5_mixRules 76 = .ok (.invokevirtual 134, 3) := by decide +kernel
theorem dX5_mixRules_79 : decode cX5_mixRules 79 = .ok (.invokestatic 176, 3) := by decide +kernel
theorem dX5_mixRules_82 : decode cX5_mixRules 82 = .ok (.lstore_n 3, 1) := by decide +kernel
theorem dX5_mixRules_83 : decode cX5_mixRules 83 = .ok (.iinc 5 1, 3) := by decide +kernel
theorem dX5_mixRules_86 : decode cX5_mixRules 86 = .ok (.goto (-71), 3) := by decide +kernel
theorem dX5_mixRules_89 : decode cX5_mixRules 89 = .ok (.lload_n 3, 1) := by decide +kernel
theorem dX5_mixRules_90 : decode cX5_mixRules 90 = .ok (.lreturn, 1) := by decide +kernel
set_option maxRecDepth 20000 in
theorem ggX5_mixPropagation_X1_run : GoodIn wsX5_mixPropagation wsX1_run := goodIn_r _ [7, 8, 9, 10, 11, 12, 13, 14, 15, 16, 17, 18, 19, 6, 20, 21, 22, 23, 24, 25, 26, 27, 28, 29, 30, 31, 32, 33, 34, 35, 36, 37, 38, 39, 40, 41, 42, 43, 44, 45, 46, 47, 48, 49, 50, 51, 52, 53, 54, 55, 56, 57, 58, 59, 60, 61, 62, 63, 64, 65, 66, 67, 68, 69, 70, 71, 72, 73, 74, 75, 76, 121, 122, 123, 124, 125, 126, 127, 128, 129, 130] (by decide +kernel) (by decide +kernel)
set_option maxRecDepth 20000 in
theorem gX5_mixPropagation_X1_run : GoodIn wsX5_mixPropagation (wsV RX5 93 RX1 yX1_run wsX1_run) := goodIn_app (goodIn_of _ (by decide +kernel)) ggX5_mixPropagation_X1_run
set_option maxRecDepth 20000 in
theorem ggX5_mixPropagation_X4_leastModel : GoodIn wsX5_mixPropagation wsX4_leastModel := goodIn_r _ [80, 81, 82, 83, 25, 84, 27, 85, 86, 87, 88, 89, 90, 91, 92, 32, 52, 62, 63, 64, 93, 94, 127, 128, 129, 130] (by decide +kernel) (by decide +kernel)
set_option maxRecDepth 20000 in
theorem gX5_mixPropagation_X4_leastModel : GoodIn wsX5_mixPropagation (wsV RX5 90 RX4 yX4_leastModel wsX4_leastModel) := goodIn_app (goodIn_of _ (by decide +kernel)) ggX5_mixPropagation_X4_leastModel
set_option maxRecDepth 20000 in
theorem ggX5_mixPropagation_X5_mix : GoodIn wsX5_mixPropagation wsX5_mix := goodIn_r _ [97, 98] (by decide +kernel) (by decide +kernel)
set_option maxRecDepth 20000 in
theorem gX5_mixPropagation_X5_mix : GoodIn wsX5_mixPropagation (va_wsS RX5 176 yX5_mix wsX5_mix) := goodIn_app (goodIn_of _ (by decide +kernel)) ggX5_mixPropagation_X5_mix
set_option maxRecDepth 20000 in
theorem ggX5_mixPropagation_X1_atomCount : GoodIn wsX5_mixPropagation wsX1_atomCount := goodIn_r _ [102, 8, 65, 66, 67, 14, 68, 16, 121, 122, 123, 124, 125, 126] (by decide +kernel) (by decide +kernel)
set_option maxRecDepth 20000 in
theorem gX5_mixPropagation_X1_atomCount : GoodIn wsX5_mixPropagation (wsV RX5 193 RX1 yX1_atomCount wsX1_atomCount) := goodIn_app (goodIn_of _ (by decide +kernel)) ggX5_mixPropagation_X1_atomCount
set_option maxRecDepth 20000 in
theorem ggX5_mixPropagation_X1_atomAt : GoodIn wsX5_mixPropagation wsX1_atomAt := goodIn_r _ [106, 8, 69, 70, 71, 14, 72, 16, 57, 121, 122, 123, 124, 125, 126] (by decide +kernel) (by decide +kernel)
set_option maxRecDepth 20000 in
theorem gX5_mixPropagation_X1_atomAt : GoodIn wsX5_mixPropagation (wsV RX5 96 RX1 yX1_atomAt wsX1_atomAt) := goodIn_app (goodIn_of _ (by decide +kernel)) ggX5_mixPropagation_X1_atomAt
set_option maxRecDepth 20000 in
theorem ggX5_mixPropagation_X1_ruleCount : GoodIn wsX5_mixPropagation wsX1_ruleCount := goodIn_r _ [110, 9, 65, 66, 67, 14, 68, 16, 121, 122, 123, 124, 125, 126] (by decide +kernel) (by decide +kernel)
set_option maxRecDepth 20000 in
theorem gX5_mixPropagation_X1_ruleCount : GoodIn wsX5_mixPropagation (wsV RX5 196 RX1 yX1_ruleCount wsX1_ruleCount) := goodIn_app (goodIn_of _ (by decide +kernel)) ggX5_mixPropagation_X1_ruleCount
set_option maxRecDepth 20000 in
theorem ggX5_mixPropagation_X1_ruleAt : GoodIn wsX5_mixPropagation wsX1_ruleAt := goodIn_r _ [114, 9, 69, 70, 71, 14, 72, 16, 57, 121, 122, 123, 124, 125, 126] (by decide +kernel) (by decide +kernel)
set_option maxRecDepth 20000 in
theorem gX5_mixPropagation_X1_ruleAt : GoodIn wsX5_mixPropagation (wsV RX5 99 RX1 yX1_ruleAt wsX1_ruleAt) := goodIn_app (goodIn_of _ (by decide +kernel)) ggX5_mixPropagation_X1_ruleAt
theorem dX5_mixPropagation_0 : decode cX5_mixPropagation 0 = .ok (.aload_n 0, 1) := by decide +kernel
theorem dX5_mixPropagation_1 : decode cX5_mixPropagation 1 = .ok (.getfield 19, 3) := by decide +kernel
theorem dX5_mixPropagation_4 : decode cX5_mixPropagation 4 = .ok (.aload_n 0, 1) := by decide +kernel
theorem dX5_mixPropagation_5 : decode cX5_mixPropagation 5 = .ok (.getfield 10, 3) := by decide +kernel
theorem dX5_mixPropagation_8 : decode cX5_mixPropagation 8 = .ok (.invokevirtual 93, 3) := by decide +kernel
theorem dX5_mixPropagation_11 : decode cX5_mixPropagation 11 = .ok (.lload_n 1, 1) := by decide +kernel
theorem dX5_mixPropagation_12 : decode cX5_mixPropagation 12 = .ok (.aload_n 0, 1) := by decide +kernel
theorem dX5_mixPropagation_13 : decode cX5_mixPropagation 13 = .ok (.getfield 10, 3) := by decide +kernel
theorem dX5_mixPropagation_16 : decode cX5_mixPropagation 16 = .ok (.invokevirtual 90, 3) := by decide +kernel
theorem dX5_mixPropagation_19 : decode cX5_mixPropagation 19 = .ok (.invokestatic 176, 3) := by decide +kernel
theorem dX5_mixPropagation_22 : decode cX5_mixPropagation 22 = .ok (.lstore_n 3, 1) := by decide +kernel
theorem dX5_mixPropagation_23 : decode cX5_mixPropagation 23 = .ok (.iconst 0, 1) := by decide +kernel
theorem dX5_mixPropagation_24 : decode cX5_mixPropagation 24 = .ok (.istore 5, 2) := by decide +kernel
theorem dX5_mixPropagation_26 : decode cX5_mixPropagation 26 = .ok (.iload 5, 2) := by decide +kernel
theorem dX5_mixPropagation_28 : decode cX5_mixPropagation 28 = .ok (.aload_n 0, 1) := by decide +kernel
theorem dX5_mixPropagation_29 : decode cX5_mixPropagation 29 = .ok (.getfield 19, 3) := by decide +kernel
theorem dX5_mixPropagation_32 : decode cX5_mixPropagation 32 = .ok (.invokevirtual 193, 3) := by decide +kernel
theorem dX5_mixPropagation_35 : decode cX5_mixPropagation 35 = .ok (.if_icmp .ge 23, 3) := by decide +kernel
theorem dX5_mixPropagation_38 : decode cX5_mixPropagation 38 = .ok (.lload_n 3, 1) := by decide +kernel
theorem dX5_mixPropagation_39 : decode cX5_mixPropagation 39 = .ok (.aload_n 0, 1) := by decide +kernel
theorem dX5_mixPropagation_40 : decode cX5_mixPropagation 40 = .ok (.getfield 19, 3) := by decide +kernel
theorem dX5_mixPropagation_43 : decode cX5_mixPropagation 43 = .ok (.iload 5, 2) := by decide +kernel
theorem dX5_mixPropagation_45 : decode cX5_mixPropagation 45 = .ok (.invokevirtual 96, 3) := by decide +kernel
theorem dX5_mixPropagation_48 : decode cX5_mixPropagation 48 = .ok (.invokestatic 176, 3) := by decide +kernel
theorem dX5_mixPropagation_51 : decode cX5_mixPropagation 51 = .ok (.lstore_n 3, 1) := by decide +kernel
theorem dX5_mixPropagation_52 : decode cX5_mixPropagation 52 = .ok (.iinc 5 1, 3) := by decide +kernel
theorem dX5_mixPropagation_55 : decode cX5_mixPropagation 55 = .ok (.goto (-29), 3) := by decide +kernel
theorem dX5_mixPropagation_58 : decode cX5_mixPropagation 58 = .ok (.iconst 0, 1) := by decide +kernel
theorem dX5_mixPropagation_59 : decode cX5_mixPropagation 59 = .ok (.istore 5, 2) := by decide +kernel
theorem dX5_mixPropagation_61 : decode cX5_mixPropagation 61 = .ok (.iload 5, 2) := by decide +kernel
theorem dX5_mixPropagation_63 : decode cX5_mixPropagation 63 = .ok (.aload_n 0, 1) := by decide +kernel
theorem dX5_mixPropagation_64 : decode cX5_mixPropagation 64 = .ok (.getfield 19, 3) := by decide +kernel
theorem dX5_mixPropagation_67 : decode cX5_mixPropagation 67 = .ok (.invokevirtual 196, 3) := by decide +kernel
theorem dX5_mixPropagation_70 : decode cX5_mixPropagation 70 = .ok (.if_icmp .ge 23, 3) := by decide +kernel
theorem dX5_mixPropagation_73 : decode cX5_mixPropagation 73 = .ok (.lload_n 3, 1) := by decide +kernel
theorem dX5_mixPropagation_74 : decode cX5_mixPropagation 74 = .ok (.aload_n 0, 1) := by decide +kernel
theorem dX5_mixPropagation_75 : decode cX5_mixPropagation 75 = .ok (.getfield 19, 3) := by decide +kernel
theorem dX5_mixPropagation_78 : decode cX5_mixPropagation 78 = .ok (.iload 5, 2) := by decide +kernel
theorem dX5_mixPropagation_80 : decode cX5_mixPropagation 80 = .ok (.invokevirtual 99, 3) := by decide +kernel
theorem dX5_mixPropagation_83 : decode cX5_mixPropagation 83 = .ok (.invokestatic 176, 3) := by decide +kernel
theorem dX5_mixPropagation_86 : decode cX5_mixPropagation 86 = .ok (.lstore_n 3, 1) := by decide +kernel
theorem dX5_mixPropagation_87 : decode cX5_mixPropagation 87 = .ok (.iinc 5 1, 3) := by decide +kernel
theorem dX5_mixPropagation_90 : decode cX5_mixPropagation 90 = .ok (.goto (-29), 3) := by decide +kernel
theorem dX5_mixPropagation_93 : decode cX5_mixPropagation 93 = .ok (.lload_n 3, 1) := by decide +kernel
theorem dX5_mixPropagation_94 : decode cX5_mixPropagation 94 = .ok (.lreturn, 1) := by decide +kernel
set_option maxRecDepth 20000 in
theorem ggX5_mixAtoms_X4_leastModel : GoodIn wsX5_mixAtoms wsX4_leastModel := goodIn_r _ [6, 7, 8, 9, 5, 10, 11, 12, 13, 14, 15, 16, 17, 18, 19, 20, 21, 22, 23, 24, 25, 26, 54, 55, 56, 57] (by decide +kernel) (by decide +kernel)
set_option maxRecDepth 20000 in
theorem gX5_mixAtoms_X4_leastModel : GoodIn wsX5_mixAtoms (wsV RX5 90 RX4 yX4_leastModel wsX4_leastModel) := goodIn_app (goodIn_of _ (by decide +kernel)) ggX5_mixAtoms_X4_leastModel
set_option maxRecDepth 20000 in
theorem ggX5_mixAtoms_X5_contains : GoodIn wsX5_mixAtoms wsX5_contains := goodIn_r _ [24] (by decide +kernel) (by decide +kernel)
set_option maxRecDepth 20000 in
theorem gX5_mixAtoms_X5_contains : GoodIn wsX5_mixAtoms (va_wsS RX5 199 yX5_contains wsX5_contains) := goodIn_app (goodIn_of _ (by decide +kernel)) ggX5_mixAtoms_X5_contains
set_option maxRecDepth 20000 in
theorem ggX5_mixAtoms_X4_levelOf : GoodIn wsX5_mixAtoms wsX4_levelOf := goodIn_r _ [31, 7, 8, 9, 5, 10, 11, 16, 17, 18, 19, 20, 21, 22, 23, 24, 25, 26, 54, 55, 56, 57] (by decide +kernel) (by decide +kernel)
set_option maxRecDepth 20000 in
theorem gX5_mixAtoms_X4_levelOf : GoodIn wsX5_mixAtoms (wsV RX5 105 RX4 yX4_levelOf wsX4_levelOf) := goodIn_app (goodIn_of _ (by decide +kernel)) ggX5_mixAtoms_X4_levelOf
set_option maxRecDepth 20000 in
theorem ggX5_mixAtoms_X5_mix : GoodIn wsX5_mixAtoms wsX5_mix := goodIn_r _ [34, 35] (by decide +kernel) (by decide +kernel)
set_option maxRecDepth 20000 in
theorem gX5_mixAtoms_X5_mix : GoodIn wsX5_mixAtoms (va_wsS RX5 176 yX5_mix wsX5_mix) := goodIn_app (goodIn_of _ (by decide +kernel)) ggX5_mixAtoms_X5_mix
set_option maxRecDepth 20000 in
theorem ggX5_mixAtoms_X4_reasonFor : GoodIn wsX5_mixAtoms wsX4_reasonFor := goodIn_r _ [39, 11, 7, 8, 9, 5, 10, 12, 13, 14, 15, 16, 17, 18, 19, 20, 21, 22, 23, 24, 25, 26, 54, 55, 56, 57] (by decide +kernel) (by decide +kernel)
set_option maxRecDepth 20000 in
theorem gX5_mixAtoms_X4_reasonFor : GoodIn wsX5_mixAtoms (wsV RX5 119 RX4 yX4_reasonFor wsX4_reasonFor) := goodIn_app (goodIn_of _ (by decide +kernel)) ggX5_mixAtoms_X4_reasonFor
set_option maxRecDepth 20000 in
theorem ggX5_mixAtoms_X4_necessaryFor : GoodIn wsX5_mixAtoms wsX4_necessaryFor := goodIn_r _ [43, 11, 44, 45, 46, 5, 47, 7, 8, 9, 10, 12, 13, 14, 15, 16, 17, 18, 19, 20, 21, 22, 23, 24, 25, 26, 54, 55, 56, 57] (by decide +kernel) (by decide +kernel)
set_option maxRecDepth 20000 in
theorem gX5_mixAtoms_X4_necessaryFor : GoodIn wsX5_mixAtoms (wsV RX5 122 RX4 yX4_necessaryFor wsX4_necessaryFor) := goodIn_app (goodIn_of _ (by decide +kernel)) ggX5_mixAtoms_X4_necessaryFor
theorem dX5_mixAtoms_0 : decode cX5_mixAtoms 0 = .ok (.lload_n 1, 1) := by decide +kernel
theorem dX5_mixAtoms_1 : decode cX5_mixAtoms 1 = .ok (.lstore_n 3, 1) := by decide +kernel
theorem dX5_mixAtoms_2 : decode cX5_mixAtoms 2 = .ok (.aload_n 0, 1) := by decide +kernel
theorem dX5_mixAtoms_3 : decode cX5_mixAtoms 3 = .ok (.getfield 10, 3) := by decide +kernel
theorem dX5_mixAtoms_6 : decode cX5_mixAtoms 6 = .ok (.invokevirtual 90, 3) := by decide +kernel
theorem dX5_mixAtoms_9 : decode cX5_mixAtoms 9 = .ok (.istore 5, 2) := by decide +kernel
theorem dX5_mixAtoms_11 : decode cX5_mixAtoms 11 = .ok (.iconst 0, 1) := by decide +kernel
theorem dX5_mixAtoms_12 : decode cX5_mixAtoms 12 = .ok (.istore 6, 2) := by decide +kernel
theorem dX5_mixAtoms_14 : decode cX5_mixAtoms 14 = .ok (.iload 6, 2) := by decide +kernel
theorem dX5_mixAtoms_16 : decode cX5_mixAtoms 16 = .ok (.bipush 16, 2) := by decide +kernel
theorem dX5_mixAtoms_18 : decode cX5_mixAtoms 18 = .ok (.if_icmp .ge 61, 3) := by decide +kernel
theorem dX5_mixAtoms_21 : decode cX5_mixAtoms 21 = .ok (.iload 5, 2) := by decide +kernel
theorem dX5_mixAtoms_23 : decode cX5_mixAtoms 23 = .ok (.iload 6, 2) := by decide +kernel
theorem dX5_mixAtoms_25 : decode cX5_mixAtoms 25 = .ok (.invokestatic 199, 3) := by decide +kernel
theorem dX5_mixAtoms_28 : decode cX5_mixAtoms 28 = .ok (.ifCond .eq 45, 3) := by decide +kernel
theorem dX5_mixAtoms_31 : decode cX5_mixAtoms 31 = .ok (.lload_n 3, 1) := by decide +kernel
theorem dX5_mixAtoms_32 : decode cX5_mixAtoms 32 = .ok (.aload_n 0, 1) := by decide +kernel
theorem dX5_mixAtoms_33 : decode cX5_mixAtoms 33 = .ok (.getfield 10, 3) := by decide +kernel
theorem dX5_mixAtoms_36 : decode cX5_mixAtoms 36 = .ok (.iload 6, 2) := by decide +kernel
theorem dX5_mixAtoms_38 : decode cX5_mixAtoms 38 = .ok (.invokevirtual 105, 3) := by decide +kernel
theorem dX5_mixAtoms_41 : decode cX5_mixAtoms 41 = .ok (.invokestatic 176, 3) := by decide +kernel
theorem dX5_mixAtoms_44 : decode cX5_mixAtoms 44 = .ok (.lstore_n 3, 1) := by decide +kernel
theorem dX5_mixAtoms_45 : decode cX5_mixAtoms 45 = .ok (.lload_n 3, 1) := by decide +kernel
theorem dX5_mixAtoms_46 : decode cX5_mixAtoms 46 = .ok (.aload_n 0, 1) := by decide +kernel
theorem dX5_mixAtoms_47 : decode cX5_mixAtoms 47 = .ok (.getfield 10, 3) := by decide +kernel
theorem dX5_mixAtoms_50 : decode cX5_mixAtoms 50 = .ok (.iload 6, 2) := by decide +kernel
theorem dX5_mixAtoms_52 : decode cX5_mixAtoms 52 = .ok (.invokevirtual 119, 3) := by decide +kernel
theorem dX5_mixAtoms_55 : decode cX5_mixAtoms 55 = .ok (.invokestatic 176, 3) := by decide +kernel
theorem dX5_mixAtoms_58 : decode cX5_mixAtoms 58 = .ok (.lstore_n 3, 1) := by decide +kernel
theorem dX5_mixAtoms_59 : decode cX5_mixAtoms 59 = .ok (.lload_n 3, 1) := by decide +kernel
theorem dX5_mixAtoms_60 : decode cX5_mixAtoms 60 = .ok (.aload_n 0, 1) := by decide +kernel
theorem dX5_mixAtoms_61 : decode cX5_mixAtoms 61 = .ok (.getfield 10, 3) := by decide +kernel
theorem dX5_mixAtoms_64 : decode cX5_mixAtoms 64 = .ok (.iload 6, 2) := by decide +kernel
theorem dX5_mixAtoms_66 : decode cX5_mixAtoms 66 = .ok (.invokevirtual 122, 3) := by decide +kernel
theorem dX5_mixAtoms_69 : decode cX5_mixAtoms 69 = .ok (.invokestatic 176, 3) := by decide +kernel
theorem dX5_mixAtoms_72 : decode cX5_mixAtoms 72 = .ok (.lstore_n 3, 1) := by decide +kernel
theorem dX5_mixAtoms_73 : decode cX5_mixAtoms 73 = .ok (.iinc 6 1, 3) := by decide +kernel
theorem dX5_mixAtoms_76 : decode cX5_mixAtoms 76 = .ok (.goto (-62), 3) := by decide +kernel
theorem dX5_mixAtoms_79 : decode cX5_mixAtoms 79 = .ok (.lload_n 3, 1) := by decide +kernel
theorem dX5_mixAtoms_80 : decode cX5_mixAtoms 80 = .ok (.lreturn, 1) := by decide +kernel
theorem dX5_mix_0 : decode cX5_mix 0 = .ok (.ldc2_w 202, 3) := by decide +kernel
theorem dX5_mix_3 : decode cX5_mix 3 = .ok (.lload_n 0, 1) := by decide +kernel
theorem dX5_mix_4 : decode cX5_mix 4 = .ok (.lmul, 1) := by decide +kernel
theorem dX5_mix_5 : decode cX5_mix 5 = .ok (.iload_n 2, 1) := by decide +kernel
theorem dX5_mix_6 : decode cX5_mix 6 = .ok (.i2l, 1) := by decide +kernel
theorem dX5_mix_7 : decode cX5_mix 7 = .ok (.ladd, 1) := by decide +kernel
theorem dX5_mix_8 : decode cX5_mix 8 = .ok (.lreturn, 1) := by decide +kernel
set_option maxRecDepth 20000 in
theorem ggX5_fail_X5_isErrorCode : GoodIn wsX5_fail wsX5_isErrorCode := goodIn_r _ [5] (by decide +kernel) (by decide +kernel)
set_option maxRecDepth 20000 in
theorem gX5_fail_X5_isErrorCode : GoodIn wsX5_fail (va_wsS RX5 171 yX5_isErrorCode wsX5_isErrorCode) := goodIn_app (goodIn_of _ (by decide +kernel)) ggX5_fail_X5_isErrorCode
theorem dX5_fail_0 : decode cX5_fail 0 = .ok (.iload_n 1, 1) := by decide +kernel
theorem dX5_fail_1 : decode cX5_fail 1 = .ok (.invokestatic 171, 3) := by decide +kernel
theorem dX5_fail_4 : decode cX5_fail 4 = .ok (.ifCond .eq 16, 3) := by decide +kernel
theorem dX5_fail_7 : decode cX5_fail 7 = .ok (.aload_n 0, 1) := by decide +kernel
theorem dX5_fail_8 : decode cX5_fail 8 = .ok (.getfield 46, 3) := by decide +kernel
theorem dX5_fail_11 : decode cX5_fail 11 = .ok (.bipush (-2), 2) := by decide +kernel
theorem dX5_fail_13 : decode cX5_fail 13 = .ok (.iload_n 1, 1) := by decide +kernel
theorem dX5_fail_14 : decode cX5_fail 14 = .ok (.isub, 1) := by decide +kernel
theorem dX5_fail_15 : decode cX5_fail 15 = .ok (.dup2, 1) := by decide +kernel
theorem dX5_fail_16 : decode cX5_fail 16 = .ok (.iaload, 1) := by decide +kernel
theorem dX5_fail_17 : decode cX5_fail 17 = .ok (.iconst 1, 1) := by decide +kernel
theorem dX5_fail_18 : decode cX5_fail 18 = .ok (.iadd, 1) := by decide +kernel
theorem dX5_fail_19 : decode cX5_fail 19 = .ok (.iastore, 1) := by decide +kernel
theorem dX5_fail_20 : decode cX5_fail 20 = .ok (.iload_n 1, 1) := by decide +kernel
theorem dX5_fail_21 : decode cX5_fail 21 = .ok (.ireturn, 1) := by decide +kernel
set_option maxRecDepth 20000 in
theorem ggX5_isDerived_X4_leastModel : GoodIn wsX5_isDerived wsX4_leastModel := goodIn_r _ [6, 7, 8, 9, 5, 10, 11, 12, 13, 14, 15, 16, 17, 18, 19, 20, 21, 22, 23, 24, 25, 26, 34, 35, 36, 37] (by decide +kernel) (by decide +kernel)
set_option maxRecDepth 20000 in
theorem gX5_isDerived_X4_leastModel : GoodIn wsX5_isDerived (wsV RX5 90 RX4 yX4_leastModel wsX4_leastModel) := goodIn_app (goodIn_of _ (by decide +kernel)) ggX5_isDerived_X4_leastModel
set_option maxRecDepth 20000 in
theorem ggX5_isDerived_X5_contains : GoodIn wsX5_isDerived wsX5_contains := goodIn_r _ [24] (by decide +kernel) (by decide +kernel)
set_option maxRecDepth 20000 in
theorem gX5_isDerived_X5_contains : GoodIn wsX5_isDerived (va_wsS RX5 199 yX5_contains wsX5_contains) := goodIn_app (goodIn_of _ (by decide +kernel)) ggX5_isDerived_X5_contains
theorem dX5_isDerived_0 : decode cX5_isDerived 0 = .ok (.aload_n 0, 1) := by decide +kernel
theorem dX5_isDerived_1 : decode cX5_isDerived 1 = .ok (.getfield 10, 3) := by decide +kernel
theorem dX5_isDerived_4 : decode cX5_isDerived 4 = .ok (.invokevirtual 90, 3) := by decide +kernel
theorem dX5_isDerived_7 : decode cX5_isDerived 7 = .ok (.iload_n 1, 1) := by decide +kernel
theorem dX5_isDerived_8 : decode cX5_isDerived 8 = .ok (.invokestatic 199, 3) := by decide +kernel
theorem dX5_isDerived_11 : decode cX5_isDerived 11 = .ok (.ireturn, 1) := by decide +kernel
theorem dX5_isErrorCode_0 : decode cX5_isErrorCode 0 = .ok (.iload_n 0, 1) := by decide +kernel
theorem dX5_isErrorCode_1 : decode cX5_isErrorCode 1 = .ok (.bipush (-5), 2) := by decide +kernel
theorem dX5_isErrorCode_3 : decode cX5_isErrorCode 3 = .ok (.if_icmp .lt 13, 3) := by decide +kernel
theorem dX5_isErrorCode_6 : decode cX5_isErrorCode 6 = .ok (.iload_n 0, 1) := by decide +kernel
theorem dX5_isErrorCode_7 : decode cX5_isErrorCode 7 = .ok (.bipush (-2), 2) := by decide +kernel
theorem dX5_isErrorCode_9 : decode cX5_isErrorCode 9 = .ok (.if_icmp .gt 7, 3) := by decide +kernel
theorem dX5_isErrorCode_12 : decode cX5_isErrorCode 12 = .ok (.iconst 1, 1) := by decide +kernel
theorem dX5_isErrorCode_13 : decode cX5_isErrorCode 13 = .ok (.goto 4, 3) := by decide +kernel
theorem dX5_isErrorCode_16 : decode cX5_isErrorCode 16 = .ok (.iconst 0, 1) := by decide +kernel
theorem dX5_isErrorCode_17 : decode cX5_isErrorCode 17 = .ok (.ireturn, 1) := by decide +kernel
theorem dX5_isAtom_0 : decode cX5_isAtom 0 = .ok (.iload_n 0, 1) := by decide +kernel
theorem dX5_isAtom_1 : decode cX5_isAtom 1 = .ok (.ifCond .lt 13, 3) := by decide +kernel
theorem dX5_isAtom_4 : decode cX5_isAtom 4 = .ok (.iload_n 0, 1) := by decide +kernel
theorem dX5_isAtom_5 : decode cX5_isAtom 5 = .ok (.bipush 16, 2) := by decide +kernel
theorem dX5_isAtom_7 : decode cX5_isAtom 7 = .ok (.if_icmp .ge 7, 3) := by decide +kernel
theorem dX5_isAtom_10 : decode cX5_isAtom 10 = .ok (.iconst 1, 1) := by decide +kernel
theorem dX5_isAtom_11 : decode cX5_isAtom 11 = .ok (.goto 4, 3) := by decide +kernel
theorem dX5_isAtom_14 : decode cX5_isAtom 14 = .ok (.iconst 0, 1) := by decide +kernel
theorem dX5_isAtom_15 : decode cX5_isAtom 15 = .ok (.ireturn, 1) := by decide +kernel
set_option maxRecDepth 20000 in
theorem ggX5_isAtomSet_J6_bitCount_0f7a4 : GoodIn wsX5_isAtomSet wsJ6_bitCount_0f7a4 := goodIn_r _ [5, 6, 7, 8] (by decide +kernel) (by decide +kernel)
set_option maxRecDepth 20000 in
theorem gX5_isAtomSet_J6_bitCount_0f7a4 : GoodIn wsX5_isAtomSet (va_wsS RX5 108 yJ6_bitCount_0f7a4 wsJ6_bitCount_0f7a4) := goodIn_app (goodIn_of _ (by decide +kernel)) ggX5_isAtomSet_J6_bitCount_0f7a4
theorem dX5_isAtomSet_0 : decode cX5_isAtomSet 0 = .ok (.iload_n 0, 1) := by decide +kernel
theorem dX5_isAtomSet_1 : decode cX5_isAtomSet 1 = .ok (.ifCond .lt 21, 3) := by decide +kernel
theorem dX5_isAtomSet_4 : decode cX5_isAtomSet 4 = .ok (.iload_n 0, 1) := by decide +kernel
theorem dX5_isAtomSet_5 : decode cX5_isAtomSet 5 = .ok (.ldc 204, 2) := by decide +kernel
theorem dX5_isAtomSet_7 : decode cX5_isAtomSet 7 = .ok (.if_icmp .gt 15, 3) := by decide +kernel
theorem dX5_isAtomSet_10 : decode cX5_isAtomSet 10 = .ok (.iload_n 0, 1) := by decide +kernel
theorem dX5_isAtomSet_11 : decode cX5_isAtomSet 11 = .ok (.invokestatic 108, 3) := by decide +kernel
theorem dX5_isAtomSet_14 : decode cX5_isAtomSet 14 = .ok (.iload_n 1, 1) := by decide +kernel
theorem dX5_isAtomSet_15 : decode cX5_isAtomSet 15 = .ok (.if_icmp .gt 7, 3) := by decide +kernel
theorem dX5_isAtomSet_18 : decode cX5_isAtomSet 18 = .ok (.iconst 1, 1) := by decide +kernel
theorem dX5_isAtomSet_19 : decode cX5_isAtomSet 19 = .ok (.goto 4, 3) := by decide +kernel
theorem dX5_isAtomSet_22 : decode cX5_isAtomSet 22 = .ok (.iconst 0, 1) := by decide +kernel
theorem dX5_isAtomSet_23 : decode cX5_isAtomSet 23 = .ok (.ireturn, 1) := by decide +kernel
theorem dX5_contains_0 : decode cX5_contains 0 = .ok (.iload_n 0, 1) := by decide +kernel
theorem dX5_contains_1 : decode cX5_contains 1 = .ok (.iconst 1, 1) := by decide +kernel
theorem dX5_contains_2 : decode cX5_contains 2 = .ok (.iload_n 1, 1) := by decide +kernel
theorem dX5_contains_3 : decode cX5_contains 3 = .ok (.ishl, 1) := by decide +kernel
theorem dX5_contains_4 : decode cX5_contains 4 = .ok (.iand, 1) := by decide +kernel
theorem dX5_contains_5 : decode cX5_contains 5 = .ok (.ifCond .eq 7, 3) := by decide +kernel
theorem dX5_contains_8 : decode cX5_contains 8 = .ok (.iconst 1, 1) := by decide +kernel
theorem dX5_contains_9 : decode cX5_contains 9 = .ok (.goto 4, 3) := by decide +kernel
theorem dX5_contains_12 : decode cX5_contains 12 = .ok (.iconst 0, 1) := by decide +kernel
theorem dX5_contains_13 : decode cX5_contains 13 = .ok (.ireturn, 1) := by decide +kernel
theorem dX5_isSubset_0 : decode cX5_isSubset 0 = .ok (.iload_n 0, 1) := by decide +kernel
theorem dX5_isSubset_1 : decode cX5_isSubset 1 = .ok (.iload_n 1, 1) := by decide +kernel
theorem dX5_isSubset_2 : decode cX5_isSubset 2 = .ok (.iconst (-1), 1) := by decide +kernel
theorem dX5_isSubset_3 : decode cX5_isSubset 3 = .ok (.ixor, 1) := by decide +kernel
theorem dX5_isSubset_4 : decode cX5_isSubset 4 = .ok (.iand, 1) := by decide +kernel
theorem dX5_isSubset_5 : decode cX5_isSubset 5 = .ok (.ifCond .ne 7, 3) := by decide +kernel
theorem dX5_isSubset_8 : decode cX5_isSubset 8 = .ok (.iconst 1, 1) := by decide +kernel
theorem dX5_isSubset_9 : decode cX5_isSubset 9 = .ok (.goto 4, 3) := by decide +kernel
theorem dX5_isSubset_12 : decode cX5_isSubset 12 = .ok (.iconst 0, 1) := by decide +kernel
theorem dX5_isSubset_13 : decode cX5_isSubset 13 = .ok (.ireturn, 1) := by decide +kernel
set_option maxRecDepth 20000 in
theorem ggX5_bitsOfSixteenths_X5_contains : GoodIn wsX5_bitsOfSixteenths wsX5_contains := goodIn_r _ [5] (by decide +kernel) (by decide +kernel)
set_option maxRecDepth 20000 in
theorem gX5_bitsOfSixteenths_X5_contains : GoodIn wsX5_bitsOfSixteenths (va_wsS RX5 199 yX5_contains wsX5_contains) := goodIn_app (goodIn_of _ (by decide +kernel)) ggX5_bitsOfSixteenths_X5_contains
theorem dX5_bitsOfSixteenths_0 : decode cX5_bitsOfSixteenths 0 = .ok (.iconst 4, 1) := by decide +kernel
theorem dX5_bitsOfSixteenths_1 : decode cX5_bitsOfSixteenths 1 = .ok (.istore_n 1, 1) := by decide +kernel
theorem dX5_bitsOfSixteenths_2 : decode cX5_bitsOfSixteenths 2 = .ok (.iload_n 1, 1) := by decide +kernel
theorem dX5_bitsOfSixteenths_3 : decode cX5_bitsOfSixteenths 3 = .ok (.ifCond .lt 41, 3) := by decide +kernel
theorem dX5_bitsOfSixteenths_6 : decode cX5_bitsOfSixteenths 6 = .ok (.iload_n 0, 1) := by decide +kernel
theorem dX5_bitsOfSixteenths_7 : decode cX5_bitsOfSixteenths 7 = .ok (.iload_n 1, 1) := by decide +kernel
theorem dX5_bitsOfSixteenths_8 : decode cX5_bitsOfSixteenths 8 = .ok (.invokestatic 199, 3) := by decide +kernel
theorem dX5_bitsOfSixteenths_11 : decode cX5_bitsOfSixteenths 11 = .ok (.ifCond .eq 27, 3) := by decide +kernel
theorem dX5_bitsOfSixteenths_14 : decode cX5_bitsOfSixteenths 14 = .ok (.bipush 127, 2) := by decide +kernel
theorem dX5_bitsOfSixteenths_16 : decode cX5_bitsOfSixteenths 16 = .ok (.iload_n 1, 1) := by decide +kernel
theorem dX5_bitsOfSixteenths_17 : decode cX5_bitsOfSixteenths 17 = .ok (.iadd, 1) := by decide +kernel
theorem dX5_bitsOfSixteenths_18 : decode cX5_bitsOfSixteenths 18 = .ok (.iconst 4, 1) := by decide +kernel
theorem dX5_bitsOfSixteenths_19 : decode cX5_bitsOfSixteenths 19 = .ok (.isub, 1) := by decide +kernel
theorem dX5_bitsOfSixteenths_20 : decode cX5_bitsOfSixteenths 20 = .ok (.istore_n 2, 1) := by decide +kernel
theorem dX5_bitsOfSixteenths_21 : decode cX5_bitsOfSixteenths 21 = .ok (.iload_n 0, 1) := by decide +kernel
theorem dX5_bitsOfSixteenths_22 : decode cX5_bitsOfSixteenths 22 = .ok (.bipush 23, 2) := by decide +kernel
theorem dX5_bitsOfSixteenths_24 : decode cX5_bitsOfSixteenths 24 = .ok (.iload_n 1, 1) := by decide +kernel
theorem dX5_bitsOfSixteenths_25 : decode cX5_bitsOfSixteenths 25 = .ok (.isub, 1) := by decide +kernel
theorem dX5_bitsOfSixteenths_26 : decode cX5_bitsOfSixteenths 26 = .ok (.ishl, 1) := by decide +kernel
theorem dX5_bitsOfSixteenths_27 : decode cX5_bitsOfSixteenths 27 = .ok (.ldc 205, 2) := by decide +kernel
theorem dX5_bitsOfSixteenths_29 : decode cX5_bitsOfSixteenths 29 = .ok (.iand, 1) := by decide +kernel
theorem dX5_bitsOfSixteenths_30 : decode cX5_bitsOfSixteenths 30 = .ok (.istore_n 3, 1) := by decide +kernel
theorem dX5_bitsOfSixteenths_31 : decode cX5_bitsOfSixteenths 31 = .ok (.iload_n 2, 1) := by decide +kernel
theorem dX5_bitsOfSixteenths_32 : decode cX5_bitsOfSixteenths 32 = .ok (.bipush 23, 2) := by decide +kernel
theorem dX5_bitsOfSixteenths_34 : decode cX5_bitsOfSixteenths 34 = .ok (.ishl, 1) := by decide +kernel
theorem dX5_bitsOfSixteenths_35 : decode cX5_bitsOfSixteenths 35 = .ok (.iload_n 3, 1) := by decide +kernel
theorem dX5_bitsOfSixteenths_36 : decode cX5_bitsOfSixteenths 36 = .ok (.ior, 1) := by decide +kernel
theorem dX5_bitsOfSixteenths_37 : decode cX5_bitsOfSixteenths 37 = .ok (.ireturn, 1) := by decide +kernel
theorem dX5_bitsOfSixteenths_38 : decode cX5_bitsOfSixteenths 38 = .ok (.iinc 1 (-1), 3) := by decide +kernel
theorem dX5_bitsOfSixteenths_41 : decode cX5_bitsOfSixteenths 41 = .ok (.goto (-39), 3) := by decide +kernel
theorem dX5_bitsOfSixteenths_44 : decode cX5_bitsOfSixteenths 44 = .ok (.iconst 0, 1) := by decide +kernel
theorem dX5_bitsOfSixteenths_45 : decode cX5_bitsOfSixteenths 45 = .ok (.ireturn, 1) := by decide +kernel
theorem dX6_init_0 : decode cX6_init 0 = .ok (.aload_n 0, 1) := by decide +kernel
theorem dX6_init_1 : decode cX6_init 1 = .ok (.invokespecial 1, 3) := by decide +kernel
theorem dX6_init_4 : decode cX6_init 4 = .ok (.aload_n 0, 1) := by decide +kernel
theorem dX6_init_5 : decode cX6_init 5 = .ok (.bipush 50, 2) := by decide +kernel
theorem dX6_init_7 : decode cX6_init 7 = .ok (.newarray .int, 2) := by decide +kernel
theorem dX6_init_9 : decode cX6_init 9 = .ok (.putfield 7, 3) := by decide +kernel
theorem dX6_init_12 : decode cX6_init 12 = .ok (.aload_n 0, 1) := by decide +kernel
theorem dX6_init_13 : decode cX6_init 13 = .ok (.sipush 200, 3) := by decide +kernel
theorem dX6_init_16 : decode cX6_init 16 = .ok (.newarray .int, 2) := by decide +kernel
theorem dX6_init_18 : decode cX6_init 18 = .ok (.putfield 13, 3) := by decide +kernel
theorem dX6_init_21 : decode cX6_init 21 = .ok (.aload_n 0, 1) := by decide +kernel
theorem dX6_init_22 : decode cX6_init 22 = .ok (.iconst 4, 1) := by decide +kernel
theorem dX6_init_23 : decode cX6_init 23 = .ok (.newarray .int, 2) := by decide +kernel
theorem dX6_init_25 : decode cX6_init 25 = .ok (.putfield 16, 3) := by decide +kernel
theorem dX6_init_28 : decode cX6_init 28 = .ok (.aload_n 0, 1) := by decide +kernel
theorem dX6_init_29 : decode cX6_init 29 = .ok (.bipush 120, 2) := by decide +kernel
theorem dX6_init_31 : decode cX6_init 31 = .ok (.newarray .int, 2) := by decide +kernel
theorem dX6_init_33 : decode cX6_init 33 = .ok (.putfield 19, 3) := by decide +kernel
theorem dX6_init_36 : decode cX6_init 36 = .ok (.aload_n 0, 1) := by decide +kernel
theorem dX6_init_37 : decode cX6_init 37 = .ok (.bipush 16, 2) := by decide +kernel
theorem dX6_init_39 : decode cX6_init 39 = .ok (.newarray .int, 2) := by decide +kernel
theorem dX6_init_41 : decode cX6_init 41 = .ok (.putfield 22, 3) := by decide +kernel
theorem dX6_init_44 : decode cX6_init 44 = .ok (.aload_n 0, 1) := by decide +kernel
theorem dX6_init_45 : decode cX6_init 45 = .ok (.bipush 24, 2) := by decide +kernel
theorem dX6_init_47 : decode cX6_init 47 = .ok (.newarray .int, 2) := by decide +kernel
theorem dX6_init_49 : decode cX6_init 49 = .ok (.putfield 25, 3) := by decide +kernel
theorem dX6_init_52 : decode cX6_init 52 = .ok (.aload_n 0, 1) := by decide +kernel
theorem dX6_init_53 : decode cX6_init 53 = .ok (.bipush 24, 2) := by decide +kernel
theorem dX6_init_55 : decode cX6_init 55 = .ok (.newarray .int, 2) := by decide +kernel
theorem dX6_init_57 : decode cX6_init 57 = .ok (.putfield 28, 3) := by decide +kernel
theorem dX6_init_60 : decode cX6_init 60 = .ok (.aload_n 0, 1) := by decide +kernel
theorem dX6_init_61 : decode cX6_init 61 = .ok (.bipush 24, 2) := by decide +kernel
theorem dX6_init_63 : decode cX6_init 63 = .ok (.newarray .int, 2) := by decide +kernel
theorem dX6_init_65 : decode cX6_init 65 = .ok (.putfield 31, 3) := by decide +kernel
theorem dX6_init_68 : decode cX6_init 68 = .ok (.aload_n 0, 1) := by decide +kernel
theorem dX6_init_69 : decode cX6_init 69 = .ok (.bipush 24, 2) := by decide +kernel
theorem dX6_init_71 : decode cX6_init 71 = .ok (.newarray .int, 2) := by decide +kernel
theorem dX6_init_73 : decode cX6_init 73 = .ok (.putfield 34, 3) := by decide +kernel
theorem dX6_init_76 : decode cX6_init 76 = .ok (.return_, 1) := by decide +kernel
theorem dX6_in_0 : decode cX6_in 0 = .ok (.lload_n 0, 1) := by decide +kernel
theorem dX6_in_1 : decode cX6_in 1 = .ok (.lload_n 2, 1) := by decide +kernel
theorem dX6_in_2 : decode cX6_in 2 = .ok (.lcmp, 1) := by decide +kernel
theorem dX6_in_3 : decode cX6_in 3 = .ok (.ifCond .lt 14, 3) := by decide +kernel
theorem dX6_in_6 : decode cX6_in 6 = .ok (.lload_n 0, 1) := by decide +kernel
theorem dX6_in_7 : decode cX6_in 7 = .ok (.lload 4, 2) := by decide +kernel
theorem dX6_in_9 : decode cX6_in 9 = .ok (.lcmp, 1) := by decide +kernel
theorem dX6_in_10 : decode cX6_in 10 = .ok (.ifCond .gt 7, 3) := by decide +kernel
theorem dX6_in_13 : decode cX6_in 13 = .ok (.iconst 1, 1) := by decide +kernel
theorem dX6_in_14 : decode cX6_in 14 = .ok (.goto 4, 3) := by decide +kernel
theorem dX6_in_17 : decode cX6_in 17 = .ok (.iconst 0, 1) := by decide +kernel
theorem dX6_in_18 : decode cX6_in 18 = .ok (.ireturn, 1) := by decide +kernel
theorem dX6_error_0 : decode cX6_error 0 = .ok (.aload_n 0, 1) := by decide +kernel
theorem dX6_error_1 : decode cX6_error 1 = .ok (.getfield 16, 3) := by decide +kernel
theorem dX6_error_4 : decode cX6_error 4 = .ok (.bipush (-2), 2) := by decide +kernel
theorem dX6_error_6 : decode cX6_error 6 = .ok (.iload_n 1, 1) := by decide +kernel
theorem dX6_error_7 : decode cX6_error 7 = .ok (.isub, 1) := by decide +kernel
theorem dX6_error_8 : decode cX6_error 8 = .ok (.dup2, 1) := by decide +kernel
theorem dX6_error_9 : decode cX6_error 9 = .ok (.iaload, 1) := by decide +kernel
theorem dX6_error_10 : decode cX6_error 10 = .ok (.iconst 1, 1) := by decide +kernel
theorem dX6_error_11 : decode cX6_error 11 = .ok (.iadd, 1) := by decide +kernel
theorem dX6_error_12 : decode cX6_error 12 = .ok (.iastore, 1) := by decide +kernel
theorem dX6_error_13 : decode cX6_error 13 = .ok (.iload_n 1, 1) := by decide +kernel
theorem dX6_error_14 : decode cX6_error 14 = .ok (.ireturn, 1) := by decide +kernel
theorem dX6_save_0 : decode cX6_save 0 = .ok (.aload_n 0, 1) := by decide +kernel
theorem dX6_save_1 : decode cX6_save 1 = .ok (.getfield 37, 3) := by decide +kernel
theorem dX6_save_4 : decode cX6_save 4 = .ok (.iconst 4, 1) := by decide +kernel
theorem dX6_save_5 : decode cX6_save 5 = .ok (.if_icmp .ne 43, 3) := by decide +kernel
theorem dX6_save_8 : decode cX6_save 8 = .ok (.iconst 0, 1) := by decide +kernel
theorem dX6_save_9 : decode cX6_save 9 = .ok (.istore_n 1, 1) := by decide +kernel
theorem dX6_save_10 : decode cX6_save 10 = .ok (.iload_n 1, 1) := by decide +kernel
theorem dX6_save_11 : decode cX6_save 11 = .ok (.sipush 150, 3) := by decide +kernel
theorem dX6_save_14 : decode cX6_save 14 = .ok (.if_icmp .ge 24, 3) := by decide +kernel
theorem dX6_save_17 : decode cX6_save 17 = .ok (.aload_n 0, 1) := by decide +kernel
theorem dX6_save_18 : decode cX6_save 18 = .ok (.getfield 13, 3) := by decide +kernel
theorem dX6_save_21 : decode cX6_save 21 = .ok (.iload_n 1, 1) := by decide +kernel
theorem dX6_save_22 : decode cX6_save 22 = .ok (.aload_n 0, 1) := by decide +kernel
theorem dX6_save_23 : decode cX6_save 23 = .ok (.getfield 13, 3) := by decide +kernel
theorem dX6_save_26 : decode cX6_save 26 = .ok (.iload_n 1, 1) := by decide +kernel
theorem dX6_save_27 : decode cX6_save 27 = .ok (.bipush 50, 2) := by decide +kernel
theorem dX6_save_29 : decode cX6_save 29 = .ok (.iadd, 1) := by decide +kernel
theorem dX6_save_30 : decode cX6_save 30 = .ok (.iaload, 1) := by decide +kernel
theorem dX6_save_31 : decode cX6_save 31 = .ok (.iastore, 1) := by decide +kernel
theorem dX6_save_32 : decode cX6_save 32 = .ok (.iinc 1 1, 3) := by decide +kernel
theorem dX6_save_35 : decode cX6_save 35 = .ok (.goto (-25), 3) := by decide +kernel
theorem dX6_save_38 : decode cX6_save 38 = .ok (.aload_n 0, 1) := by decide +kernel
theorem dX6_save_39 : decode cX6_save 39 = .ok (.dup, 1) := by decide +kernel
theorem dX6_save_40 : decode cX6_save 40 = .ok (.getfield 37, 3) := by decide +kernel
theorem dX6_save_43 : decode cX6_save 43 = .ok (.iconst 1, 1) := by decide +kernel
theorem dX6_save_44 : decode cX6_save 44 = .ok (.isub, 1) := by decide +kernel
theorem dX6_save_45 : decode cX6_save 45 = .ok (.putfield 37, 3) := by decide +kernel
theorem dX6_save_48 : decode cX6_save 48 = .ok (.iconst 0, 1) := by decide +kernel
theorem dX6_save_49 : decode cX6_save 49 = .ok (.istore_n 1, 1) := by decide +kernel
theorem dX6_save_50 : decode cX6_save 50 = .ok (.iload_n 1, 1) := by decide +kernel
theorem dX6_save_51 : decode cX6_save 51 = .ok (.bipush 50, 2) := by decide +kernel
theorem dX6_save_53 : decode cX6_save 53 = .ok (.if_icmp .ge 29, 3) := by decide +kernel
theorem dX6_save_56 : decode cX6_save 56 = .ok (.aload_n 0, 1) := by decide +kernel
theorem dX6_save_57 : decode cX6_save 57 = .ok (.getfield 13, 3) := by decide +kernel
theorem dX6_save_60 : decode cX6_save 60 = .ok (.bipush 50, 2) := by decide +kernel
theorem dX6_save_62 : decode cX6_save 62 = .ok (.aload_n 0, 1) := by decide +kernel
theorem dX6_save_63 : decode cX6_save 63 = .ok (.getfield 37, 3) := by decide +kernel
theorem dX6_save_66 : decode cX6_save 66 = .ok (.imul, 1) := by decide +kernel
theorem dX6_save_67 : decode cX6_save 67 = .ok (.iload_n 1, 1) := by decide +kernel
theorem dX6_save_68 : decode cX6_save 68 = .ok (.iadd, 1) := by decide +kernel
theorem dX6_save_69 : decode cX6_save 69 = .ok (.aload_n 0, 1) := by decide +kernel
theorem dX6_save_70 : decode cX6_save 70 = .ok (.getfield 7, 3) := by decide +kernel
theorem dX6_save_73 : decode cX6_save 73 = .ok (.iload_n 1, 1) := by decide +kernel
theorem dX6_save_74 : decode cX6_save 74 = .ok (.iaload, 1) := by decide +kernel
theorem dX6_save_75 : decode cX6_save 75 = .ok (.iastore, 1) := by decide +kernel
theorem dX6_save_76 : decode cX6_save 76 = .ok (.iinc 1 1, 3) := by decide +kernel
theorem dX6_save_79 : decode cX6_save 79 = .ok (.goto (-29), 3) := by decide +kernel
theorem dX6_save_82 : decode cX6_save 82 = .ok (.aload_n 0, 1) := by decide +kernel
theorem dX6_save_83 : decode cX6_save 83 = .ok (.dup, 1) := by decide +kernel
theorem dX6_save_84 : decode cX6_save 84 = .ok (.getfield 37, 3) := by decide +kernel
theorem dX6_save_87 : decode cX6_save 87 = .ok (.iconst 1, 1) := by decide +kernel
theorem dX6_save_88 : decode cX6_save 88 = .ok (.iadd, 1) := by decide +kernel
theorem dX6_save_89 : decode cX6_save 89 = .ok (.putfield 37, 3) := by decide +kernel
theorem dX6_save_92 : decode cX6_save 92 = .ok (.return_, 1) := by decide +kernel
set_option maxRecDepth 20000 in
theorem ggX6_isAtom_X6_in : GoodIn wsX6_isAtom wsX6_in := goodIn_r _ [5] (by decide +kernel) (by decide +kernel)
set_option maxRecDepth 20000 in
theorem gX6_isAtom_X6_in : GoodIn wsX6_isAtom (va_wsS RX6 43 yX6_in wsX6_in) := goodIn_app (goodIn_of _ (by decide +kernel)) ggX6_isAtom_X6_in
theorem dX6_isAtom_0 : decode cX6_isAtom 0 = .ok (.iload_n 0, 1) := by decide +kernel
theorem dX6_isAtom_1 : decode cX6_isAtom 1 = .ok (.i2l, 1) := by decide +kernel
theorem dX6_isAtom_2 : decode cX6_isAtom 2 = .ok (.lconst 0, 1) := by decide +kernel
theorem dX6_isAtom_3 : decode cX6_isAtom 3 = .ok (.ldc2_w 41, 3) := by decide +kernel
theorem dX6_isAtom_6 : decode cX6_isAtom 6 = .ok (.invokestatic 43, 3) := by decide +kernel
theorem dX6_isAtom_9 : decode cX6_isAtom 9 = .ok (.ireturn, 1) := by decide +kernel
theorem dX6_size_0 : decode cX6_size 0 = .ok (.iconst 0, 1) := by decide +kernel
theorem dX6_size_1 : decode cX6_size 1 = .ok (.istore_n 1, 1) := by decide +kernel
theorem dX6_size_2 : decode cX6_size 2 = .ok (.iconst 0, 1) := by decide +kernel
theorem dX6_size_3 : decode cX6_size 3 = .ok (.istore_n 2, 1) := by decide +kernel
theorem dX6_size_4 : decode cX6_size 4 = .ok (.iload_n 2, 1) := by decide +kernel
theorem dX6_size_5 : decode cX6_size 5 = .ok (.bipush 16, 2) := by decide +kernel
theorem dX6_size_7 : decode cX6_size 7 = .ok (.if_icmp .ge 17, 3) := by decide +kernel
theorem dX6_size_10 : decode cX6_size 10 = .ok (.iload_n 1, 1) := by decide +kernel
theorem dX6_size_11 : decode cX6_size 11 = .ok (.iload_n 0, 1) := by decide +kernel
theorem dX6_size_12 : decode cX6_size 12 = .ok (.iload_n 2, 1) := by decide +kernel
theorem dX6_size_13 : decode cX6_size 13 = .ok (.ishr, 1) := by decide +kernel
theorem dX6_size_14 : decode cX6_size 14 = .ok (.iconst 1, 1) := by decide +kernel
theorem dX6_size_15 : decode cX6_size 15 = .ok (.iand, 1) := by decide +kernel
theorem dX6_size_16 : decode cX6_size 16 = .ok (.iadd, 1) := by decide +kernel
theorem dX6_size_17 : decode cX6_size 17 = .ok (.istore_n 1, 1) := by decide +kernel
theorem dX6_size_18 : decode cX6_size 18 = .ok (.iinc 2 1, 3) := by decide +kernel
theorem dX6_size_21 : decode cX6_size 21 = .ok (.goto (-17), 3) := by decide +kernel
theorem dX6_size_24 : decode cX6_size 24 = .ok (.iload_n 1, 1) := by decide +kernel
theorem dX6_size_25 : decode cX6_size 25 = .ok (.ireturn, 1) := by decide +kernel
set_option maxRecDepth 20000 in
theorem ggX6_isBody_X6_in : GoodIn wsX6_isBody wsX6_in := goodIn_r _ [5] (by decide +kernel) (by decide +kernel)
set_option maxRecDepth 20000 in
theorem gX6_isBody_X6_in : GoodIn wsX6_isBody (va_wsS RX6 43 yX6_in wsX6_in) := goodIn_app (goodIn_of _ (by decide +kernel)) ggX6_isBody_X6_in
set_option maxRecDepth 20000 in
theorem ggX6_isBody_X6_size : GoodIn wsX6_isBody wsX6_size := goodIn_r _ [8] (by decide +kernel) (by decide +kernel)
set_option maxRecDepth 20000 in
theorem gX6_isBody_X6_size : GoodIn wsX6_isBody (va_wsS RX6 49 yX6_size wsX6_size) := goodIn_app (goodIn_of _ (by decide +kernel)) ggX6_isBody_X6_size
theorem dX6_isBody_0 : decode cX6_isBody 0 = .ok (.iload_n 0, 1) := by decide +kernel
theorem dX6_isBody_1 : decode cX6_isBody 1 = .ok (.i2l, 1) := by decide +kernel
theorem dX6_isBody_2 : decode cX6_isBody 2 = .ok (.lconst 0, 1) := by decide +kernel
theorem dX6_isBody_3 : decode cX6_isBody 3 = .ok (.ldc2_w 47, 3) := by decide +kernel
theorem dX6_isBody_6 : decode cX6_isBody 6 = .ok (.invokestatic 43, 3) := by decide +kernel
theorem dX6_isBody_9 : decode cX6_isBody 9 = .ok (.ifCond .eq 15, 3) := by decide +kernel
theorem dX6_isBody_12 : decode cX6_isBody 12 = .ok (.iload_n 0, 1) := by decide +kernel
theorem dX6_isBody_13 : decode cX6_isBody 13 = .ok (.invokestatic 49, 3) := by decide +kernel
theorem dX6_isBody_16 : decode cX6_isBody 16 = .ok (.iconst 4, 1) := by decide +kernel
theorem dX6_isBody_17 : decode cX6_isBody 17 = .ok (.if_icmp .gt 7, 3) := by decide +kernel
theorem dX6_isBody_20 : decode cX6_isBody 20 = .ok (.iconst 1, 1) := by decide +kernel
theorem dX6_isBody_21 : decode cX6_isBody 21 = .ok (.goto 4, 3) := by decide +kernel
theorem dX6_isBody_24 : decode cX6_isBody 24 = .ok (.iconst 0, 1) := by decide +kernel
theorem dX6_isBody_25 : decode cX6_isBody 25 = .ok (.ireturn, 1) := by decide +kernel
set_option maxRecDepth 20000 in
theorem ggX6_isRule_X6_in : GoodIn wsX6_isRule wsX6_in := goodIn_r _ [5] (by decide +kernel) (by decide +kernel)
set_option maxRecDepth 20000 in
theorem gX6_isRule_X6_in : GoodIn wsX6_isRule (va_wsS RX6 43 yX6_in wsX6_in) := goodIn_app (goodIn_of _ (by decide +kernel)) ggX6_isRule_X6_in
theorem dX6_isRule_0 : decode cX6_isRule 0 = .ok (.iload_n 1, 1) := by decide +kernel
theorem dX6_isRule_1 : decode cX6_isRule 1 = .ok (.i2l, 1) := by decide +kernel
theorem dX6_isRule_2 : decode cX6_isRule 2 = .ok (.lconst 0, 1) := by decide +kernel
theorem dX6_isRule_3 : decode cX6_isRule 3 = .ok (.aload_n 0, 1) := by decide +kernel
theorem dX6_isRule_4 : decode cX6_isRule 4 = .ok (.getfield 7, 3) := by decide +kernel
theorem dX6_isRule_7 : decode cX6_isRule 7 = .ok (.iconst 0, 1) := by decide +kernel
theorem dX6_isRule_8 : decode cX6_isRule 8 = .ok (.iaload, 1) := by decide +kernel
theorem dX6_isRule_9 : decode cX6_isRule 9 = .ok (.iconst 1, 1) := by decide +kernel
theorem dX6_isRule_10 : decode cX6_isRule 10 = .ok (.isub, 1) := by decide +kernel
theorem dX6_isRule_11 : decode cX6_isRule 11 = .ok (.i2l, 1) := by decide +kernel
theorem dX6_isRule_12 : decode cX6_isRule 12 = .ok (.invokestatic 43, 3) := by decide +kernel
theorem dX6_isRule_15 : decode cX6_isRule 15 = .ok (.ireturn, 1) := by decide +kernel
theorem dX6_headOf_0 : decode cX6_headOf 0 = .ok (.aload_n 0, 1) := by decide +kernel
theorem dX6_headOf_1 : decode cX6_headOf 1 = .ok (.getfield 7, 3) := by decide +kernel
theorem dX6_headOf_4 : decode cX6_headOf 4 = .ok (.iconst 2, 1) := by decide +kernel
theorem dX6_headOf_5 : decode cX6_headOf 5 = .ok (.iload_n 1, 1) := by decide +kernel
theorem dX6_headOf_6 : decode cX6_headOf 6 = .ok (.iadd, 1) := by decide +kernel
theorem dX6_headOf_7 : decode cX6_headOf 7 = .ok (.iaload, 1) := by decide +kernel
theorem dX6_headOf_8 : decode cX6_headOf 8 = .ok (.ireturn, 1) := by decide +kernel
theorem dX6_bodyOf_0 : decode cX6_bodyOf 0 = .ok (.aload_n 0, 1) := by decide +kernel
theorem dX6_bodyOf_1 : decode cX6_bodyOf 1 = .ok (.getfield 7, 3) := by decide +kernel
theorem dX6_bodyOf_4 : decode cX6_bodyOf 4 = .ok (.bipush 26, 2) := by decide +kernel
theorem dX6_bodyOf_6 : decode cX6_bodyOf 6 = .ok (.iload_n 1, 1) := by decide +kernel
theorem dX6_bodyOf_7 : decode cX6_bodyOf 7 = .ok (.iadd, 1) := by decide +kernel
theorem dX6_bodyOf_8 : decode cX6_bodyOf 8 = .ok (.iaload, 1) := by decide +kernel
theorem dX6_bodyOf_9 : decode cX6_bodyOf 9 = .ok (.ireturn, 1) := by decide +kernel
theorem dX6_adds_0 : decode cX6_adds 0 = .ok (.aload_n 0, 1) := by decide +kernel
theorem dX6_adds_1 : decode cX6_adds 1 = .ok (.getfield 7, 3) := by decide +kernel
theorem dX6_adds_4 : decode cX6_adds 4 = .ok (.iconst 2, 1) := by decide +kernel
theorem dX6_adds_5 : decode cX6_adds 5 = .ok (.aload_n 0, 1) := by decide +kernel
theorem dX6_adds_6 : decode cX6_adds 6 = .ok (.getfield 7, 3) := by decide +kernel
theorem dX6_adds_9 : decode cX6_adds 9 = .ok (.iconst 0, 1) := by decide +kernel
theorem dX6_adds_10 : decode cX6_adds 10 = .ok (.iaload, 1) := by decide +kernel
theorem dX6_adds_11 : decode cX6_adds 11 = .ok (.iadd, 1) := by decide +kernel
theorem dX6_adds_12 : decode cX6_adds 12 = .ok (.iload_n 1, 1) := by decide +kernel
theorem dX6_adds_13 : decode cX6_adds 13 = .ok (.iastore, 1) := by decide +kernel
theorem dX6_adds_14 : decode cX6_adds 14 = .ok (.aload_n 0, 1) := by decide +kernel
theorem dX6_adds_15 : decode cX6_adds 15 = .ok (.getfield 7, 3) := by decide +kernel
theorem dX6_adds_18 : decode cX6_adds 18 = .ok (.bipush 26, 2) := by decide +kernel
theorem dX6_adds_20 : decode cX6_adds 20 = .ok (.aload_n 0, 1) := by decide +kernel
theorem dX6_adds_21 : decode cX6_adds 21 = .ok (.getfield 7, 3) := by decide +kernel
theorem dX6_adds_24 : decode cX6_adds 24 = .ok (.iconst 0, 1) := by decide +kernel
theorem dX6_adds_25 : decode cX6_adds 25 = .ok (.iaload, 1) := by decide +kernel
theorem dX6_adds_26 : decode cX6_adds 26 = .ok (.iadd, 1) := by decide +kernel
theorem dX6_adds_27 : decode cX6_adds 27 = .ok (.iload_n 2, 1) := by decide +kernel
theorem dX6_adds_28 : decode cX6_adds 28 = .ok (.iastore, 1) := by decide +kernel
theorem dX6_adds_29 : decode cX6_adds 29 = .ok (.aload_n 0, 1) := by decide +kernel
theorem dX6_adds_30 : decode cX6_adds 30 = .ok (.getfield 7, 3) := by decide +kernel
theorem dX6_adds_33 : decode cX6_adds 33 = .ok (.iconst 0, 1) := by decide +kernel
theorem dX6_adds_34 : decode cX6_adds 34 = .ok (.dup2, 1) := by decide +kernel
theorem dX6_adds_35 : decode cX6_adds 35 = .ok (.iaload, 1) := by decide +kernel
theorem dX6_adds_36 : decode cX6_adds 36 = .ok (.iconst 1, 1) := by decide +kernel
theorem dX6_adds_37 : decode cX6_adds 37 = .ok (.iadd, 1) := by decide +kernel
theorem dX6_adds_38 : decode cX6_adds 38 = .ok (.iastore, 1) := by decide +kernel
theorem dX6_adds_39 : decode cX6_adds 39 = .ok (.return_, 1) := by decide +kernel
set_option maxRecDepth 20000 in
theorem ggX6_addRule_X6_isAtom : GoodIn wsX6_addRule wsX6_isAtom := goodIn_r _ [5, 6, 7, 8, 4, 9] (by decide +kernel) (by decide +kernel)
set_option maxRecDepth 20000 in
theorem gX6_addRule_X6_isAtom : GoodIn wsX6_addRule (va_wsS RX6 53 yX6_isAtom wsX6_isAtom) := goodIn_app (goodIn_of _ (by decide +kernel)) ggX6_addRule_X6_isAtom
set_option maxRecDepth 20000 in
theorem ggX6_addRule_X6_isBody : GoodIn wsX6_addRule wsX6_isBody := goodIn_r _ [12, 13, 7, 8, 4, 9, 14, 15, 16] (by decide +kernel) (by decide +kernel)
set_option maxRecDepth 20000 in
theorem gX6_addRule_X6_isBody : GoodIn wsX6_addRule (va_wsS RX6 57 yX6_isBody wsX6_isBody) := goodIn_app (goodIn_of _ (by decide +kernel)) ggX6_addRule_X6_isBody
set_option maxRecDepth 20000 in
theorem ggX6_addRule_X6_error : GoodIn wsX6_addRule wsX6_error := goodIn_r _ [20, 21, 32, 33, 34, 35, 36, 37, 38, 39, 40, 41, 42, 43, 44, 45, 46] (by decide +kernel) (by decide +kernel)
set_option maxRecDepth 20000 in
theorem gX6_addRule_X6_error : GoodIn wsX6_addRule (wsV RX6 60 RX6 yX6_error wsX6_error) := goodIn_app (goodIn_of _ (by decide +kernel)) ggX6_addRule_X6_error
set_option maxRecDepth 20000 in
theorem ggX6_addRule_X6_save : GoodIn wsX6_addRule wsX6_save := goodIn_r _ [25, 26, 27, 1, 32, 33, 34, 35, 36, 37, 38, 39, 40, 41, 42, 43, 44, 45, 46] (by decide +kernel) (by decide +kernel)
set_option maxRecDepth 20000 in
theorem gX6_addRule_X6_save : GoodIn wsX6_addRule (wsV RX6 63 RX6 yX6_save wsX6_save) := goodIn_app (goodIn_of _ (by decide +kernel)) ggX6_addRule_X6_save
set_option maxRecDepth 20000 in
theorem ggX6_addRule_X6_adds : GoodIn wsX6_addRule wsX6_adds := goodIn_r _ [31, 1, 32, 33, 34, 35, 36, 37, 38, 39, 40, 41, 42, 43, 44, 45, 46] (by decide +kernel) (by decide +kernel)
set_option maxRecDepth 20000 in
theorem gX6_addRule_X6_adds : GoodIn wsX6_addRule (wsV RX6 66 RX6 yX6_adds wsX6_adds) := goodIn_app (goodIn_of _ (by decide +kernel)) ggX6_addRule_X6_adds
theorem dX6_addRule_0 : decode cX6_addRule 0 = .ok (.iload_n 1, 1) := by decide +kernel
theorem dX6_addRule_1 : decode cX6_addRule 1 = .ok (.invokestatic 53, 3) := by decide +kernel
theorem dX6_addRule_4 : decode cX6_addRule 4 = .ok (.ifCond .eq 10, 3) := by decide +kernel
theorem dX6_addRule_7 : decode cX6_addRule 7 = .ok (.iload_n 2, 1) := by decide +kernel
theorem dX6_addRule_8 : decode cX6_addRule 8 = .ok (.invokestatic 57, 3) := by decide +kernel
theorem dX6_addRule_11 : decode cX6_addRule 11 = .ok (.ifCond .ne 10, 3) := by decide +kernel
theorem dX6_addRule_14 : decode cX6_addRule 14 = .ok (.aload_n 0, 1) := by decide +kernel
theorem dX6_addRule_15 : decode cX6_addRule 15 = .ok (.bipush (-2), 2) := by decide +kernel
theorem dX6_addRule_17 : decode cX6_addRule 17 = .ok (.invokevirtual 60, 3) := by decide +kernel
theorem dX6_addRule_20 : decode cX6_addRule 20 = .ok (.ireturn, 1) := by decide +kernel
theorem dX6_addRule_21 : decode cX6_addRule 21 = .ok (.aload_n 0, 1) := by decide +kernel
theorem dX6_addRule_22 : decode cX6_addRule 22 = .ok (.getfield 7, 3) := by decide +kernel
theorem dX6_addRule_25 : decode cX6_addRule 25 = .ok (.iconst 0, 1) := by decide +kernel
theorem dX6_addRule_26 : decode cX6_addRule 26 = .ok (.iaload, 1) := by decide +kernel
theorem dX6_addRule_27 : decode cX6_addRule 27 = .ok (.bipush 24, 2) := by decide +kernel
theorem dX6_addRule_29 : decode cX6_addRule 29 = .ok (.if_icmp .ne 10, 3) := by decide +kernel
theorem dX6_addRule_32 : decode cX6_addRule 32 = .ok (.aload_n 0, 1) := by decide +kernel
theorem dX6_addRule_33 : decode cX6_addRule 33 = .ok (.bipush (-4), 2) := by decide +kernel
theorem dX6_addRule_35 : decode cX6_addRule 35 = .ok (.invokevirtual 60, 3) := by decide +kernel
theorem dX6_addRule_38 : decode cX6_addRule 38 = .ok (.ireturn, 1) := by decide +kernel
theorem dX6_addRule_39 : decode cX6_addRule 39 = .ok (.aload_n 0, 1) := by decide +kernel
theorem dX6_addRule_40 : decode cX6_addRule 40 = .ok (.invokevirtual 63, 3) := by decide +kernel
theorem dX6_addRule_43 : decode cX6_addRule 43 = .ok (.aload_n 0, 1) := by decide +kernel
theorem dX6_addRule_44 : decode cX6_addRule 44 = .ok (.iload_n 1, 1) := by decide +kernel
theorem dX6_addRule_45 : decode cX6_addRule 45 = .ok (.iload_n 2, 1) := by decide +kernel
theorem dX6_addRule_46 : decode cX6_addRule 46 = .ok (.invokevirtual 66, 3) := by decide +kernel
theorem dX6_addRule_49 : decode cX6_addRule 49 = .ok (.aload_n 0, 1) := by decide +kernel
theorem dX6_addRule_50 : decode cX6_addRule 50 = .ok (.getfield 7, 3) := by decide +kernel
theorem dX6_addRule_53 : decode cX6_addRule 53 = .ok (.iconst 0, 1) := by decide +kernel
theorem dX6_addRule_54 : decode cX6_addRule 54 = .ok (.iaload, 1) := by decide +kernel
theorem dX6_addRule_55 : decode cX6_addRule 55 = .ok (.iconst 1, 1) := by decide +kernel
theorem dX6_addRule_56 : decode cX6_addRule 56 = .ok (.isub, 1) := by decide +kernel
theorem dX6_addRule_57 : decode cX6_addRule 57 = .ok (.ireturn, 1) := by decide +kernel
set_option maxRecDepth 20000 in
theorem ggX6_removeRule_X6_isRule : GoodIn wsX6_removeRule wsX6_isRule := goodIn_r _ [6, 1, 7, 8, 5, 9, 21, 22, 23, 24, 25, 26, 27, 28, 29, 30, 31, 32, 33, 34, 35] (by decide +kernel) (by decide +kernel)
set_option maxRecDepth 20000 in
theorem gX6_removeRule_X6_isRule : GoodIn wsX6_removeRule (wsV RX6 70 RX6 yX6_isRule wsX6_isRule) := goodIn_app (goodIn_of _ (by decide +kernel)) ggX6_removeRule_X6_isRule
set_option maxRecDepth 20000 in
theorem ggX6_removeRule_X6_error : GoodIn wsX6_removeRule wsX6_error := goodIn_r _ [13, 14, 21, 22, 23, 24, 25, 26, 27, 28, 29, 30, 31, 32, 33, 34, 35] (by decide +kernel) (by decide +kernel)
set_option maxRecDepth 20000 in
theorem gX6_removeRule_X6_error : GoodIn wsX6_removeRule (wsV RX6 60 RX6 yX6_error wsX6_error) := goodIn_app (goodIn_of _ (by decide +kernel)) ggX6_removeRule_X6_error
set_option maxRecDepth 20000 in
theorem ggX6_removeRule_X6_save : GoodIn wsX6_removeRule wsX6_save := goodIn_r _ [18, 19, 20, 1, 21, 22, 23, 24, 25, 26, 27, 28, 29, 30, 31, 32, 33, 34, 35] (by decide +kernel) (by decide +kernel)
set_option maxRecDepth 20000 in
theorem gX6_removeRule_X6_save : GoodIn wsX6_removeRule (wsV RX6 63 RX6 yX6_save wsX6_save) := goodIn_app (goodIn_of _ (by decide +kernel)) ggX6_removeRule_X6_save
theorem dX6_removeRule_0 : decode cX6_removeRule 0 = .ok (.aload_n 0, 1) := by decide +kernel
theorem dX6_removeRule_1 : decode cX6_removeRule 1 = .ok (.iload_n 1, 1) := by decide +kernel
theorem dX6_removeRule_2 : decode cX6_removeRule 2 = .ok (.invokevirtual 70, 3) := by decide +kernel
theorem dX6_removeRule_5 : decode cX6_removeRule 5 = .ok (.ifCond .ne 10, 3) := by decide +kernel
theorem dX6_removeRule_8 : decode cX6_removeRule 8 = .ok (.aload_n 0, 1) := by decide +kernel
theorem dX6_removeRule_9 : decode cX6_removeRule 9 = .ok (.bipush (-2), 2) := by decide +kernel
theorem dX6_removeRule_11 : decode cX6_removeRule 11 = .ok (.invokevirtual 60, 3) := by decide +kernel
theorem dX6_removeRule_14 : decode cX6_removeRule 14 = .ok (.ireturn, 1) := by decide +kernel
theorem dX6_removeRule_15 : decode cX6_removeRule 15 = .ok (.aload_n 0, 1) := by decide +kernel
theorem dX6_removeRule_16 : decode cX6_removeRule 16 = .ok (.invokevirtual 63, 3) := by decide +kernel
theorem dX6_removeRule_19 : decode cX6_removeRule 19 = .ok (.iload_n 1, 1) := by decide +kernel
theorem dX6_removeRule_20 : decode cX6_removeRule 20 = .ok (.istore_n 2, 1) := by decide +kernel
theorem dX6_removeRule_21 : decode cX6_removeRule 21 = .ok (.iload_n 2, 1) := by decide +kernel
theorem dX6_removeRule_22 : decode cX6_removeRule 22 = .ok (.bipush 23, 2) := by decide +kernel
theorem dX6_removeRule_24 : decode cX6_removeRule 24 = .ok (.if_icmp .ge 47, 3) := by decide +kernel
theorem dX6_removeRule_27 : decode cX6_removeRule 27 = .ok (.aload_n 0, 1) := by decide +kernel
theorem dX6_removeRule_28 : decode cX6_removeRule 28 = .ok (.getfield 7, 3) := by decide +kernel
theorem dX6_removeRule_31 : decode cX6_removeRule 31 = .ok (.iconst 2, 1) := by decide +kernel
theorem dX6_removeRule_32 : decode cX6_removeRule 32 = .ok (.iload_n 2, 1) := by decide +kernel
theorem dX6_removeRule_33 : decode cX6_removeRule 33 = .ok (.iadd, 1) := by decide +kernel
theorem dX6_removeRule_34 : decode cX6_removeRule 34 = .ok (.aload_n 0, 1) := by decide +kernel
theorem dX6_removeRule_35 : decode cX6_removeRule 35 = .ok (.getfield 7, 3) := by decide +kernel
theorem dX6_removeRule_38 : decode cX6_removeRule 38 = .ok (.iconst 2, 1) := by decide +kernel
theorem dX6_removeRule_39 : decode cX6_removeRule 39 = .ok (.iload_n 2, 1) := by decide +kernel
theorem dX6_removeRule_40 : decode cX6_removeRule 40 = .ok (.iadd, 1) := by decide +kernel
theorem dX6_removeRule_41 : decode cX6_removeRule 41 = .ok (.iconst 1, 1) := by decide +kernel
theorem dX6_removeRule_42 : decode cX6_removeRule 42 = .ok (.iadd, 1) := by decide +kernel
theorem dX6_removeRule_43 : decode cX6_removeRule 43 = .ok (.iaload, 1) := by decide +kernel
theorem dX6_removeRule_44 : decode cX6_removeRule 44 = .ok (.iastore, 1) := by decide +kernel
theorem dX6_removeRule_45 : decode cX6_removeRule 45 = .ok (.aload_n 0, 1) := by decide +kernel
theorem dX6_removeRule_46 : decode cX6_removeRule 46 = .ok (.getfield 7, 3) := by decide +kernel
theorem dX6_removeRule_49 : decode cX6_removeRule 49 = .ok (.bipush 26, 2) := by decide +kernel
theorem dX6_removeRule_51 : decode cX6_removeRule 51 = .ok (.iload_n 2, 1) := by decide +kernel
theorem dX6_removeRule_52 : decode cX6_removeRule 52 = .ok (.iadd, 1) := by decide +kernel
theorem dX6_removeRule_53 : decode cX6_removeRule 53 = .ok (.aload_n 0, 1) := by decide +kernel
theorem dX6_removeRule_54 : decode cX6_removeRule 54 = .ok (.getfield 7, 3) := by decide +kernel
theorem dX6_removeRule_57 : decode cX6_removeRule 57 = .ok (.bipush 26, 2) := by decide +kernel
theorem dX6_removeRule_59 : decode cX6_removeRule 59 = .ok (.iload_n 2, 1) := by decide +kernel
theorem dX6_removeRule_60 : decode cX6_removeRule 60 = .ok (.iadd, 1) := by decide +kernel
theorem dX6_removeRule_61 : decode cX6_removeRule 61 = .ok (.iconst 1, 1) := by decide +kernel
theorem dX6_removeRule_62 : decode cX6_removeRule 62 = .ok (.iadd, 1) := by decide +kernel
theorem dX6_removeRule_63 : decode cX6_removeRule 63 = .ok (.iaload, 1) := by decide +kernel
theorem dX6_removeRule_64 : decode cX6_removeRule 64 = .ok (.iastore, 1) := by decide +kernel
theorem dX6_removeRule_65 : decode cX6_removeRule 65 = .ok (.iinc 2 1, 3) := by decide +kernel
theorem dX6_removeRule_68 : decode cX6_removeRule 68 = .ok (.goto (-47), 3) := by decide +kernel
theorem dX6_removeRule_71 : decode cX6_removeRule 71 = .ok (.aload_n 0, 1) := by decide +kernel
theorem dX6_removeRule_72 : decode cX6_removeRule 72 = .ok (.getfield 7, 3) := by decide +kernel
theorem dX6_removeRule_75 : decode cX6_removeRule 75 = .ok (.iconst 0, 1) := by decide +kernel
theorem dX6_removeRule_76 : decode cX6_removeRule 76 = .ok (.dup2, 1) := by decide +kernel
theorem dX6_removeRule_77 : decode cX6_removeRule 77 = .ok (.iaload, 1) := by decide +kernel
theorem dX6_removeRule_78 : decode cX6_removeRule 78 = .ok (.iconst 1, 1) := by decide +kernel
theorem dX6_removeRule_79 : decode cX6_removeRule 79 = .ok (.isub, 1) := by decide +kernel
theorem dX6_removeRule_80 : decode cX6_removeRule 80 = .ok (.iastore, 1) := by decide +kernel
theorem dX6_removeRule_81 : decode cX6_removeRule 81 = .ok (.aload_n 0, 1) := by decide +kernel
theorem dX6_removeRule_82 : decode cX6_removeRule 82 = .ok (.getfield 7, 3) := by decide +kernel
theorem dX6_removeRule_85 : decode cX6_removeRule 85 = .ok (.iconst 0, 1) := by decide +kernel
theorem dX6_removeRule_86 : decode cX6_removeRule 86 = .ok (.iaload, 1) := by decide +kernel
theorem dX6_removeRule_87 : decode cX6_removeRule 87 = .ok (.ireturn, 1) := by decide +kernel
theorem dX6_rules_0 : decode cX6_rules 0 = .ok (.aload_n 0, 1) := by decide +kernel
theorem dX6_rules_1 : decode cX6_rules 1 = .ok (.getfield 7, 3) := by decide +kernel
theorem dX6_rules_4 : decode cX6_rules 4 = .ok (.iconst 0, 1) := by decide +kernel
theorem dX6_rules_5 : decode cX6_rules 5 = .ok (.iaload, 1) := by decide +kernel
theorem dX6_rules_6 : decode cX6_rules 6 = .ok (.ireturn, 1) := by decide +kernel
set_option maxRecDepth 20000 in
theorem ggX6_head_X6_isRule : GoodIn wsX6_head wsX6_isRule := goodIn_r _ [5, 6, 7, 8, 4, 9, 19, 20, 21, 22, 23, 24, 25, 26, 27, 28, 29, 30, 31, 32, 33] (by decide +kernel) (by decide +kernel)
set_option maxRecDepth 20000 in
theorem gX6_head_X6_isRule : GoodIn wsX6_head (wsV RX6 70 RX6 yX6_isRule wsX6_isRule) := goodIn_app (goodIn_of _ (by decide +kernel)) ggX6_head_X6_isRule
set_option maxRecDepth 20000 in
theorem ggX6_head_X6_headOf : GoodIn wsX6_head wsX6_headOf := goodIn_r _ [13, 6, 19, 20, 21, 22, 23, 24, 25, 26, 27, 28, 29, 30, 31, 32, 33] (by decide +kernel) (by decide +kernel)
set_option maxRecDepth 20000 in
theorem gX6_head_X6_headOf : GoodIn wsX6_head (wsV RX6 73 RX6 yX6_headOf wsX6_headOf) := goodIn_app (goodIn_of _ (by decide +kernel)) ggX6_head_X6_headOf
set_option maxRecDepth 20000 in
theorem ggX6_head_X6_error : GoodIn wsX6_head wsX6_error := goodIn_r _ [17, 18, 19, 20, 21, 22, 23, 24, 25, 26, 27, 28, 29, 30, 31, 32, 33] (by decide +kernel) (by decide +kernel)
set_option maxRecDepth 20000 in
theorem gX6_head_X6_error : GoodIn wsX6_head (wsV RX6 60 RX6 yX6_error wsX6_error) := goodIn_app (goodIn_of _ (by decide +kernel)) ggX6_head_X6_error
theorem dX6_head_0 : decode cX6_head 0 = .ok (.aload_n 0, 1) := by decide +kernel
theorem dX6_head_1 : decode cX6_head 1 = .ok (.iload_n 1, 1) := by decide +kernel
theorem dX6_head_2 : decode cX6_head 2 = .ok (.invokevirtual 70, 3) := by decide +kernel
theorem dX6_head_5 : decode cX6_head 5 = .ok (.ifCond .eq 11, 3) := by decide +kernel
theorem dX6_head_8 : decode cX6_head 8 = .ok (.aload_n 0, 1) := by decide +kernel
theorem dX6_head_9 : decode cX6_head 9 = .ok (.iload_n 1, 1) := by decide +kernel
theorem dX6_head_10 : decode cX6_head 10 = .ok (.invokevirtual 73, 3) := by decide +kernel
theorem dX6_head_13 : decode cX6_head 13 = .ok (.goto 9, 3) := by decide +kernel
theorem dX6_head_16 : decode cX6_head 16 = .ok (.aload_n 0, 1) := by decide +kernel
theorem dX6_head_17 : decode cX6_head 17 = .ok (.bipush (-2), 2) := by decide +kernel
theorem dX6_head_19 : decode cX6_head 19 = .ok (.invokevirtual 60, 3) := by decide +kernel
theorem dX6_head_22 : decode cX6_head 22 = .ok (.ireturn, 1) := by decide +kernel
set_option maxRecDepth 20000 in
theorem ggX6_body_X6_isRule : GoodIn wsX6_body wsX6_isRule := goodIn_r _ [5, 6, 7, 8, 4, 9, 19, 20, 21, 22, 23, 24, 25, 26, 27, 28, 29, 30, 31, 32, 33] (by decide +kernel) (by decide +kernel)
set_option maxRecDepth 20000 in
theorem gX6_body_X6_isRule : GoodIn wsX6_body (wsV RX6 70 RX6 yX6_isRule wsX6_isRule) := goodIn_app (goodIn_of _ (by decide +kernel)) ggX6_body_X6_isRule
set_option maxRecDepth 20000 in
theorem ggX6_body_X6_bodyOf : GoodIn wsX6_body wsX6_bodyOf := goodIn_r _ [13, 6, 19, 20, 21, 22, 23, 24, 25, 26, 27, 28, 29, 30, 31, 32, 33] (by decide +kernel) (by decide +kernel)
set_option maxRecDepth 20000 in
theorem gX6_body_X6_bodyOf : GoodIn wsX6_body (wsV RX6 76 RX6 yX6_bodyOf wsX6_bodyOf) := goodIn_app (goodIn_of _ (by decide +kernel)) ggX6_body_X6_bodyOf
set_option maxRecDepth 20000 in
theorem ggX6_body_X6_error : GoodIn wsX6_body wsX6_error := goodIn_r _ [17, 18, 19, 20, 21, 22, 23, 24, 25, 26, 27, 28, 29, 30, 31, 32, 33] (by decide +kernel) (by decide +kernel)
set_option maxRecDepth 20000 in
theorem gX6_body_X6_error : GoodIn wsX6_body (wsV RX6 60 RX6 yX6_error wsX6_error) := goodIn_app (goodIn_of _ (by decide +kernel)) ggX6_body_X6_error
theorem dX6_body_0 : decode cX6_body 0 = .ok (.aload_n 0, 1) := by decide +kernel
theorem dX6_body_1 : decode cX6_body 1 = .ok (.iload_n 1, 1) := by decide +kernel
theorem dX6_body_2 : decode cX6_body 2 = .ok (.invokevirtual 70, 3) := by decide +kernel
theorem dX6_body_5 : decode cX6_body 5 = .ok (.ifCond .eq 11, 3) := by decide +kernel
theorem dX6_body_8 : decode cX6_body 8 = .ok (.aload_n 0, 1) := by decide +kernel
theorem dX6_body_9 : decode cX6_body 9 = .ok (.iload_n 1, 1) := by decide +kernel
theorem dX6_body_10 : decode cX6_body 10 = .ok (.invokevirtual 76, 3) := by decide +kernel
theorem dX6_body_13 : decode cX6_body 13 = .ok (.goto 9, 3) := by decide +kernel
theorem dX6_body_16 : decode cX6_body 16 = .ok (.aload_n 0, 1) := by decide +kernel
theorem dX6_body_17 : decode cX6_body 17 = .ok (.bipush (-2), 2) := by decide +kernel
theorem dX6_body_19 : decode cX6_body 19 = .ok (.invokevirtual 60, 3) := by decide +kernel
theorem dX6_body_22 : decode cX6_body 22 = .ok (.ireturn, 1) := by decide +kernel
theorem dX6_everyRule_0 : decode cX6_everyRule 0 = .ok (.iconst 1, 1) := by decide +kernel
theorem dX6_everyRule_1 : decode cX6_everyRule 1 = .ok (.aload_n 0, 1) := by decide +kernel
theorem dX6_everyRule_2 : decode cX6_everyRule 2 = .ok (.getfield 7, 3) := by decide +kernel
theorem dX6_everyRule_5 : decode cX6_everyRule 5 = .ok (.iconst 0, 1) := by decide +kernel
theorem dX6_everyRule_6 : decode cX6_everyRule 6 = .ok (.iaload, 1) := by decide +kernel
theorem dX6_everyRule_7 : decode cX6_everyRule 7 = .ok (.ishl, 1) := by decide +kernel
theorem dX6_everyRule_8 : decode cX6_everyRule 8 = .ok (.iconst 1, 1) := by decide +kernel
theorem dX6_everyRule_9 : decode cX6_everyRule 9 = .ok (.isub, 1) := by decide +kernel
theorem dX6_everyRule_10 : decode cX6_everyRule 10 = .ok (.ireturn, 1) := by decide +kernel
set_option maxRecDepth 20000 in
theorem ggX6_modelOf_X6_bodyOf : GoodIn wsX6_modelOf wsX6_bodyOf := goodIn_r _ [6, 1, 11, 12, 13, 14, 15, 16, 17, 18, 19, 20, 21, 22, 23, 24, 25] (by decide +kernel) (by decide +kernel)
set_option maxRecDepth 20000 in
theorem gX6_modelOf_X6_bodyOf : GoodIn wsX6_modelOf (wsV RX6 76 RX6 yX6_bodyOf wsX6_bodyOf) := goodIn_app (goodIn_of _ (by decide +kernel)) ggX6_modelOf_X6_bodyOf
set_option maxRecDepth 20000 in
theorem ggX6_modelOf_X6_headOf : GoodIn wsX6_modelOf wsX6_headOf := goodIn_r _ [10, 1, 11, 12, 13, 14, 15, 16, 17, 18, 19, 20, 21, 22, 23, 24, 25] (by decide +kernel) (by decide +kernel)
set_option maxRecDepth 20000 in
theorem gX6_modelOf_X6_headOf : GoodIn wsX6_modelOf (wsV RX6 73 RX6 yX6_headOf wsX6_headOf) := goodIn_app (goodIn_of _ (by decide +kernel)) ggX6_modelOf_X6_headOf
theorem dX6_modelOf_0 : decode cX6_modelOf 0 = .ok (.iload_n 2, 1) := by decide +kernel
theorem dX6_modelOf_1 : decode cX6_modelOf 1 = .ok (.istore_n 3, 1) := by decide +kernel
theorem dX6_modelOf_2 : decode cX6_modelOf 2 = .ok (.iconst (-1), 1) := by decide +kernel
theorem dX6_modelOf_3 : decode cX6_modelOf 3 = .ok (.istore 4, 2) := by decide +kernel
theorem dX6_modelOf_5 : decode cX6_modelOf 5 = .ok (.iload 4, 2) := by decide +kernel
theorem dX6_modelOf_7 : decode cX6_modelOf 7 = .ok (.iload_n 3, 1) := by decide +kernel
theorem dX6_modelOf_8 : decode cX6_modelOf 8 = .ok (.if_icmp .eq 67, 3) := by decide +kernel
theorem dX6_modelOf_11 : decode cX6_modelOf 11 = .ok (.iload_n 3, 1) := by decide +kernel
theorem dX6_modelOf_12 : decode cX6_modelOf 12 = .ok (.istore 4, 2) := by decide +kernel
theorem dX6_modelOf_14 : decode cX6_modelOf 14 = .ok (.iconst 0, 1) := by decide +kernel
theorem dX6_modelOf_15 : decode cX6_modelOf 15 = .ok (.istore 5, 2) := by decide +kernel
theorem dX6_modelOf_17 : decode cX6_modelOf 17 = .ok (.iload 5, 2) := by decide +kernel
theorem dX6_modelOf_19 : decode cX6_modelOf 19 = .ok (.aload_n 0, 1) := by decide +kernel
theorem dX6_modelOf_20 : decode cX6_modelOf 20 = .ok (.getfield 7, 3) := by decide +kernel
theorem dX6_modelOf_23 : decode cX6_modelOf 23 = .ok (.iconst 0, 1) := by decide +kernel
theorem dX6_modelOf_24 : decode cX6_modelOf 24 = .ok (.iaload, 1) := by decide +kernel
theorem dX6_modelOf_25 : decode cX6_modelOf 25 = .ok (.if_icmp .ge 47, 3) := by decide +kernel
theorem dX6_modelOf_28 : decode cX6_modelOf 28 = .ok (.iload_n 3, 1) := by decide +kernel
theorem dX6_modelOf_29 : decode cX6_modelOf 29 = .ok (.iload_n 1, 1) := by decide +kernel
theorem dX6_modelOf_30 : decode cX6_modelOf 30 = .ok (.iload 5, 2) := by decide +kernel
theorem dX6_modelOf_32 : decode cX6_modelOf 32 = .ok (.ishr, 1) := by decide +kernel
theorem dX6_modelOf_33 : decode cX6_modelOf 33 = .ok (.iconst 1, 1) := by decide +kernel
theorem dX6_modelOf_34 : decode cX6_modelOf 34 = .ok (.iand, 1) := by decide +kernel
theorem dX6_modelOf_35 : decode cX6_modelOf 35 = .ok (.iconst 1, 1) := by decide +kernel
theorem dX6_modelOf_36 : decode cX6_modelOf 36 = .ok (.if_icmp .ne 27, 3) := by decide +kernel
theorem dX6_modelOf_39 : decode cX6_modelOf 39 = .ok (.aload_n 0, 1) := by decide +kernel
theorem dX6_modelOf_40 : decode cX6_modelOf 40 = .ok (.iload 5, 2) := by decide +kernel
theorem dX6_modelOf_42 : decode cX6_modelOf 42 = .ok (.invokevirtual 76, 3) := by decide +kernel
theorem dX6_modelOf_45 : decode cX6_modelOf 45 = .ok (.iload_n 3, 1) := by decide +kernel
theorem dX6_modelOf_46 : decode cX6_modelOf 46 = .ok (.iconst (-1), 1) := by decide +kernel
theorem dX6_modelOf_47 : decode cX6_modelOf 47 = .ok (.ixor, 1) := by decide +kernel
theorem dX6_modelOf_48 : decode cX6_modelOf 48 = .ok (.iand, 1) := by decide +kernel
theorem dX6_modelOf_49 : decode cX6_modelOf 49 = .ok (.ifCond .ne 14, 3) := by decide +kernel
theorem dX6_modelOf_52 : decode cX6_modelOf 52 = .ok (.iconst 1, 1) := by decide +kernel
theorem dX6_modelOf_53 : decode cX6_modelOf 53 = .ok (.aload_n 0, 1) := by decide +kernel
theorem dX6_modelOf_54 : decode cX6_modelOf 54 = .ok (.iload 5, 2) := by decide +kernel
theorem dX6_modelOf_56 : decode cX6_modelOf 56 = .ok (.invokevirtual 73, 3) := by decide +kernel
theorem dX6_modelOf_59 : decode cX6_modelOf 59 = .ok (.ishl, 1) := by decide +kernel
theorem dX6_modelOf_60 : decode cX6_modelOf 60 = .ok (.goto 4, 3) := by decide +kernel
theorem dX6_modelOf_63 : decode cX6_modelOf 63 = .ok (.iconst 0, 1) := by decide +kernel
theorem dX6_modelOf_64 : decode cX6_modelOf 64 = .ok (.ior, 1) := by decide +kernel
theorem dX6_modelOf_65 : decode cX6_modelOf 65 = .ok (.istore_n 3, 1) := by decide +kernel
theorem dX6_modelOf_66 : decode cX6_modelOf 66 = .ok (.iinc 5 1, 3) := by decide +kernel
theorem dX6_modelOf_69 : decode cX6_modelOf 69 = .ok (.goto (-52), 3) := by decide +kernel
theorem dX6_modelOf_72 : decode cX6_modelOf 72 = .ok (.goto (-67), 3) := by decide +kernel
theorem dX6_modelOf_75 : decode cX6_modelOf 75 = .ok (.iload_n 3, 1) := by decide +kernel
theorem dX6_modelOf_76 : decode cX6_modelOf 76 = .ok (.ireturn, 1) := by decide +kernel
set_option maxRecDepth 20000 in
theorem ggX6_whole_X6_everyRule : GoodIn wsX6_whole wsX6_everyRule := goodIn_r _ [5, 6, 19, 20, 21, 22, 23, 24, 25, 26, 27, 28, 29, 30, 31, 32, 33] (by decide +kernel) (by decide +kernel)
set_option maxRecDepth 20000 in
theorem gX6_whole_X6_everyRule : GoodIn wsX6_whole (wsV RX6 79 RX6 yX6_everyRule wsX6_everyRule) := goodIn_app (goodIn_of _ (by decide +kernel)) ggX6_whole_X6_everyRule
set_option maxRecDepth 20000 in
theorem ggX6_whole_X6_modelOf : GoodIn wsX6_whole wsX6_modelOf := goodIn_r _ [10, 6, 11, 12, 13, 4, 14, 15, 16, 17, 18, 19, 20, 21, 22, 23, 24, 25, 26, 27, 28, 29, 30, 31, 32, 33] (by decide +kernel) (by decide +kernel)
set_option maxRecDepth 20000 in
theorem gX6_whole_X6_modelOf : GoodIn wsX6_whole (wsV RX6 83 RX6 yX6_modelOf wsX6_modelOf) := goodIn_app (goodIn_of _ (by decide +kernel)) ggX6_whole_X6_modelOf
theorem dX6_whole_0 : decode cX6_whole 0 = .ok (.aload_n 0, 1) := by decide +kernel
theorem dX6_whole_1 : decode cX6_whole 1 = .ok (.aload_n 0, 1) := by decide +kernel
theorem dX6_whole_2 : decode cX6_whole 2 = .ok (.invokevirtual 79, 3) := by decide +kernel
theorem dX6_whole_5 : decode cX6_whole 5 = .ok (.iconst 0, 1) := by decide +kernel
theorem dX6_whole_6 : decode cX6_whole 6 = .ok (.invokevirtual 83, 3) := by decide +kernel
theorem dX6_whole_9 : decode cX6_whole 9 = .ok (.ireturn, 1) := by decide +kernel
set_option maxRecDepth 20000 in
theorem ggX6_model_X6_whole : GoodIn wsX6_model wsX6_whole := goodIn_r _ [5, 6, 7, 8, 4, 9, 10, 11, 12, 13, 14, 15, 16, 17, 18, 19, 20, 21, 22, 23, 24, 25, 26, 27, 28, 29, 30, 31, 32, 33, 34, 35, 36, 37] (by decide +kernel) (by decide +kernel)
set_option maxRecDepth 20000 in
theorem gX6_model_X6_whole : GoodIn wsX6_model (wsV RX6 87 RX6 yX6_whole wsX6_whole) := goodIn_app (goodIn_of _ (by decide +kernel)) ggX6_model_X6_whole
theorem dX6_model_0 : decode cX6_model 0 = .ok (.aload_n 0, 1) := by decide +kernel
theorem dX6_model_1 : decode cX6_model 1 = .ok (.invokevirtual 87, 3) := by decide +kernel
theorem dX6_model_4 : decode cX6_model 4 = .ok (.ireturn, 1) := by decide +kernel
set_option maxRecDepth 20000 in
theorem ggX6_fires_X6_headOf : GoodIn wsX6_fires wsX6_headOf := goodIn_r _ [9, 10, 11, 12, 13, 14, 15, 16, 17, 18, 19, 20, 21, 22, 23, 24, 25] (by decide +kernel) (by decide +kernel)
set_option maxRecDepth 20000 in
theorem gX6_fires_X6_headOf : GoodIn wsX6_fires (wsV RX6 73 RX6 yX6_headOf wsX6_headOf) := goodIn_app (goodIn_of _ (by decide +kernel)) ggX6_fires_X6_headOf
theorem dX6_fires_0 : decode cX6_fires 0 = .ok (.aload_n 0, 1) := by decide +kernel
theorem dX6_fires_1 : decode cX6_fires 1 = .ok (.getfield 25, 3) := by decide +kernel
theorem dX6_fires_4 : decode cX6_fires 4 = .ok (.aload_n 0, 1) := by decide +kernel
theorem dX6_fires_5 : decode cX6_fires 5 = .ok (.getfield 90, 3) := by decide +kernel
theorem dX6_fires_8 : decode cX6_fires 8 = .ok (.iload_n 1, 1) := by decide +kernel
theorem dX6_fires_9 : decode cX6_fires 9 = .ok (.iastore, 1) := by decide +kernel
theorem dX6_fires_10 : decode cX6_fires 10 = .ok (.aload_n 0, 1) := by decide +kernel
theorem dX6_fires_11 : decode cX6_fires 11 = .ok (.dup, 1) := by decide +kernel
theorem dX6_fires_12 : decode cX6_fires 12 = .ok (.getfield 90, 3) := by decide +kernel
theorem dX6_fires_15 : decode cX6_fires 15 = .ok (.iconst 1, 1) := by decide +kernel
theorem dX6_fires_16 : decode cX6_fires 16 = .ok (.iadd, 1) := by decide +kernel
theorem dX6_fires_17 : decode cX6_fires 17 = .ok (.putfield 90, 3) := by decide +kernel
theorem dX6_fires_20 : decode cX6_fires 20 = .ok (.iconst 0, 1) := by decide +kernel
theorem dX6_fires_21 : decode cX6_fires 21 = .ok (.istore_n 2, 1) := by decide +kernel
theorem dX6_fires_22 : decode cX6_fires 22 = .ok (.iconst 0, 1) := by decide +kernel
theorem dX6_fires_23 : decode cX6_fires 23 = .ok (.istore_n 3, 1) := by decide +kernel
theorem dX6_fires_24 : decode cX6_fires 24 = .ok (.iload_n 3, 1) := by decide +kernel
theorem dX6_fires_25 : decode cX6_fires 25 = .ok (.aload_n 0, 1) := by decide +kernel
theorem dX6_fires_26 : decode cX6_fires 26 = .ok (.getfield 93, 3) := by decide +kernel
theorem dX6_fires_29 : decode cX6_fires 29 = .ok (.if_icmp .ge 33, 3) := by decide +kernel
theorem dX6_fires_32 : decode cX6_fires 32 = .ok (.iload_n 2, 1) := by decide +kernel
theorem dX6_fires_33 : decode cX6_fires 33 = .ok (.ifCond .ne 17, 3) := by decide +kernel
theorem dX6_fires_36 : decode cX6_fires 36 = .ok (.aload_n 0, 1) := by decide +kernel
theorem dX6_fires_37 : decode cX6_fires 37 = .ok (.getfield 22, 3) := by decide +kernel
theorem dX6_fires_40 : decode cX6_fires 40 = .ok (.iload_n 3, 1) := by decide +kernel
theorem dX6_fires_41 : decode cX6_fires 41 = .ok (.iaload, 1) := by decide +kernel
theorem dX6_fires_42 : decode cX6_fires 42 = .ok (.aload_n 0, 1) := by decide +kernel
theorem dX6_fires_43 : decode cX6_fires 43 = .ok (.iload_n 1, 1) := by decide +kernel
theorem dX6_fires_44 : decode cX6_fires 44 = .ok (.invokevirtual 73, 3) := by decide +kernel
theorem dX6_fires_47 : decode cX6_fires 47 = .ok (.if_icmp .ne 7, 3) := by decide +kernel
theorem dX6_fires_50 : decode cX6_fires 50 = .ok (.iconst 1, 1) := by decide +kernel
theorem dX6_fires_51 : decode cX6_fires 51 = .ok (.goto 4, 3) := by decide +kernel
theorem dX6_fires_54 : decode cX6_fires 54 = .ok (.iconst 0, 1) := by decide +kernel
theorem dX6_fires_55 : decode cX6_fires 55 = .ok (.istore_n 2, 1) := by decide +kernel
theorem dX6_fires_56 : decode cX6_fires 56 = .ok (.iinc 3 1, 3) := by decide +kernel
theorem dX6_fires_59 : decode cX6_fires 59 = .ok (.goto (-35), 3) := by decide +kernel
theorem dX6_fires_62 : decode cX6_fires 62 = .ok (.iload_n 2, 1) := by decide +kernel
theorem dX6_fires_63 : decode cX6_fires 63 = .ok (.ifCond .ne 27, 3) := by decide +kernel
theorem dX6_fires_66 : decode cX6_fires 66 = .ok (.aload_n 0, 1) := by decide +kernel
theorem dX6_fires_67 : decode cX6_fires 67 = .ok (.getfield 22, 3) := by decide +kernel
theorem dX6_fires_70 : decode cX6_fires 70 = .ok (.aload_n 0, 1) := by decide +kernel
theorem dX6_fires_71 : decode cX6_fires 71 = .ok (.getfield 93, 3) := by decide +kernel
theorem dX6_fires_74 : decode cX6_fires 74 = .ok (.aload_n 0, 1) := by decide +kernel
theorem dX6_fires_75 : decode cX6_fires 75 = .ok (.iload_n 1, 1) := by decide +kernel
theorem dX6_fires_76 : decode cX6_fires 76 = .ok (.invokevirtual 73, 3) := by decide +kernel
theorem dX6_fires_79 : decode cX6_fires 79 = .ok (.iastore, 1) := by decide +kernel
theorem dX6_fires_80 : decode cX6_fires 80 = .ok (.aload_n 0, 1) := by decide +kernel
theorem dX6_fires_81 : decode cX6_fires 81 = .ok (.dup, 1) := by decide +kernel
theorem dX6_fires_82 : decode cX6_fires 82 = .ok (.getfield 93, 3) := by decide +kernel
theorem dX6_fires_85 : decode cX6_fires 85 = .ok (.iconst 1, 1) := by decide +kernel
theorem dX6_fires_86 : decode cX6_fires 86 = .ok (.iadd, 1) := by decide +kernel
theorem dX6_fires_87 : decode cX6_fires 87 = .ok (.putfield 93, 3) := by decide +kernel
theorem dX6_fires_90 : decode cX6_fires 90 = .ok (.return_, 1) := by decide +kernel
set_option maxRecDepth 20000 in
theorem ggX6_propagates_X6_bodyOf : GoodIn wsX6_propagates wsX6_bodyOf := goodIn_r _ [10, 3, 23, 24, 25, 26, 27, 28, 29, 30, 31, 32, 33, 34, 35, 36, 37] (by decide +kernel) (by decide +kernel)
set_option maxRecDepth 20000 in
theorem gX6_propagates_X6_bodyOf : GoodIn wsX6_propagates (wsV RX6 76 RX6 yX6_bodyOf wsX6_bodyOf) := goodIn_app (goodIn_of _ (by decide +kernel)) ggX6_propagates_X6_bodyOf
set_option maxRecDepth 20000 in
theorem ggX6_propagates_X6_size : GoodIn wsX6_propagates wsX6_size := goodIn_r _ [13] (by decide +kernel) (by decide +kernel)
set_option maxRecDepth 20000 in
theorem gX6_propagates_X6_size : GoodIn wsX6_propagates (va_wsS RX6 49 yX6_size wsX6_size) := goodIn_app (goodIn_of _ (by decide +kernel)) ggX6_propagates_X6_size
set_option maxRecDepth 20000 in
theorem ggX6_propagates_X6_fires : GoodIn wsX6_propagates wsX6_fires := goodIn_r _ [17, 18, 2, 1, 5, 19, 20, 21, 9, 22, 3, 23, 24, 25, 26, 27, 28, 29, 30, 31, 32, 33, 34, 35, 36, 37] (by decide +kernel) (by decide +kernel)
set_option maxRecDepth 20000 in
theorem gX6_propagates_X6_fires : GoodIn wsX6_propagates (wsV RX6 96 RX6 yX6_fires wsX6_fires) := goodIn_app (goodIn_of _ (by decide +kernel)) ggX6_propagates_X6_fires
theorem dX6_propagates_0 : decode cX6_propagates 0 = .ok (.aload_n 0, 1) := by decide +kernel
theorem dX6_propagates_1 : decode cX6_propagates 1 = .ok (.iconst 0, 1) := by decide +kernel
theorem dX6_propagates_2 : decode cX6_propagates 2 = .ok (.putfield 93, 3) := by decide +kernel
theorem dX6_propagates_5 : decode cX6_propagates 5 = .ok (.aload_n 0, 1) := by decide +kernel
theorem dX6_propagates_6 : decode cX6_propagates 6 = .ok (.iconst 0, 1) := by decide +kernel
theorem dX6_propagates_7 : decode cX6_propagates 7 = .ok (.putfield 90, 3) := by decide +kernel
theorem dX6_propagates_10 : decode cX6_propagates 10 = .ok (.iconst 0, 1) := by decide +kernel
theorem dX6_propagates_11 : decode cX6_propagates 11 = .ok (.istore_n 1, 1) := by decide +kernel
theorem dX6_propagates_12 : decode cX6_propagates 12 = .ok (.iload_n 1, 1) := by decide +kernel
theorem dX6_propagates_13 : decode cX6_propagates 13 = .ok (.aload_n 0, 1) := by decide +kernel
theorem dX6_propagates_14 : decode cX6_propagates 14 = .ok (.getfield 7, 3) := by decide +kernel
theorem dX6_propagates_17 : decode cX6_propagates 17 = .ok (.iconst 0, 1) := by decide +kernel
theorem dX6_propagates_18 : decode cX6_propagates 18 = .ok (.iaload, 1) := by decide +kernel
theorem dX6_propagates_19 : decode cX6_propagates 19 = .ok (.if_icmp .ge 37, 3) := by decide +kernel
theorem dX6_propagates_22 : decode cX6_propagates 22 = .ok (.aload_n 0, 1) := by decide +kernel
theorem dX6_propagates_23 : decode cX6_propagates 23 = .ok (.getfield 28, 3) := by decide +kernel
theorem dX6_propagates_26 : decode cX6_propagates 26 = .ok (.iload_n 1, 1) := by decide +kernel
theorem dX6_propagates_27 : decode cX6_propagates 27 = .ok (.aload_n 0, 1) := by decide +kernel
theorem dX6_propagates_28 : decode cX6_propagates 28 = .ok (.iload_n 1, 1) := by decide +kernel
theorem dX6_propagates_29 : decode cX6_propagates 29 = .ok (.invokevirtual 76, 3) := by decide +kernel
theorem dX6_propagates_32 : decode cX6_propagates 32 = .ok (.invokestatic 49, 3) := by decide +kernel
theorem dX6_propagates_35 : decode cX6_propagates 35 = .ok (.iastore, 1) := by decide +kernel
theorem dX6_propagates_36 : decode cX6_propagates 36 = .ok (.aload_n 0, 1) := by decide +kernel
theorem dX6_propagates_37 : decode cX6_propagates 37 = .ok (.getfield 28, 3) := by decide +kernel
theorem dX6_propagates_40 : decode cX6_propagates 40 = .ok (.iload_n 1, 1) := by decide +kernel
theorem dX6_propagates_41 : decode cX6_propagates 41 = .ok (.iaload, 1) := by decide +kernel
theorem dX6_propagates_42 : decode cX6_propagates 42 = .ok (.ifCond .ne 8, 3) := by decide +kernel
theorem dX6_propagates_45 : decode cX6_propagates 45 = .ok (.aload_n 0, 1) := by decide +kernel
theorem dX6_propagates_46 : decode cX6_propagates 46 = .ok (.iload_n 1, 1) := by decide +kernel
theorem dX6_propagates_47 : decode cX6_propagates 47 = .ok (.invokevirtual 96, 3) := by decide +kernel
theorem dX6_propagates_50 : decode cX6_propagates 50 = .ok (.iinc 1 1, 3) := by decide +kernel
theorem dX6_propagates_53 : decode cX6_propagates 53 = .ok (.goto (-41), 3) := by decide +kernel
theorem dX6_propagates_56 : decode cX6_propagates 56 = .ok (.iconst 0, 1) := by decide +kernel
theorem dX6_propagates_57 : decode cX6_propagates 57 = .ok (.istore_n 1, 1) := by decide +kernel
theorem dX6_propagates_58 : decode cX6_propagates 58 = .ok (.iload_n 1, 1) := by decide +kernel
theorem dX6_propagates_59 : decode cX6_propagates 59 = .ok (.aload_n 0, 1) := by decide +kernel
theorem dX6_propagates_60 : decode cX6_propagates 60 = .ok (.getfield 93, 3) := by decide +kernel
theorem dX6_propagates_63 : decode cX6_propagates 63 = .ok (.if_icmp .ge 69, 3) := by decide +kernel
theorem dX6_propagates_66 : decode cX6_propagates 66 = .ok (.iconst 0, 1) := by decide +kernel
theorem dX6_propagates_67 : decode cX6_propagates 67 = .ok (.istore_n 2, 1) := by decide +kernel
theorem dX6_propagates_68 : decode cX6_propagates 68 = .ok (.iload_n 2, 1) := by decide +kernel
theorem dX6_propagates_69 : decode cX6_propagates 69 = .ok (.aload_n 0, 1) := by decide +kernel
theorem dX6_propagates_70 : decode cX6_propagates 70 = .ok (.getfield 7, 3) := by decide +kernel
theorem dX6_propagates_73 : decode cX6_propagates 73 = .ok (.iconst 0, 1) := by decide +kernel
theorem dX6_propagates_74 : decode cX6_propagates 74 = .ok (.iaload, 1) := by decide +kernel
theorem dX6_propagates_75 : decode cX6_propagates 75 = .ok (.if_icmp .ge 51, 3) := by decide +kernel
theorem dX6_propagates_78 : decode cX6_propagates 78 = .ok (.aload_n 0, 1) := by decide +kernel
theorem dX6_propagates_79 : decode cX6_propagates 79 = .ok (.iload_n 2, 1) := by decide +kernel
theorem dX6_propagates_80 : decode cX6_propagates 80 = .ok (.invokevirtual 76, 3) := by decide +kernel
theorem dX6_propagates_83 : decode cX6_propagates 83 = .ok (.aload_n 0, 1) := by decide +kernel
theorem dX6_propagates_84 : decode cX6_propagates 84 = .ok (.getfield 22, 3) := by decide +kernel
theorem dX6_propagates_87 : decode cX6_propagates 87 = .ok (.iload_n 1, 1) := by decide +kernel
theorem dX6_propagates_88 : decode cX6_propagates 88 = .ok (.iaload, 1) := by decide +kernel
theorem dX6_propagates_89 : decode cX6_propagates 89 = .ok (.ishr, 1) := by decide +kernel
theorem dX6_propagates_90 : decode cX6_propagates 90 = .ok (.iconst 1, 1) := by decide +kernel
theorem dX6_propagates_91 : decode cX6_propagates 91 = .ok (.iand, 1) := by decide +kernel
theorem dX6_propagates_92 : decode cX6_propagates 92 = .ok (.iconst 1, 1) := by decide +kernel
theorem dX6_propagates_93 : decode cX6_propagates 93 = .ok (.if_icmp .ne 27, 3) := by decide +kernel
theorem dX6_propagates_96 : decode cX6_propagates 96 = .ok (.aload_n 0, 1) := by decide +kernel
theorem dX6_propagates_97 : decode cX6_propagates 97 = .ok (.getfield 28, 3) := by decide +kernel
theorem dX6_propagates_100 : decode cX6_propagates 100 = .ok (.iload_n 2, 1) := by decide +kernel
theorem dX6_propagates_101 : decode cX6_propagates 101 = .ok (.dup2, 1) := by decide +kernel
theorem dX6_propagates_102 : decode cX6_propagates 102 = .ok (.iaload, 1) := by decide +kernel
theorem dX6_propagates_103 : decode cX6_propagates 103 = .ok (.iconst 1, 1) := by decide +kernel
theorem dX6_propagates_104 : decode cX6_propagates 104 = .ok (.isub, 1) := by decide +kernel
theorem dX6_propagates_105 : decode cX6_propagates 105 = .ok (.iastore, 1) := by decide +kernel
theorem dX6_propagates_106 : decode cX6_propagates 106 = .ok (.aload_n 0, 1) := by decide +kernel
theorem dX6_propagates_107 : decode cX6_propagates 107 = .ok (.getfield 28, 3) := by decide +kernel
theorem dX6_propagates_110 : decode cX6_propagates 110 = .ok (.iload_n 2, 1) := by decide +kernel
theorem dX6_propagates_111 : decode cX6_propagates 111 = .ok (.iaload, 1) := by decide +kernel
theorem dX6_propagates_112 : decode cX6_propagates 112 = .ok (.ifCond .ne 8, 3) := by decide +kernel
theorem dX6_propagates_115 : decode cX6_propagates 115 = .ok (.aload_n 0, 1) := by decide +kernel
theorem dX6_propagates_116 : decode cX6_propagates 116 = .ok (.iload_n 2, 1) := by decide +kernel
theorem dX6_propagates_117 : decode cX6_propagates 117 = .ok (.invokevirtual 96, 3) := by decide +kernel
theorem dX6_propagates_120 : decode cX6_propagates 120 = .ok (.iinc 2 1, 3) := by decide +kernel
theorem dX6_propagates_123 : decode cX6_propagates 123 = .ok (.goto (-55), 3) := by decide +kernel
theorem dX6_propagates_126 : decode cX6_propagates 126 = .ok (.iinc 1 1, 3) := by decide +kernel
theorem dX6_propagates_129 : decode cX6_propagates 129 = .ok (.goto (-71), 3) := by decide +kernel
theorem dX6_propagates_132 : decode cX6_propagates 132 = .ok (.return_, 1) := by decide +kernel
set_option maxRecDepth 20000 in
theorem ggX6_derived_X6_error : GoodIn wsX6_derived wsX6_error := goodIn_r _ [7, 8, 32, 33, 34, 35, 36, 37, 38, 39, 40, 41, 42, 43, 44, 45, 46] (by decide +kernel) (by decide +kernel)
set_option maxRecDepth 20000 in
theorem gX6_derived_X6_error : GoodIn wsX6_derived (wsV RX6 60 RX6 yX6_error wsX6_error) := goodIn_app (goodIn_of _ (by decide +kernel)) ggX6_derived_X6_error
set_option maxRecDepth 20000 in
theorem ggX6_derived_X6_propagates : GoodIn wsX6_derived wsX6_propagates := goodIn_r _ [12, 1, 13, 14, 15, 2, 16, 17, 18, 6, 19, 20, 21, 22, 23, 24, 25, 26, 27, 28, 29, 30, 31, 32, 33, 34, 35, 36, 37, 38, 39, 40, 41, 42, 43, 44, 45, 46] (by decide +kernel) (by decide +kernel)
set_option maxRecDepth 20000 in
theorem gX6_derived_X6_propagates : GoodIn wsX6_derived (wsV RX6 99 RX6 yX6_propagates wsX6_propagates) := goodIn_app (goodIn_of _ (by decide +kernel)) ggX6_derived_X6_propagates
theorem dX6_derived_0 : decode cX6_derived 0 = .ok (.iload_n 1, 1) := by decide +kernel
theorem dX6_derived_1 : decode cX6_derived 1 = .ok (.ifCond .ge 10, 3) := by decide +kernel
theorem dX6_derived_4 : decode cX6_derived 4 = .ok (.aload_n 0, 1) := by decide +kernel
theorem dX6_derived_5 : decode cX6_derived 5 = .ok (.bipush (-2), 2) := by decide +kernel
theorem dX6_derived_7 : decode cX6_derived 7 = .ok (.invokevirtual 60, 3) := by decide +kernel
theorem dX6_derived_10 : decode cX6_derived 10 = .ok (.ireturn, 1) := by decide +kernel
theorem dX6_derived_11 : decode cX6_derived 11 = .ok (.aload_n 0, 1) := by decide +kernel
theorem dX6_derived_12 : decode cX6_derived 12 = .ok (.invokevirtual 99, 3) := by decide +kernel
theorem dX6_derived_15 : decode cX6_derived 15 = .ok (.iload_n 1, 1) := by decide +kernel
theorem dX6_derived_16 : decode cX6_derived 16 = .ok (.aload_n 0, 1) := by decide +kernel
theorem dX6_derived_17 : decode cX6_derived 17 = .ok (.getfield 93, 3) := by decide +kernel
theorem dX6_derived_20 : decode cX6_derived 20 = .ok (.if_icmp .ge 12, 3) := by decide +kernel
theorem dX6_derived_23 : decode cX6_derived 23 = .ok (.aload_n 0, 1) := by decide +kernel
theorem dX6_derived_24 : decode cX6_derived 24 = .ok (.getfield 22, 3) := by decide +kernel
theorem dX6_derived_27 : decode cX6_derived 27 = .ok (.iload_n 1, 1) := by decide +kernel
theorem dX6_derived_28 : decode cX6_derived 28 = .ok (.iaload, 1) := by decide +kernel
theorem dX6_derived_29 : decode cX6_derived 29 = .ok (.goto 4, 3) := by decide +kernel
theorem dX6_derived_32 : decode cX6_derived 32 = .ok (.iconst (-1), 1) := by decide +kernel
theorem dX6_derived_33 : decode cX6_derived 33 = .ok (.ireturn, 1) := by decide +kernel
set_option maxRecDepth 20000 in
theorem ggX6_fired_X6_error : GoodIn wsX6_fired wsX6_error := goodIn_r _ [7, 8, 32, 33, 34, 35, 36, 37, 38, 39, 40, 41, 42, 43, 44, 45, 46] (by decide +kernel) (by decide +kernel)
set_option maxRecDepth 20000 in
theorem gX6_fired_X6_error : GoodIn wsX6_fired (wsV RX6 60 RX6 yX6_error wsX6_error) := goodIn_app (goodIn_of _ (by decide +kernel)) ggX6_fired_X6_error
set_option maxRecDepth 20000 in
theorem ggX6_fired_X6_propagates : GoodIn wsX6_fired wsX6_propagates := goodIn_r _ [12, 13, 1, 14, 15, 16, 17, 18, 19, 6, 20, 21, 22, 23, 24, 25, 26, 27, 2, 28, 29, 30, 31, 32, 33, 34, 35, 36, 37, 38, 39, 40, 41, 42, 43, 44, 45, 46] (by decide +kernel) (by decide +kernel)
set_option maxRecDepth 20000 in
theorem gX6_fired_X6_propagates : GoodIn wsX6_fired (wsV RX6 99 RX6 yX6_propagates wsX6_propagates) := goodIn_app (goodIn_of _ (by decide +kernel)) ggX6_fired_X6_propagates
theorem dX6_fired_0 : decode cX6_fired 0 = .ok (.iload_n 1, 1) := by decide +kernel
theorem dX6_fired_1 : decode cX6_fired 1 = .ok (.ifCond .ge 10, 3) := by decide +kernel
theorem dX6_fired_4 : decode cX6_fired 4 = .ok (.aload_n 0, 1) := by decide +kernel
theorem dX6_fired_5 : decode cX6_fired 5 = .ok (.bipush (-2), 2) := by decide +kernel
theorem dX6_fired_7 : decode cX6_fired 7 = .ok (.invokevirtual 60, 3) := by decide +kernel
theorem dX6_fired_10 : decode cX6_fired 10 = .ok (.ireturn, 1) := by decide +kernel
theorem dX6_fired_11 : decode cX6_fired 11 = .ok (.aload_n 0, 1) := by decide +kernel
theorem dX6_fired_12 : decode cX6_fired 12 = .ok (.invokevirtual 99, 3) := by decide +kernel
theorem dX6_fired_15 : decode cX6_fired 15 = .ok (.iload_n 1, 1) := by decide +kernel
theorem dX6_fired_16 : decode cX6_fired 16 = .ok (.aload_n 0, 1) := by decide +kernel
theorem dX6_fired_17 : decode cX6_fired 17 = .ok (.getfield 90, 3) := by decide +kernel
theorem dX6_fired_20 : decode cX6_fired 20 = .ok (.if_icmp .ge 12, 3) := by decide +kernel
theorem dX6_fired_23 : decode cX6_fired 23 = .ok (.aload_n 0, 1) := by decide +kernel
theorem dX6_fired_24 : decode cX6_fired 24 = .ok (.getfield 25, 3) := by decide +kernel
theorem dX6_fired_27 : decode cX6_fired 27 = .ok (.iload_n 1, 1) := by decide +kernel
theorem dX6_fired_28 : decode cX6_fired 28 = .ok (.iaload, 1) := by decide +kernel
theorem dX6_fired_29 : decode cX6_fired 29 = .ok (.goto 4, 3) := by decide +kernel
theorem dX6_fired_32 : decode cX6_fired 32 = .ok (.iconst (-1), 1) := by decide +kernel
theorem dX6_fired_33 : decode cX6_fired 33 = .ok (.ireturn, 1) := by decide +kernel
set_option maxRecDepth 20000 in
theorem ggX6_levelOf_X6_bodyOf : GoodIn wsX6_levelOf wsX6_bodyOf := goodIn_r _ [6, 1, 11, 12, 13, 14, 15, 16, 17, 18, 19, 20, 21, 22, 23, 24, 25] (by decide +kernel) (by decide +kernel)
set_option maxRecDepth 20000 in
theorem gX6_levelOf_X6_bodyOf : GoodIn wsX6_levelOf (wsV RX6 76 RX6 yX6_bodyOf wsX6_bodyOf) := goodIn_app (goodIn_of _ (by decide +kernel)) ggX6_levelOf_X6_bodyOf
set_option maxRecDepth 20000 in
theorem ggX6_levelOf_X6_headOf : GoodIn wsX6_levelOf wsX6_headOf := goodIn_r _ [10, 1, 11, 12, 13, 14, 15, 16, 17, 18, 19, 20, 21, 22, 23, 24, 25] (by decide +kernel) (by decide +kernel)
set_option maxRecDepth 20000 in
theorem gX6_levelOf_X6_headOf : GoodIn wsX6_levelOf (wsV RX6 73 RX6 yX6_headOf wsX6_headOf) := goodIn_app (goodIn_of _ (by decide +kernel)) ggX6_levelOf_X6_headOf
theorem dX6_levelOf_0 : decode cX6_levelOf 0 = .ok (.iconst 0, 1) := by decide +kernel
theorem dX6_levelOf_1 : decode cX6_levelOf 1 = .ok (.istore_n 2, 1) := by decide +kernel
theorem dX6_levelOf_2 : decode cX6_levelOf 2 = .ok (.iconst (-1), 1) := by decide +kernel
theorem dX6_levelOf_3 : decode cX6_levelOf 3 = .ok (.istore_n 3, 1) := by decide +kernel
theorem dX6_levelOf_4 : decode cX6_levelOf 4 = .ok (.iload_n 2, 1) := by decide +kernel
theorem dX6_levelOf_5 : decode cX6_levelOf 5 = .ok (.iload_n 1, 1) := by decide +kernel
theorem dX6_levelOf_6 : decode cX6_levelOf 6 = .ok (.ishr, 1) := by decide +kernel
theorem dX6_levelOf_7 : decode cX6_levelOf 7 = .ok (.iconst 1, 1) := by decide +kernel
theorem dX6_levelOf_8 : decode cX6_levelOf 8 = .ok (.iand, 1) := by decide +kernel
theorem dX6_levelOf_9 : decode cX6_levelOf 9 = .ok (.ifCond .ne 65, 3) := by decide +kernel
theorem dX6_levelOf_12 : decode cX6_levelOf 12 = .ok (.iload_n 2, 1) := by decide +kernel
theorem dX6_levelOf_13 : decode cX6_levelOf 13 = .ok (.istore 4, 2) := by decide +kernel
theorem dX6_levelOf_15 : decode cX6_levelOf 15 = .ok (.iconst 0, 1) := by decide +kernel
theorem dX6_levelOf_16 : decode cX6_levelOf 16 = .ok (.istore 5, 2) := by decide +kernel
theorem dX6_levelOf_18 : decode cX6_levelOf 18 = .ok (.iload 5, 2) := by decide +kernel
theorem dX6_levelOf_20 : decode cX6_levelOf 20 = .ok (.aload_n 0, 1) := by decide +kernel
theorem dX6_levelOf_21 : decode cX6_levelOf 21 = .ok (.getfield 7, 3) := by decide +kernel
theorem dX6_levelOf_24 : decode cX6_levelOf 24 = .ok (.iconst 0, 1) := by decide +kernel
theorem dX6_levelOf_25 : decode cX6_levelOf 25 = .ok (.iaload, 1) := by decide +kernel
theorem dX6_levelOf_26 : decode cX6_levelOf 26 = .ok (.if_icmp .ge 39, 3) := by decide +kernel
theorem dX6_levelOf_29 : decode cX6_levelOf 29 = .ok (.iload 4, 2) := by decide +kernel
theorem dX6_levelOf_31 : decode cX6_levelOf 31 = .ok (.aload_n 0, 1) := by decide +kernel
theorem dX6_levelOf_32 : decode cX6_levelOf 32 = .ok (.iload 5, 2) := by decide +kernel
theorem dX6_levelOf_34 : decode cX6_levelOf 34 = .ok (.invokevirtual 76, 3) := by decide +kernel
theorem dX6_levelOf_37 : decode cX6_levelOf 37 = .ok (.iload_n 2, 1) := by decide +kernel
theorem dX6_levelOf_38 : decode cX6_levelOf 38 = .ok (.iconst (-1), 1) := by decide +kernel
theorem dX6_levelOf_39 : decode cX6_levelOf 39 = .ok (.ixor, 1) := by decide +kernel
theorem dX6_levelOf_40 : decode cX6_levelOf 40 = .ok (.iand, 1) := by decide +kernel
theorem dX6_levelOf_41 : decode cX6_levelOf 41 = .ok (.ifCond .ne 14, 3) := by decide +kernel
theorem dX6_levelOf_44 : decode cX6_levelOf 44 = .ok (.iconst 1, 1) := by decide +kernel
theorem dX6_levelOf_45 : decode cX6_levelOf 45 = .ok (.aload_n 0, 1) := by decide +kernel
theorem dX6_levelOf_46 : decode cX6_levelOf 46 = .ok (.iload 5, 2) := by decide +kernel
theorem dX6_levelOf_48 : decode cX6_levelOf 48 = .ok (.invokevirtual 73, 3) := by decide +kernel
theorem dX6_levelOf_51 : decode cX6_levelOf 51 = .ok (.ishl, 1) := by decide +kernel
theorem dX6_levelOf_52 : decode cX6_levelOf 52 = .ok (.goto 4, 3) := by decide +kernel
theorem dX6_levelOf_55 : decode cX6_levelOf 55 = .ok (.iconst 0, 1) := by decide +kernel
theorem dX6_levelOf_56 : decode cX6_levelOf 56 = .ok (.ior, 1) := by decide +kernel
theorem dX6_levelOf_57 : decode cX6_levelOf 57 = .ok (.istore 4, 2) := by decide +kernel
theorem dX6_levelOf_59 : decode cX6_levelOf 59 = .ok (.iinc 5 1, 3) := by decide +kernel
theorem dX6_levelOf_62 : decode cX6_levelOf 62 = .ok (.goto (-44), 3) := by decide +kernel
theorem dX6_levelOf_65 : decode cX6_levelOf 65 = .ok (.iload 4, 2) := by decide +kernel
theorem dX6_levelOf_67 : decode cX6_levelOf 67 = .ok (.istore_n 2, 1) := by decide +kernel
theorem dX6_levelOf_68 : decode cX6_levelOf 68 = .ok (.iinc 3 1, 3) := by decide +kernel
theorem dX6_levelOf_71 : decode cX6_levelOf 71 = .ok (.goto (-67), 3) := by decide +kernel
theorem dX6_levelOf_74 : decode cX6_levelOf 74 = .ok (.iload_n 3, 1) := by decide +kernel
theorem dX6_levelOf_75 : decode cX6_levelOf 75 = .ok (.ireturn, 1) := by decide +kernel
set_option maxRecDepth 20000 in
theorem ggX6_isIn_X6_whole : GoodIn wsX6_isIn wsX6_whole := goodIn_r _ [5, 6, 7, 8, 4, 9, 10, 11, 12, 13, 14, 15, 16, 17, 18, 19, 20, 21, 22, 23, 24, 25, 26, 27, 28, 29, 30, 31, 32, 33, 34, 35, 36, 37] (by decide +kernel) (by decide +kernel)
set_option maxRecDepth 20000 in
theorem gX6_isIn_X6_whole : GoodIn wsX6_isIn (wsV RX6 87 RX6 yX6_whole wsX6_whole) := goodIn_app (goodIn_of _ (by decide +kernel)) ggX6_isIn_X6_whole
theorem dX6_isIn_0 : decode cX6_isIn 0 = .ok (.aload_n 0, 1) := by decide +kernel
theorem dX6_isIn_1 : decode cX6_isIn 1 = .ok (.invokevirtual 87, 3) := by decide +kernel
theorem dX6_isIn_4 : decode cX6_isIn 4 = .ok (.iload_n 1, 1) := by decide +kernel
theorem dX6_isIn_5 : decode cX6_isIn 5 = .ok (.ishr, 1) := by decide +kernel
theorem dX6_isIn_6 : decode cX6_isIn 6 = .ok (.iconst 1, 1) := by decide +kernel
theorem dX6_isIn_7 : decode cX6_isIn 7 = .ok (.iand, 1) := by decide +kernel
theorem dX6_isIn_8 : decode cX6_isIn 8 = .ok (.iconst 1, 1) := by decide +kernel
theorem dX6_isIn_9 : decode cX6_isIn 9 = .ok (.if_icmp .ne 7, 3) := by decide +kernel
theorem dX6_isIn_12 : decode cX6_isIn 12 = .ok (.iconst 1, 1) := by decide +kernel
theorem dX6_isIn_13 : decode cX6_isIn 13 = .ok (.goto 4, 3) := by decide +kernel
theorem dX6_isIn_16 : decode cX6_isIn 16 = .ok (.iconst 0, 1) := by decide +kernel
theorem dX6_isIn_17 : decode cX6_isIn 17 = .ok (.ireturn, 1) := by decide +kernel
set_option maxRecDepth 20000 in
theorem ggX6_asks_X6_isAtom : GoodIn wsX6_asks wsX6_isAtom := goodIn_r _ [4, 5, 6, 7, 3, 8] (by decide +kernel) (by decide +kernel)
set_option maxRecDepth 20000 in
theorem gX6_asks_X6_isAtom : GoodIn wsX6_asks (va_wsS RX6 53 yX6_isAtom wsX6_isAtom) := goodIn_app (goodIn_of _ (by decide +kernel)) ggX6_asks_X6_isAtom
set_option maxRecDepth 20000 in
theorem ggX6_asks_X6_error : GoodIn wsX6_asks wsX6_error := goodIn_r _ [12, 13, 39, 40, 41, 42, 43, 44, 45, 46, 47, 48, 49, 50, 51, 52, 53] (by decide +kernel) (by decide +kernel)
set_option maxRecDepth 20000 in
theorem gX6_asks_X6_error : GoodIn wsX6_asks (wsV RX6 60 RX6 yX6_error wsX6_error) := goodIn_app (goodIn_of _ (by decide +kernel)) ggX6_asks_X6_error
set_option maxRecDepth 20000 in
theorem ggX6_asks_X6_isIn : GoodIn wsX6_asks wsX6_isIn := goodIn_r _ [17, 18, 19, 20, 3, 21, 22, 23, 24, 25, 26, 27, 28, 29, 30, 31, 32, 33, 34, 35, 36, 37, 38, 39, 40, 41, 42, 43, 44, 45, 46, 47, 48, 49, 50, 51, 52, 53] (by decide +kernel) (by decide +kernel)
set_option maxRecDepth 20000 in
theorem gX6_asks_X6_isIn : GoodIn wsX6_asks (wsV RX6 102 RX6 yX6_isIn wsX6_isIn) := goodIn_app (goodIn_of _ (by decide +kernel)) ggX6_asks_X6_isIn
theorem dX6_asks_0 : decode cX6_asks 0 = .ok (.iload_n 1, 1) := by decide +kernel
theorem dX6_asks_1 : decode cX6_asks 1 = .ok (.invokestatic 53, 3) := by decide +kernel
theorem dX6_asks_4 : decode cX6_asks 4 = .ok (.ifCond .ne 12, 3) := by decide +kernel
theorem dX6_asks_7 : decode cX6_asks 7 = .ok (.aload_n 0, 1) := by decide +kernel
theorem dX6_asks_8 : decode cX6_asks 8 = .ok (.bipush (-2), 2) := by decide +kernel
theorem dX6_asks_10 : decode cX6_asks 10 = .ok (.invokevirtual 60, 3) := by decide +kernel
theorem dX6_asks_13 : decode cX6_asks 13 = .ok (.goto 21, 3) := by decide +kernel
theorem dX6_asks_16 : decode cX6_asks 16 = .ok (.aload_n 0, 1) := by decide +kernel
theorem dX6_asks_17 : decode cX6_asks 17 = .ok (.iload_n 1, 1) := by decide +kernel
theorem dX6_asks_18 : decode cX6_asks 18 = .ok (.invokevirtual 102, 3) := by decide +kernel
theorem dX6_asks_21 : decode cX6_asks 21 = .ok (.ifCond .eq 7, 3) := by decide +kernel
theorem dX6_asks_24 : decode cX6_asks 24 = .ok (.iconst 0, 1) := by decide +kernel
theorem dX6_asks_25 : decode cX6_asks 25 = .ok (.goto 9, 3) := by decide +kernel
theorem dX6_asks_28 : decode cX6_asks 28 = .ok (.aload_n 0, 1) := by decide +kernel
theorem dX6_asks_29 : decode cX6_asks 29 = .ok (.bipush (-3), 2) := by decide +kernel
theorem dX6_asks_31 : decode cX6_asks 31 = .ok (.invokevirtual 60, 3) := by decide +kernel
theorem dX6_asks_34 : decode cX6_asks 34 = .ok (.ireturn, 1) := by decide +kernel
set_option maxRecDepth 20000 in
theorem ggX6_level_X6_asks : GoodIn wsX6_level wsX6_asks := goodIn_r _ [5, 6, 7, 4, 8, 9, 10, 11, 12, 13, 14, 15, 16, 17, 18, 19, 20, 21, 22, 23, 24, 25, 26, 27, 28, 29, 30, 31, 32, 33, 34, 35, 36, 37, 38, 39, 40, 41, 42, 47, 48, 49, 50, 51, 52, 53, 54, 55, 56, 57, 58, 59, 60, 61] (by decide +kernel) (by decide +kernel)
set_option maxRecDepth 20000 in
theorem gX6_level_X6_asks : GoodIn wsX6_level (wsV RX6 105 RX6 yX6_asks wsX6_asks) := goodIn_app (goodIn_of _ (by decide +kernel)) ggX6_level_X6_asks
set_option maxRecDepth 20000 in
theorem ggX6_level_X6_levelOf : GoodIn wsX6_level wsX6_levelOf := goodIn_r _ [46, 30, 35, 36, 37, 4, 38, 39, 40, 41, 42, 47, 48, 49, 50, 51, 52, 53, 54, 55, 56, 57, 58, 59, 60, 61] (by decide +kernel) (by decide +kernel)
set_option maxRecDepth 20000 in
theorem gX6_level_X6_levelOf : GoodIn wsX6_level (wsV RX6 108 RX6 yX6_levelOf wsX6_levelOf) := goodIn_app (goodIn_of _ (by decide +kernel)) ggX6_level_X6_levelOf
theorem dX6_level_0 : decode cX6_level 0 = .ok (.aload_n 0, 1) := by decide +kernel
theorem dX6_level_1 : decode cX6_level 1 = .ok (.iload_n 1, 1) := by decide +kernel
theorem dX6_level_2 : decode cX6_level 2 = .ok (.invokevirtual 105, 3) := by decide +kernel
theorem dX6_level_5 : decode cX6_level 5 = .ok (.istore_n 2, 1) := by decide +kernel
theorem dX6_level_6 : decode cX6_level 6 = .ok (.iload_n 2, 1) := by decide +kernel
theorem dX6_level_7 : decode cX6_level 7 = .ok (.ifCond .ne 11, 3) := by decide +kernel
theorem dX6_level_10 : decode cX6_level 10 = .ok (.aload_n 0, 1) := by decide +kernel
theorem dX6_level_11 : decode cX6_level 11 = .ok (.iload_n 1, 1) := by decide +kernel
theorem dX6_level_12 : decode cX6_level 12 = .ok (.invokevirtual 108, 3) := by decide +kernel
theorem dX6_level_15 : decode cX6_level 15 = .ok (.goto 4, 3) := by decide +kernel
theorem dX6_level_18 : decode cX6_level 18 = .ok (.iload_n 2, 1) := by decide +kernel
theorem dX6_level_19 : decode cX6_level 19 = .ok (.ireturn, 1) := by decide +kernel
set_option maxRecDepth 20000 in
theorem ggX6_modelShareBits_X6_whole : GoodIn wsX6_modelShareBits wsX6_whole := goodIn_r _ [6, 7, 8, 9, 5, 10, 11, 12, 13, 14, 15, 16, 17, 18, 19, 20, 21, 22, 23, 39, 40, 41, 42, 43, 44, 45, 46, 47, 48, 49, 50, 51, 52, 53] (by decide +kernel) (by decide +kernel)
set_option maxRecDepth 20000 in
theorem gX6_modelShareBits_X6_whole : GoodIn wsX6_modelShareBits (wsV RX6 87 RX6 yX6_whole wsX6_whole) := goodIn_app (goodIn_of _ (by decide +kernel)) ggX6_modelShareBits_X6_whole
set_option maxRecDepth 20000 in
theorem ggX6_modelShareBits_X6_size : GoodIn wsX6_modelShareBits wsX6_size := goodIn_r _ [26] (by decide +kernel) (by decide +kernel)
set_option maxRecDepth 20000 in
theorem gX6_modelShareBits_X6_size : GoodIn wsX6_modelShareBits (va_wsS RX6 49 yX6_size wsX6_size) := goodIn_app (goodIn_of _ (by decide +kernel)) ggX6_modelShareBits_X6_size
set_option maxRecDepth 20000 in
theorem ggX6_modelShareBits_Jxf58ca_floatToIntBits_5c35a : GoodIn wsX6_modelShareBits wsJxf58ca_floatToIntBits_5c35a := goodIn_r _ [30, 31, 32, 33, 34, 35, 36, 37, 29, 38] (by decide +kernel) (by decide +kernel)
set_option maxRecDepth 20000 in
theorem gX6_modelShareBits_Jxf58ca_floatToIntBits_5c35a : GoodIn wsX6_modelShareBits (va_wsS RX6 112 yJxf58ca_floatToIntBits_5c35a wsJxf58ca_floatToIntBits_5c35a) := goodIn_app (goodIn_of _ (by decide +kernel)) ggX6_modelShareBits_Jxf58ca_floatToIntBits_5c35a
theorem dX6_modelShareBits_0 : decode cX6_modelShareBits 0 = .ok (.aload_n 0, 1) := by decide +kernel
theorem dX6_modelShareBits_1 : decode cX6_modelShareBits 1 = .ok (.invokevirtual 87, 3) := by decide +kernel
theorem dX6_modelShareBits_4 : decode cX6_modelShareBits 4 = .ok (.invokestatic 49, 3) := by decide +kernel
theorem dX6_modelShareBits_7 : decode cX6_modelShareBits 7 = .ok (.i2f, 1) := by decide +kernel
theorem dX6_modelShareBits_8 : decode cX6_modelShareBits 8 = .ok (.fstore_n 1, 1) := by decide +kernel
theorem dX6_modelShareBits_9 : decode cX6_modelShareBits 9 = .ok (.fload_n 1, 1) := by decide +kernel
theorem dX6_modelShareBits_10 : decode cX6_modelShareBits 10 = .ok (.ldc 111, 2) := by decide +kernel
theorem dX6_modelShareBits_12 : decode cX6_modelShareBits 12 = .ok (.fdiv, 1) := by decide +kernel
theorem dX6_modelShareBits_13 : decode cX6_modelShareBits 13 = .ok (.invokestatic 112, 3) := by decide +kernel
theorem dX6_modelShareBits_16 : decode cX6_modelShareBits 16 = .ok (.ireturn, 1) := by decide +kernel
set_option maxRecDepth 20000 in
theorem ggX6_supports_X6_isAtom : GoodIn wsX6_supports wsX6_isAtom := goodIn_r _ [5, 6, 7, 8, 4, 9] (by decide +kernel) (by decide +kernel)
set_option maxRecDepth 20000 in
theorem gX6_supports_X6_isAtom : GoodIn wsX6_supports (va_wsS RX6 53 yX6_isAtom wsX6_isAtom) := goodIn_app (goodIn_of _ (by decide +kernel)) ggX6_supports_X6_isAtom
set_option maxRecDepth 20000 in
theorem ggX6_supports_X6_error : GoodIn wsX6_supports wsX6_error := goodIn_r _ [13, 14, 35, 36, 37, 38, 39, 40, 41, 42, 43, 44, 45, 46, 47, 48, 49] (by decide +kernel) (by decide +kernel)
set_option maxRecDepth 20000 in
theorem gX6_supports_X6_error : GoodIn wsX6_supports (wsV RX6 60 RX6 yX6_error wsX6_error) := goodIn_app (goodIn_of _ (by decide +kernel)) ggX6_supports_X6_error
set_option maxRecDepth 20000 in
theorem ggX6_supports_X6_whole : GoodIn wsX6_supports wsX6_whole := goodIn_r _ [18, 19, 20, 21, 4, 22, 1, 23, 24, 25, 26, 27, 28, 29, 30, 31, 32, 33, 34, 35, 36, 37, 38, 39, 40, 41, 42, 43, 44, 45, 46, 47, 48, 49] (by decide +kernel) (by decide +kernel)
set_option maxRecDepth 20000 in
theorem gX6_supports_X6_whole : GoodIn wsX6_supports (wsV RX6 87 RX6 yX6_whole wsX6_whole) := goodIn_app (goodIn_of _ (by decide +kernel)) ggX6_supports_X6_whole
set_option maxRecDepth 20000 in
theorem ggX6_supports_X6_headOf : GoodIn wsX6_supports wsX6_headOf := goodIn_r _ [34, 1, 35, 36, 37, 38, 39, 40, 41, 42, 43, 44, 45, 46, 47, 48, 49] (by decide +kernel) (by decide +kernel)
set_option maxRecDepth 20000 in
theorem gX6_supports_X6_headOf : GoodIn wsX6_supports (wsV RX6 73 RX6 yX6_headOf wsX6_headOf) := goodIn_app (goodIn_of _ (by decide +kernel)) ggX6_supports_X6_headOf
set_option maxRecDepth 20000 in
theorem ggX6_supports_X6_bodyOf : GoodIn wsX6_supports wsX6_bodyOf := goodIn_r _ [30, 1, 35, 36, 37, 38, 39, 40, 41, 42, 43, 44, 45, 46, 47, 48, 49] (by decide +kernel) (by decide +kernel)
set_option maxRecDepth 20000 in
theorem gX6_supports_X6_bodyOf : GoodIn wsX6_supports (wsV RX6 76 RX6 yX6_bodyOf wsX6_bodyOf) := goodIn_app (goodIn_of _ (by decide +kernel)) ggX6_supports_X6_bodyOf
theorem dX6_supports_0 : decode cX6_supports 0 = .ok (.iload_n 1, 1) := by decide +kernel
theorem dX6_supports_1 : decode cX6_supports 1 = .ok (.invokestatic 53, 3) := by decide +kernel
theorem dX6_supports_4 : decode cX6_supports 4 = .ok (.ifCond .ne 10, 3) := by decide +kernel
theorem dX6_supports_7 : decode cX6_supports 7 = .ok (.aload_n 0, 1) := by decide +kernel
theorem dX6_supports_8 : decode cX6_supports 8 = .ok (.bipush (-2), 2) := by decide +kernel
theorem dX6_supports_10 : decode cX6_supports 10 = .ok (.invokevirtual 60, 3) := by decide +kernel
theorem dX6_supports_13 : decode cX6_supports 13 = .ok (.ireturn, 1) := by decide +kernel
theorem dX6_supports_14 : decode cX6_supports 14 = .ok (.aload_n 0, 1) := by decide +kernel
theorem dX6_supports_15 : decode cX6_supports 15 = .ok (.invokevirtual 87, 3) := by decide +kernel
theorem dX6_supports_18 : decode cX6_supports 18 = .ok (.istore_n 2, 1) := by decide +kernel
theorem dX6_supports_19 : decode cX6_supports 19 = .ok (.iconst 0, 1) := by decide +kernel
theorem dX6_supports_20 : decode cX6_supports 20 = .ok (.istore_n 3, 1) := by decide +kernel
theorem dX6_supports_21 : decode cX6_supports 21 = .ok (.iconst 0, 1) := by decide +kernel
theorem dX6_supports_22 : decode cX6_supports 22 = .ok (.istore 4, 2) := by decide +kernel
theorem dX6_supports_24 : decode cX6_supports 24 = .ok (.iload 4, 2) := by decide +kernel
theorem dX6_supports_26 : decode cX6_supports 26 = .ok (.aload_n 0, 1) := by decide +kernel
theorem dX6_supports_27 : decode cX6_supports 27 = .ok (.getfield 7, 3) := by decide +kernel
theorem dX6_supports_30 : decode cX6_supports 30 = .ok (.iconst 0, 1) := by decide +kernel
theorem dX6_supports_31 : decode cX6_supports 31 = .ok (.iaload, 1) := by decide +kernel
theorem dX6_supports_32 : decode cX6_supports 32 = .ok (.if_icmp .ge 43, 3) := by decide +kernel
theorem dX6_supports_35 : decode cX6_supports 35 = .ok (.iload_n 3, 1) := by decide +kernel
theorem dX6_supports_36 : decode cX6_supports 36 = .ok (.aload_n 0, 1) := by decide +kernel
theorem dX6_supports_37 : decode cX6_supports 37 = .ok (.iload 4, 2) := by decide +kernel
theorem dX6_supports_39 : decode cX6_supports 39 = .ok (.invokevirtual 73, 3) := by decide +kernel
theorem dX6_supports_42 : decode cX6_supports 42 = .ok (.iload_n 1, 1) := by decide +kernel
theorem dX6_supports_43 : decode cX6_supports 43 = .ok (.if_icmp .ne 23, 3) := by decide +kernel
theorem dX6_supports_46 : decode cX6_supports 46 = .ok (.aload_n 0, 1) := by decide +kernel
theorem dX6_supports_47 : decode cX6_supports 47 = .ok (.iload 4, 2) := by decide +kernel
theorem dX6_supports_49 : decode cX6_supports 49 = .ok (.invokevirtual 76, 3) := by decide +kernel
theorem dX6_supports_52 : decode cX6_supports 52 = .ok (.iload_n 2, 1) := by decide +kernel
theorem dX6_supports_53 : decode cX6_supports 53 = .ok (.iconst (-1), 1) := by decide +kernel
theorem dX6_supports_54 : decode cX6_supports 54 = .ok (.ixor, 1) := by decide +kernel
theorem dX6_supports_55 : decode cX6_supports 55 = .ok (.iand, 1) := by decide +kernel
theorem dX6_supports_56 : decode cX6_supports 56 = .ok (.ifCond .ne 10, 3) := by decide +kernel
theorem dX6_supports_59 : decode cX6_supports 59 = .ok (.iconst 1, 1) := by decide +kernel
theorem dX6_supports_60 : decode cX6_supports 60 = .ok (.iload 4, 2) := by decide +kernel
theorem dX6_supports_62 : decode cX6_supports 62 = .ok (.ishl, 1) := by decide +kernel
theorem dX6_supports_63 : decode cX6_supports 63 = .ok (.goto 4, 3) := by decide +kernel
theorem dX6_supports_66 : decode cX6_supports 66 = .ok (.iconst 0, 1) := by decide +kernel
theorem dX6_supports_67 : decode cX6_supports 67 = .ok (.ior, 1) := by decide +kernel
theorem dX6_supports_68 : decode cX6_supports 68 = .ok (.istore_n 3, 1) := by decide +kernel
theorem dX6_supports_69 : decode cX6_supports 69 = .ok (.iinc 4 1, 3) := by decide +kernel
theorem dX6_supports_72 : decode cX6_supports 72 = .ok (.goto (-48), 3) := by decide +kernel
theorem dX6_supports_75 : decode cX6_supports 75 = .ok (.iload_n 3, 1) := by decide +kernel
theorem dX6_supports_76 : decode cX6_supports 76 = .ok (.ireturn, 1) := by decide +kernel
set_option maxRecDepth 20000 in
theorem ggX6_reasonOf_X6_everyRule : GoodIn wsX6_reasonOf wsX6_everyRule := goodIn_r _ [6, 1, 19, 20, 21, 22, 23, 24, 25, 26, 27, 28, 29, 30, 31, 32, 33] (by decide +kernel) (by decide +kernel)
set_option maxRecDepth 20000 in
theorem gX6_reasonOf_X6_everyRule : GoodIn wsX6_reasonOf (wsV RX6 79 RX6 yX6_everyRule wsX6_everyRule) := goodIn_app (goodIn_of _ (by decide +kernel)) ggX6_reasonOf_X6_everyRule
set_option maxRecDepth 20000 in
theorem ggX6_reasonOf_X6_modelOf : GoodIn wsX6_reasonOf wsX6_modelOf := goodIn_r _ [10, 1, 11, 12, 13, 5, 14, 15, 16, 17, 18, 19, 20, 21, 22, 23, 24, 25, 26, 27, 28, 29, 30, 31, 32, 33] (by decide +kernel) (by decide +kernel)
set_option maxRecDepth 20000 in
theorem gX6_reasonOf_X6_modelOf : GoodIn wsX6_reasonOf (wsV RX6 83 RX6 yX6_modelOf wsX6_modelOf) := goodIn_app (goodIn_of _ (by decide +kernel)) ggX6_reasonOf_X6_modelOf
theorem dX6_reasonOf_0 : decode cX6_reasonOf 0 = .ok (.aload_n 0, 1) := by decide +kernel
theorem dX6_reasonOf_1 : decode cX6_reasonOf 1 = .ok (.invokevirtual 79, 3) := by decide +kernel
theorem dX6_reasonOf_4 : decode cX6_reasonOf 4 = .ok (.istore_n 2, 1) := by decide +kernel
theorem dX6_reasonOf_5 : decode cX6_reasonOf 5 = .ok (.aload_n 0, 1) := by decide +kernel
theorem dX6_reasonOf_6 : decode cX6_reasonOf 6 = .ok (.getfield 7, 3) := by decide +kernel
theorem dX6_reasonOf_9 : decode cX6_reasonOf 9 = .ok (.iconst 0, 1) := by decide +kernel
theorem dX6_reasonOf_10 : decode cX6_reasonOf 10 = .ok (.iaload, 1) := by decide +kernel
theorem dX6_reasonOf_11 : decode cX6_reasonOf 11 = .ok (.iconst 1, 1) := by decide +kernel
theorem dX6_reasonOf_12 : decode cX6_reasonOf 12 = .ok (.isub, 1) := by decide +kernel
theorem dX6_reasonOf_13 : decode cX6_reasonOf 13 = .ok (.istore_n 3, 1) := by decide +kernel
theorem dX6_reasonOf_14 : decode cX6_reasonOf 14 = .ok (.iload_n 3, 1) := by decide +kernel
theorem dX6_reasonOf_15 : decode cX6_reasonOf 15 = .ok (.ifCond .lt 40, 3) := by decide +kernel
theorem dX6_reasonOf_18 : decode cX6_reasonOf 18 = .ok (.iload_n 2, 1) := by decide +kernel
theorem dX6_reasonOf_19 : decode cX6_reasonOf 19 = .ok (.iconst 1, 1) := by decide +kernel
theorem dX6_reasonOf_20 : decode cX6_reasonOf 20 = .ok (.iload_n 3, 1) := by decide +kernel
theorem dX6_reasonOf_21 : decode cX6_reasonOf 21 = .ok (.ishl, 1) := by decide +kernel
theorem dX6_reasonOf_22 : decode cX6_reasonOf 22 = .ok (.iconst (-1), 1) := by decide +kernel
theorem dX6_reasonOf_23 : decode cX6_reasonOf 23 = .ok (.ixor, 1) := by decide +kernel
theorem dX6_reasonOf_24 : decode cX6_reasonOf 24 = .ok (.iand, 1) := by decide +kernel
theorem dX6_reasonOf_25 : decode cX6_reasonOf 25 = .ok (.istore 4, 2) := by decide +kernel
theorem dX6_reasonOf_27 : decode cX6_reasonOf 27 = .ok (.aload_n 0, 1) := by decide +kernel
theorem dX6_reasonOf_28 : decode cX6_reasonOf 28 = .ok (.iload 4, 2) := by decide +kernel
theorem dX6_reasonOf_30 : decode cX6_reasonOf 30 = .ok (.iconst 0, 1) := by decide +kernel
theorem dX6_reasonOf_31 : decode cX6_reasonOf 31 = .ok (.invokevirtual 83, 3) := by decide +kernel
theorem dX6_reasonOf_34 : decode cX6_reasonOf 34 = .ok (.iload_n 1, 1) := by decide +kernel
theorem dX6_reasonOf_35 : decode cX6_reasonOf 35 = .ok (.ishr, 1) := by decide +kernel
theorem dX6_reasonOf_36 : decode cX6_reasonOf 36 = .ok (.iconst 1, 1) := by decide +kernel
theorem dX6_reasonOf_37 : decode cX6_reasonOf 37 = .ok (.iand, 1) := by decide +kernel
theorem dX6_reasonOf_38 : decode cX6_reasonOf 38 = .ok (.iconst 1, 1) := by decide +kernel
theorem dX6_reasonOf_39 : decode cX6_reasonOf 39 = .ok (.if_icmp .ne 8, 3) := by decide +kernel
theorem dX6_reasonOf_42 : decode cX6_reasonOf 42 = .ok (.iload 4, 2) := by decide +kernel
theorem dX6_reasonOf_44 : decode cX6_reasonOf 44 = .ok (.goto 4, 3) := by decide +kernel
theorem dX6_reasonOf_47 : decode cX6_reasonOf 47 = .ok (.iload_n 2, 1) := by decide +kernel
theorem dX6_reasonOf_48 : decode cX6_reasonOf 48 = .ok (.istore_n 2, 1) := by decide +kernel
theorem dX6_reasonOf_49 : decode cX6_reasonOf 49 = .ok (.iinc 3 (-1), 3) := by decide +kernel
theorem dX6_reasonOf_52 : decode cX6_reasonOf 52 = .ok (.goto (-38), 3) := by decide +kernel
theorem dX6_reasonOf_55 : decode cX6_reasonOf 55 = .ok (.iload_n 2, 1) := by decide +kernel
theorem dX6_reasonOf_56 : decode cX6_reasonOf 56 = .ok (.ireturn, 1) := by decide +kernel
set_option maxRecDepth 20000 in
theorem ggX6_reason_X6_asks : GoodIn wsX6_reason wsX6_asks := goodIn_r _ [5, 6, 7, 4, 8, 9, 10, 11, 12, 13, 14, 15, 16, 17, 18, 19, 20, 21, 22, 23, 24, 25, 26, 27, 28, 29, 30, 31, 32, 33, 34, 35, 36, 37, 38, 39, 40, 41, 42, 47, 48, 49, 50, 51, 52, 53, 54, 55, 56, 57, 58, 59, 60, 61] (by decide +kernel) (by decide +kernel)
set_option maxRecDepth 20000 in
theorem gX6_reason_X6_asks : GoodIn wsX6_reason (wsV RX6 105 RX6 yX6_asks wsX6_asks) := goodIn_app (goodIn_of _ (by decide +kernel)) ggX6_reason_X6_asks
set_option maxRecDepth 20000 in
theorem ggX6_reason_X6_reasonOf : GoodIn wsX6_reason wsX6_reasonOf := goodIn_r _ [46, 30, 26, 27, 28, 4, 29, 31, 32, 33, 34, 35, 36, 37, 38, 39, 40, 41, 42, 47, 48, 49, 50, 51, 52, 53, 54, 55, 56, 57, 58, 59, 60, 61] (by decide +kernel) (by decide +kernel)
set_option maxRecDepth 20000 in
theorem gX6_reason_X6_reasonOf : GoodIn wsX6_reason (wsV RX6 118 RX6 yX6_reasonOf wsX6_reasonOf) := goodIn_app (goodIn_of _ (by decide +kernel)) ggX6_reason_X6_reasonOf
theorem dX6_reason_0 : decode cX6_reason 0 = .ok (.aload_n 0, 1) := by decide +kernel
theorem dX6_reason_1 : decode cX6_reason 1 = .ok (.iload_n 1, 1) := by decide +kernel
theorem dX6_reason_2 : decode cX6_reason 2 = .ok (.invokevirtual 105, 3) := by decide +kernel
theorem dX6_reason_5 : decode cX6_reason 5 = .ok (.istore_n 2, 1) := by decide +kernel
theorem dX6_reason_6 : decode cX6_reason 6 = .ok (.iload_n 2, 1) := by decide +kernel
theorem dX6_reason_7 : decode cX6_reason 7 = .ok (.ifCond .ne 11, 3) := by decide +kernel
theorem dX6_reason_10 : decode cX6_reason 10 = .ok (.aload_n 0, 1) := by decide +kernel
theorem dX6_reason_11 : decode cX6_reason 11 = .ok (.iload_n 1, 1) := by decide +kernel
theorem dX6_reason_12 : decode cX6_reason 12 = .ok (.invokevirtual 118, 3) := by decide +kernel
theorem dX6_reason_15 : decode cX6_reason 15 = .ok (.goto 4, 3) := by decide +kernel
theorem dX6_reason_18 : decode cX6_reason 18 = .ok (.iload_n 2, 1) := by decide +kernel
theorem dX6_reason_19 : decode cX6_reason 19 = .ok (.ireturn, 1) := by decide +kernel
set_option maxRecDepth 20000 in
theorem ggX6_necessaryOf_X6_everyRule : GoodIn wsX6_necessaryOf wsX6_everyRule := goodIn_r _ [6, 1, 19, 20, 21, 22, 23, 24, 25, 26, 27, 28, 29, 30, 31, 32, 33] (by decide +kernel) (by decide +kernel)
set_option maxRecDepth 20000 in
theorem gX6_necessaryOf_X6_everyRule : GoodIn wsX6_necessaryOf (wsV RX6 79 RX6 yX6_everyRule wsX6_everyRule) := goodIn_app (goodIn_of _ (by decide +kernel)) ggX6_necessaryOf_X6_everyRule
set_option maxRecDepth 20000 in
theorem ggX6_necessaryOf_X6_modelOf : GoodIn wsX6_necessaryOf wsX6_modelOf := goodIn_r _ [10, 1, 11, 12, 13, 5, 14, 15, 16, 17, 18, 19, 20, 21, 22, 23, 24, 25, 26, 27, 28, 29, 30, 31, 32, 33] (by decide +kernel) (by decide +kernel)
set_option maxRecDepth 20000 in
theorem gX6_necessaryOf_X6_modelOf : GoodIn wsX6_necessaryOf (wsV RX6 83 RX6 yX6_modelOf wsX6_modelOf) := goodIn_app (goodIn_of _ (by decide +kernel)) ggX6_necessaryOf_X6_modelOf
theorem dX6_necessaryOf_0 : decode cX6_necessaryOf 0 = .ok (.iconst 0, 1) := by decide +kernel
theorem dX6_necessaryOf_1 : decode cX6_necessaryOf 1 = .ok (.istore_n 2, 1) := by decide +kernel
theorem dX6_necessaryOf_2 : decode cX6_necessaryOf 2 = .ok (.iconst 0, 1) := by decide +kernel
theorem dX6_necessaryOf_3 : decode cX6_necessaryOf 3 = .ok (.istore_n 3, 1) := by decide +kernel
theorem dX6_necessaryOf_4 : decode cX6_necessaryOf 4 = .ok (.iload_n 3, 1) := by decide +kernel
theorem dX6_necessaryOf_5 : decode cX6_necessaryOf 5 = .ok (.aload_n 0, 1) := by decide +kernel
theorem dX6_necessaryOf_6 : decode cX6_necessaryOf 6 = .ok (.getfield 7, 3) := by decide +kernel
theorem dX6_necessaryOf_9 : decode cX6_necessaryOf 9 = .ok (.iconst 0, 1) := by decide +kernel
theorem dX6_necessaryOf_10 : decode cX6_necessaryOf 10 = .ok (.iaload, 1) := by decide +kernel
theorem dX6_necessaryOf_11 : decode cX6_necessaryOf 11 = .ok (.if_icmp .ge 41, 3) := by decide +kernel
theorem dX6_necessaryOf_14 : decode cX6_necessaryOf 14 = .ok (.iload_n 2, 1) := by decide +kernel
theorem dX6_necessaryOf_15 : decode cX6_necessaryOf 15 = .ok (.aload_n 0, 1) := by decide +kernel
theorem dX6_necessaryOf_16 : decode cX6_necessaryOf 16 = .ok (.aload_n 0, 1) := by decide +kernel
theorem dX6_necessaryOf_17 : decode cX6_necessaryOf 17 = .ok (.invokevirtual 79, 3) := by decide +kernel
theorem dX6_necessaryOf_20 : decode cX6_necessaryOf 20 = .ok (.iconst 1, 1) := by decide +kernel
theorem dX6_necessaryOf_21 : decode cX6_necessaryOf 21 = .ok (.iload_n 3, 1) := by decide +kernel
theorem dX6_necessaryOf_22 : decode cX6_necessaryOf 22 = .ok (.ishl, 1) := by decide +kernel
theorem dX6_necessaryOf_23 : decode cX6_necessaryOf 23 = .ok (.iconst (-1), 1) := by decide +kernel
theorem dX6_necessaryOf_24 : decode cX6_necessaryOf 24 = .ok (.ixor, 1) := by decide +kernel
theorem dX6_necessaryOf_25 : decode cX6_necessaryOf 25 = .ok (.iand, 1) := by decide +kernel
theorem dX6_necessaryOf_26 : decode cX6_necessaryOf 26 = .ok (.iconst 0, 1) := by decide +kernel
theorem dX6_necessaryOf_27 : decode cX6_necessaryOf 27 = .ok (.invokevirtual 83, 3) := by decide +kernel
theorem dX6_necessaryOf_30 : decode cX6_necessaryOf 30 = .ok (.iload_n 1, 1) := by decide +kernel
theorem dX6_necessaryOf_31 : decode cX6_necessaryOf 31 = .ok (.ishr, 1) := by decide +kernel
theorem dX6_necessaryOf_32 : decode cX6_necessaryOf 32 = .ok (.iconst 1, 1) := by decide +kernel
theorem dX6_necessaryOf_33 : decode cX6_necessaryOf 33 = .ok (.iand, 1) := by decide +kernel
theorem dX6_necessaryOf_34 : decode cX6_necessaryOf 34 = .ok (.ifCond .ne 9, 3) := by decide +kernel
theorem dX6_necessaryOf_37 : decode cX6_necessaryOf 37 = .ok (.iconst 1, 1) := by decide +kernel
theorem dX6_necessaryOf_38 : decode cX6_necessaryOf 38 = .ok (.iload_n 3, 1) := by decide +kernel
theorem dX6_necessaryOf_39 : decode cX6_necessaryOf 39 = .ok (.ishl, 1) := by decide +kernel
theorem dX6_necessaryOf_40 : decode cX6_necessaryOf 40 = .ok (.goto 4, 3) := by decide +kernel
theorem dX6_necessaryOf_43 : decode cX6_necessaryOf 43 = .ok (.iconst 0, 1) := by decide +kernel
theorem dX6_necessaryOf_44 : decode cX6_necessaryOf 44 = .ok (.ior, 1) := by decide +kernel
theorem dX6_necessaryOf_45 : decode cX6_necessaryOf 45 = .ok (.istore_n 2, 1) := by decide +kernel
theorem dX6_necessaryOf_46 : decode cX6_necessaryOf 46 = .ok (.iinc 3 1, 3) := by decide +kernel
theorem dX6_necessaryOf_49 : decode cX6_necessaryOf 49 = .ok (.goto (-45), 3) := by decide +kernel
theorem dX6_necessaryOf_52 : decode cX6_necessaryOf 52 = .ok (.iload_n 2, 1) := by decide +kernel
theorem dX6_necessaryOf_53 : decode cX6_necessaryOf 53 = .ok (.ireturn, 1) := by decide +kernel
set_option maxRecDepth 20000 in
theorem ggX6_necessary_X6_asks : GoodIn wsX6_necessary wsX6_asks := goodIn_r _ [5, 6, 7, 4, 8, 9, 10, 11, 12, 13, 14, 15, 16, 17, 18, 19, 20, 21, 22, 23, 24, 25, 26, 27, 28, 29, 30, 31, 32, 33, 34, 35, 36, 37, 38, 39, 40, 41, 42, 47, 48, 49, 50, 51, 52, 53, 54, 55, 56, 57, 58, 59, 60, 61] (by decide +kernel) (by decide +kernel)
set_option maxRecDepth 20000 in
theorem gX6_necessary_X6_asks : GoodIn wsX6_necessary (wsV RX6 105 RX6 yX6_asks wsX6_asks) := goodIn_app (goodIn_of _ (by decide +kernel)) ggX6_necessary_X6_asks
set_option maxRecDepth 20000 in
theorem ggX6_necessary_X6_necessaryOf : GoodIn wsX6_necessary wsX6_necessaryOf := goodIn_r _ [46, 30, 26, 27, 28, 4, 29, 31, 32, 33, 34, 35, 36, 37, 38, 39, 40, 41, 42, 47, 48, 49, 50, 51, 52, 53, 54, 55, 56, 57, 58, 59, 60, 61] (by decide +kernel) (by decide +kernel)
set_option maxRecDepth 20000 in
theorem gX6_necessary_X6_necessaryOf : GoodIn wsX6_necessary (wsV RX6 121 RX6 yX6_necessaryOf wsX6_necessaryOf) := goodIn_app (goodIn_of _ (by decide +kernel)) ggX6_necessary_X6_necessaryOf
theorem dX6_necessary_0 : decode cX6_necessary 0 = .ok (.aload_n 0, 1) := by decide +kernel
theorem dX6_necessary_1 : decode cX6_necessary 1 = .ok (.iload_n 1, 1) := by decide +kernel
theorem dX6_necessary_2 : decode cX6_necessary 2 = .ok (.invokevirtual 105, 3) := by decide +kernel
theorem dX6_necessary_5 : decode cX6_necessary 5 = .ok (.istore_n 2, 1) := by decide +kernel
theorem dX6_necessary_6 : decode cX6_necessary 6 = .ok (.iload_n 2, 1) := by decide +kernel
theorem dX6_necessary_7 : decode cX6_necessary 7 = .ok (.ifCond .ne 11, 3) := by decide +kernel
theorem dX6_necessary_10 : decode cX6_necessary 10 = .ok (.aload_n 0, 1) := by decide +kernel
theorem dX6_necessary_11 : decode cX6_necessary 11 = .ok (.iload_n 1, 1) := by decide +kernel
theorem dX6_necessary_12 : decode cX6_necessary 12 = .ok (.invokevirtual 121, 3) := by decide +kernel
theorem dX6_necessary_15 : decode cX6_necessary 15 = .ok (.goto 4, 3) := by decide +kernel
theorem dX6_necessary_18 : decode cX6_necessary 18 = .ok (.iload_n 2, 1) := by decide +kernel
theorem dX6_necessary_19 : decode cX6_necessary 19 = .ok (.ireturn, 1) := by decide +kernel
set_option maxRecDepth 20000 in
theorem ggX6_dependenciesOf_X6_headOf : GoodIn wsX6_dependenciesOf wsX6_headOf := goodIn_r _ [6, 1, 11, 12, 13, 14, 15, 16, 17, 18, 19, 20, 21, 22, 23, 24, 25] (by decide +kernel) (by decide +kernel)
set_option maxRecDepth 20000 in
theorem gX6_dependenciesOf_X6_headOf : GoodIn wsX6_dependenciesOf (wsV RX6 73 RX6 yX6_headOf wsX6_headOf) := goodIn_app (goodIn_of _ (by decide +kernel)) ggX6_dependenciesOf_X6_headOf
set_option maxRecDepth 20000 in
theorem ggX6_dependenciesOf_X6_bodyOf : GoodIn wsX6_dependenciesOf wsX6_bodyOf := goodIn_r _ [10, 1, 11, 12, 13, 14, 15, 16, 17, 18, 19, 20, 21, 22, 23, 24, 25] (by decide +kernel) (by decide +kernel)
set_option maxRecDepth 20000 in
theorem gX6_dependenciesOf_X6_bodyOf : GoodIn wsX6_dependenciesOf (wsV RX6 76 RX6 yX6_bodyOf wsX6_bodyOf) := goodIn_app (goodIn_of _ (by decide +kernel)) ggX6_dependenciesOf_X6_bodyOf
theorem dX6_dependenciesOf_0 : decode cX6_dependenciesOf 0 = .ok (.iconst 0, 1) := by decide +kernel
theorem dX6_dependenciesOf_1 : decode cX6_dependenciesOf 1 = .ok (.istore_n 2, 1) := by decide +kernel
theorem dX6_dependenciesOf_2 : decode cX6_dependenciesOf 2 = .ok (.iconst (-1), 1) := by decide +kernel
theorem dX6_dependenciesOf_3 : decode cX6_dependenciesOf 3 = .ok (.istore_n 3, 1) := by decide +kernel
theorem dX6_dependenciesOf_4 : decode cX6_dependenciesOf 4 = .ok (.iload_n 3, 1) := by decide +kernel
theorem dX6_dependenciesOf_5 : decode cX6_dependenciesOf 5 = .ok (.iload_n 2, 1) := by decide +kernel
theorem dX6_dependenciesOf_6 : decode cX6_dependenciesOf 6 = .ok (.if_icmp .eq 65, 3) := by decide +kernel
theorem dX6_dependenciesOf_9 : decode cX6_dependenciesOf 9 = .ok (.iload_n 2, 1) := by decide +kernel
theorem dX6_dependenciesOf_10 : decode cX6_dependenciesOf 10 = .ok (.istore_n 3, 1) := by decide +kernel
theorem dX6_dependenciesOf_11 : decode cX6_dependenciesOf 11 = .ok (.iconst 0, 1) := by decide +kernel
theorem dX6_dependenciesOf_12 : decode cX6_dependenciesOf 12 = .ok (.istore 4, 2) := by decide +kernel
theorem dX6_dependenciesOf_14 : decode cX6_dependenciesOf 14 = .ok (.iload 4, 2) := by decide +kernel
theorem dX6_dependenciesOf_16 : decode cX6_dependenciesOf 16 = .ok (.aload_n 0, 1) := by decide +kernel
theorem dX6_dependenciesOf_17 : decode cX6_dependenciesOf 17 = .ok (.getfield 7, 3) := by decide +kernel
theorem dX6_dependenciesOf_20 : decode cX6_dependenciesOf 20 = .ok (.iconst 0, 1) := by decide +kernel
theorem dX6_dependenciesOf_21 : decode cX6_dependenciesOf 21 = .ok (.iaload, 1) := by decide +kernel
theorem dX6_dependenciesOf_22 : decode cX6_dependenciesOf 22 = .ok (.if_icmp .ge 46, 3) := by decide +kernel
theorem dX6_dependenciesOf_25 : decode cX6_dependenciesOf 25 = .ok (.iload_n 2, 1) := by decide +kernel
theorem dX6_dependenciesOf_26 : decode cX6_dependenciesOf 26 = .ok (.aload_n 0, 1) := by decide +kernel
theorem dX6_dependenciesOf_27 : decode cX6_dependenciesOf 27 = .ok (.iload 4, 2) := by decide +kernel
theorem dX6_dependenciesOf_29 : decode cX6_dependenciesOf 29 = .ok (.invokevirtual 73, 3) := by decide +kernel
theorem dX6_dependenciesOf_32 : decode cX6_dependenciesOf 32 = .ok (.iload_n 1, 1) := by decide +kernel
theorem dX6_dependenciesOf_33 : decode cX6_dependenciesOf 33 = .ok (.if_icmp .eq 17, 3) := by decide +kernel
theorem dX6_dependenciesOf_36 : decode cX6_dependenciesOf 36 = .ok (.iload_n 2, 1) := by decide +kernel
theorem dX6_dependenciesOf_37 : decode cX6_dependenciesOf 37 = .ok (.aload_n 0, 1) := by decide +kernel
theorem dX6_dependenciesOf_38 : decode cX6_dependenciesOf 38 = .ok (.iload 4, 2) := by decide +kernel
theorem dX6_dependenciesOf_40 : decode cX6_dependenciesOf 40 = .ok (.invokevirtual 73, 3) := by decide +kernel
theorem dX6_dependenciesOf_43 : decode cX6_dependenciesOf 43 = .ok (.ishr, 1) := by decide +kernel
theorem dX6_dependenciesOf_44 : decode cX6_dependenciesOf 44 = .ok (.iconst 1, 1) := by decide +kernel
theorem dX6_dependenciesOf_45 : decode cX6_dependenciesOf 45 = .ok (.iand, 1) := by decide +kernel
theorem dX6_dependenciesOf_46 : decode cX6_dependenciesOf 46 = .ok (.iconst 1, 1) := by decide +kernel
theorem dX6_dependenciesOf_47 : decode cX6_dependenciesOf 47 = .ok (.if_icmp .ne 12, 3) := by decide +kernel
theorem dX6_dependenciesOf_50 : decode cX6_dependenciesOf 50 = .ok (.aload_n 0, 1) := by decide +kernel
theorem dX6_dependenciesOf_51 : decode cX6_dependenciesOf 51 = .ok (.iload 4, 2) := by decide +kernel
theorem dX6_dependenciesOf_53 : decode cX6_dependenciesOf 53 = .ok (.invokevirtual 76, 3) := by decide +kernel
theorem dX6_dependenciesOf_56 : decode cX6_dependenciesOf 56 = .ok (.goto 4, 3) := by decide +kernel
theorem dX6_dependenciesOf_59 : decode cX6_dependenciesOf 59 = .ok (.iconst 0, 1) := by decide +kernel
theorem dX6_dependenciesOf_60 : decode cX6_dependenciesOf 60 = .ok (.ior, 1) := by decide +kernel
theorem dX6_dependenciesOf_61 : decode cX6_dependenciesOf 61 = .ok (.istore_n 2, 1) := by decide +kernel
theorem dX6_dependenciesOf_62 : decode cX6_dependenciesOf 62 = .ok (.iinc 4 1, 3) := by decide +kernel
theorem dX6_dependenciesOf_65 : decode cX6_dependenciesOf 65 = .ok (.goto (-51), 3) := by decide +kernel
theorem dX6_dependenciesOf_68 : decode cX6_dependenciesOf 68 = .ok (.goto (-64), 3) := by decide +kernel
theorem dX6_dependenciesOf_71 : decode cX6_dependenciesOf 71 = .ok (.iload_n 2, 1) := by decide +kernel
theorem dX6_dependenciesOf_72 : decode cX6_dependenciesOf 72 = .ok (.ireturn, 1) := by decide +kernel
set_option maxRecDepth 20000 in
theorem ggX6_dependencies_X6_isAtom : GoodIn wsX6_dependencies wsX6_isAtom := goodIn_r _ [4, 5, 6, 7, 3, 8] (by decide +kernel) (by decide +kernel)
set_option maxRecDepth 20000 in
theorem gX6_dependencies_X6_isAtom : GoodIn wsX6_dependencies (va_wsS RX6 53 yX6_isAtom wsX6_isAtom) := goodIn_app (goodIn_of _ (by decide +kernel)) ggX6_dependencies_X6_isAtom
set_option maxRecDepth 20000 in
theorem ggX6_dependencies_X6_dependenciesOf : GoodIn wsX6_dependencies wsX6_dependenciesOf := goodIn_r _ [12, 13, 14, 15, 16, 3, 17, 18, 19, 20, 21, 27, 28, 29, 30, 31, 32, 33, 34, 35, 36, 37, 38, 39, 40, 41] (by decide +kernel) (by decide +kernel)
set_option maxRecDepth 20000 in
theorem gX6_dependencies_X6_dependenciesOf : GoodIn wsX6_dependencies (wsV RX6 124 RX6 yX6_dependenciesOf wsX6_dependenciesOf) := goodIn_app (goodIn_of _ (by decide +kernel)) ggX6_dependencies_X6_dependenciesOf
set_option maxRecDepth 20000 in
theorem ggX6_dependencies_X6_error : GoodIn wsX6_dependencies wsX6_error := goodIn_r _ [25, 26, 27, 28, 29, 30, 31, 32, 33, 34, 35, 36, 37, 38, 39, 40, 41] (by decide +kernel) (by decide +kernel)
set_option maxRecDepth 20000 in
theorem gX6_dependencies_X6_error : GoodIn wsX6_dependencies (wsV RX6 60 RX6 yX6_error wsX6_error) := goodIn_app (goodIn_of _ (by decide +kernel)) ggX6_dependencies_X6_error
theorem dX6_dependencies_0 : decode cX6_dependencies 0 = .ok (.iload_n 1, 1) := by decide +kernel
theorem dX6_dependencies_1 : decode cX6_dependencies 1 = .ok (.invokestatic 53, 3) := by decide +kernel
theorem dX6_dependencies_4 : decode cX6_dependencies 4 = .ok (.ifCond .eq 11, 3) := by decide +kernel
theorem dX6_dependencies_7 : decode cX6_dependencies 7 = .ok (.aload_n 0, 1) := by decide +kernel
theorem dX6_dependencies_8 : decode cX6_dependencies 8 = .ok (.iload_n 1, 1) := by decide +kernel
theorem dX6_dependencies_9 : decode cX6_dependencies 9 = .ok (.invokevirtual 124, 3) := by decide +kernel
theorem dX6_dependencies_12 : decode cX6_dependencies 12 = .ok (.goto 9, 3) := by decide +kernel
theorem dX6_dependencies_15 : decode cX6_dependencies 15 = .ok (.aload_n 0, 1) := by decide +kernel
theorem dX6_dependencies_16 : decode cX6_dependencies 16 = .ok (.bipush (-2), 2) := by decide +kernel
theorem dX6_dependencies_18 : decode cX6_dependencies 18 = .ok (.invokevirtual 60, 3) := by decide +kernel
theorem dX6_dependencies_21 : decode cX6_dependencies 21 = .ok (.ireturn, 1) := by decide +kernel
set_option maxRecDepth 20000 in
theorem ggX6_cyclicAtoms_X6_dependenciesOf : GoodIn wsX6_cyclicAtoms wsX6_dependenciesOf := goodIn_r _ [5, 6, 7, 8, 9, 4, 10, 11, 12, 13, 14, 15, 16, 17, 18, 19, 20, 21, 22, 23, 24, 25, 26, 27, 28, 29] (by decide +kernel) (by decide +kernel)
set_option maxRecDepth 20000 in
theorem gX6_cyclicAtoms_X6_dependenciesOf : GoodIn wsX6_cyclicAtoms (wsV RX6 124 RX6 yX6_dependenciesOf wsX6_dependenciesOf) := goodIn_app (goodIn_of _ (by decide +kernel)) ggX6_cyclicAtoms_X6_dependenciesOf
theorem dX6_cyclicAtoms_0 : decode cX6_cyclicAtoms 0 = .ok (.iconst 0, 1) := by decide +kernel
theorem dX6_cyclicAtoms_1 : decode cX6_cyclicAtoms 1 = .ok (.istore_n 1, 1) := by decide +kernel
theorem dX6_cyclicAtoms_2 : decode cX6_cyclicAtoms 2 = .ok (.iconst 0, 1) := by decide +kernel
theorem dX6_cyclicAtoms_3 : decode cX6_cyclicAtoms 3 = .ok (.istore_n 2, 1) := by decide +kernel
theorem dX6_cyclicAtoms_4 : decode cX6_cyclicAtoms 4 = .ok (.iload_n 2, 1) := by decide +kernel
theorem dX6_cyclicAtoms_5 : decode cX6_cyclicAtoms 5 = .ok (.bipush 16, 2) := by decide +kernel
theorem dX6_cyclicAtoms_7 : decode cX6_cyclicAtoms 7 = .ok (.if_icmp .ge 21, 3) := by decide +kernel
theorem dX6_cyclicAtoms_10 : decode cX6_cyclicAtoms 10 = .ok (.iload_n 1, 1) := by decide +kernel
theorem dX6_cyclicAtoms_11 : decode cX6_cyclicAtoms 11 = .ok (.aload_n 0, 1) := by decide +kernel
theorem dX6_cyclicAtoms_12 : decode cX6_cyclicAtoms 12 = .ok (.iload_n 2, 1) := by decide +kernel
theorem dX6_cyclicAtoms_13 : decode cX6_cyclicAtoms 13 = .ok (.invokevirtual 124, 3) := by decide +kernel
theorem dX6_cyclicAtoms_16 : decode cX6_cyclicAtoms 16 = .ok (.iconst 1, 1) := by decide +kernel
theorem dX6_cyclicAtoms_17 : decode cX6_cyclicAtoms 17 = .ok (.iload_n 2, 1) := by decide +kernel
theorem dX6_cyclicAtoms_18 : decode cX6_cyclicAtoms 18 = .ok (.ishl, 1) := by decide +kernel
theorem dX6_cyclicAtoms_19 : decode cX6_cyclicAtoms 19 = .ok (.iand, 1) := by decide +kernel
theorem dX6_cyclicAtoms_20 : decode cX6_cyclicAtoms 20 = .ok (.ior, 1) := by decide +kernel
theorem dX6_cyclicAtoms_21 : decode cX6_cyclicAtoms 21 = .ok (.istore_n 1, 1) := by decide +kernel
theorem dX6_cyclicAtoms_22 : decode cX6_cyclicAtoms 22 = .ok (.iinc 2 1, 3) := by decide +kernel
theorem dX6_cyclicAtoms_25 : decode cX6_cyclicAtoms 25 = .ok (.goto (-21), 3) := by decide +kernel
theorem dX6_cyclicAtoms_28 : decode cX6_cyclicAtoms 28 = .ok (.iload_n 1, 1) := by decide +kernel
theorem dX6_cyclicAtoms_29 : decode cX6_cyclicAtoms 29 = .ok (.ireturn, 1) := by decide +kernel
set_option maxRecDepth 20000 in
theorem ggX6_overDeletedOf_X6_whole : GoodIn wsX6_overDeletedOf wsX6_whole := goodIn_r _ [6, 7, 8, 9, 5, 10, 1, 11, 12, 13, 14, 15, 16, 17, 18, 19, 20, 21, 22, 23, 24, 25, 26, 27, 28, 29, 30, 31, 32, 33, 34, 35, 36, 37] (by decide +kernel) (by decide +kernel)
set_option maxRecDepth 20000 in
theorem gX6_overDeletedOf_X6_whole : GoodIn wsX6_overDeletedOf (wsV RX6 87 RX6 yX6_whole wsX6_whole) := goodIn_app (goodIn_of _ (by decide +kernel)) ggX6_overDeletedOf_X6_whole
set_option maxRecDepth 20000 in
theorem ggX6_overDeletedOf_X6_bodyOf : GoodIn wsX6_overDeletedOf wsX6_bodyOf := goodIn_r _ [18, 1, 23, 24, 25, 26, 27, 28, 29, 30, 31, 32, 33, 34, 35, 36, 37] (by decide +kernel) (by decide +kernel)
set_option maxRecDepth 20000 in
theorem gX6_overDeletedOf_X6_bodyOf : GoodIn wsX6_overDeletedOf (wsV RX6 76 RX6 yX6_bodyOf wsX6_bodyOf) := goodIn_app (goodIn_of _ (by decide +kernel)) ggX6_overDeletedOf_X6_bodyOf
set_option maxRecDepth 20000 in
theorem ggX6_overDeletedOf_X6_headOf : GoodIn wsX6_overDeletedOf wsX6_headOf := goodIn_r _ [22, 1, 23, 24, 25, 26, 27, 28, 29, 30, 31, 32, 33, 34, 35, 36, 37] (by decide +kernel) (by decide +kernel)
set_option maxRecDepth 20000 in
theorem gX6_overDeletedOf_X6_headOf : GoodIn wsX6_overDeletedOf (wsV RX6 73 RX6 yX6_headOf wsX6_headOf) := goodIn_app (goodIn_of _ (by decide +kernel)) ggX6_overDeletedOf_X6_headOf
theorem dX6_overDeletedOf_0 : decode cX6_overDeletedOf 0 = .ok (.aload_n 0, 1) := by decide +kernel
theorem dX6_overDeletedOf_1 : decode cX6_overDeletedOf 1 = .ok (.invokevirtual 87, 3) := by decide +kernel
theorem dX6_overDeletedOf_4 : decode cX6_overDeletedOf 4 = .ok (.istore_n 2, 1) := by decide +kernel
theorem dX6_overDeletedOf_5 : decode cX6_overDeletedOf 5 = .ok (.aload_n 0, 1) := by decide +kernel
theorem dX6_overDeletedOf_6 : decode cX6_overDeletedOf 6 = .ok (.iload_n 1, 1) := by decide +kernel
theorem dX6_overDeletedOf_7 : decode cX6_overDeletedOf 7 = .ok (.invokevirtual 76, 3) := by decide +kernel
theorem dX6_overDeletedOf_10 : decode cX6_overDeletedOf 10 = .ok (.iload_n 2, 1) := by decide +kernel
theorem dX6_overDeletedOf_11 : decode cX6_overDeletedOf 11 = .ok (.iconst (-1), 1) := by decide +kernel
theorem dX6_overDeletedOf_12 : decode cX6_overDeletedOf 12 = .ok (.ixor, 1) := by decide +kernel
theorem dX6_overDeletedOf_13 : decode cX6_overDeletedOf 13 = .ok (.iand, 1) := by decide +kernel
theorem dX6_overDeletedOf_14 : decode cX6_overDeletedOf 14 = .ok (.ifCond .ne 13, 3) := by decide +kernel
theorem dX6_overDeletedOf_17 : decode cX6_overDeletedOf 17 = .ok (.iconst 1, 1) := by decide +kernel
theorem dX6_overDeletedOf_18 : decode cX6_overDeletedOf 18 = .ok (.aload_n 0, 1) := by decide +kernel
theorem dX6_overDeletedOf_19 : decode cX6_overDeletedOf 19 = .ok (.iload_n 1, 1) := by decide +kernel
theorem dX6_overDeletedOf_20 : decode cX6_overDeletedOf 20 = .ok (.invokevirtual 73, 3) := by decide +kernel
theorem dX6_overDeletedOf_23 : decode cX6_overDeletedOf 23 = .ok (.ishl, 1) := by decide +kernel
theorem dX6_overDeletedOf_24 : decode cX6_overDeletedOf 24 = .ok (.goto 4, 3) := by decide +kernel
theorem dX6_overDeletedOf_27 : decode cX6_overDeletedOf 27 = .ok (.iconst 0, 1) := by decide +kernel
theorem dX6_overDeletedOf_28 : decode cX6_overDeletedOf 28 = .ok (.istore_n 3, 1) := by decide +kernel
theorem dX6_overDeletedOf_29 : decode cX6_overDeletedOf 29 = .ok (.iconst (-1), 1) := by decide +kernel
theorem dX6_overDeletedOf_30 : decode cX6_overDeletedOf 30 = .ok (.istore 4, 2) := by decide +kernel
theorem dX6_overDeletedOf_32 : decode cX6_overDeletedOf 32 = .ok (.iload 4, 2) := by decide +kernel
theorem dX6_overDeletedOf_34 : decode cX6_overDeletedOf 34 = .ok (.iload_n 3, 1) := by decide +kernel
theorem dX6_overDeletedOf_35 : decode cX6_overDeletedOf 35 = .ok (.if_icmp .eq 74, 3) := by decide +kernel
theorem dX6_overDeletedOf_38 : decode cX6_overDeletedOf 38 = .ok (.iload_n 3, 1) := by decide +kernel
theorem dX6_overDeletedOf_39 : decode cX6_overDeletedOf 39 = .ok (.istore 4, 2) := by decide +kernel
theorem dX6_overDeletedOf_41 : decode cX6_overDeletedOf 41 = .ok (.iconst 0, 1) := by decide +kernel
theorem dX6_overDeletedOf_42 : decode cX6_overDeletedOf 42 = .ok (.istore 5, 2) := by decide +kernel
theorem dX6_overDeletedOf_44 : decode cX6_overDeletedOf 44 = .ok (.iload 5, 2) := by decide +kernel
theorem dX6_overDeletedOf_46 : decode cX6_overDeletedOf 46 = .ok (.aload_n 0, 1) := by decide +kernel
theorem dX6_overDeletedOf_47 : decode cX6_overDeletedOf 47 = .ok (.getfield 7, 3) := by decide +kernel
theorem dX6_overDeletedOf_50 : decode cX6_overDeletedOf 50 = .ok (.iconst 0, 1) := by decide +kernel
theorem dX6_overDeletedOf_51 : decode cX6_overDeletedOf 51 = .ok (.iaload, 1) := by decide +kernel
theorem dX6_overDeletedOf_52 : decode cX6_overDeletedOf 52 = .ok (.if_icmp .ge 54, 3) := by decide +kernel
theorem dX6_overDeletedOf_55 : decode cX6_overDeletedOf 55 = .ok (.iload_n 3, 1) := by decide +kernel
theorem dX6_overDeletedOf_56 : decode cX6_overDeletedOf 56 = .ok (.iload 5, 2) := by decide +kernel
theorem dX6_overDeletedOf_58 : decode cX6_overDeletedOf 58 = .ok (.iload_n 1, 1) := by decide +kernel
theorem dX6_overDeletedOf_59 : decode cX6_overDeletedOf 59 = .ok (.if_icmp .eq 38, 3) := by decide +kernel
theorem dX6_overDeletedOf_62 : decode cX6_overDeletedOf 62 = .ok (.aload_n 0, 1) := by decide +kernel
theorem dX6_overDeletedOf_63 : decode cX6_overDeletedOf 63 = .ok (.iload 5, 2) := by decide +kernel
theorem dX6_overDeletedOf_65 : decode cX6_overDeletedOf 65 = .ok (.invokevirtual 76, 3) := by decide +kernel
theorem dX6_overDeletedOf_68 : decode cX6_overDeletedOf 68 = .ok (.iload_n 2, 1) := by decide +kernel
theorem dX6_overDeletedOf_69 : decode cX6_overDeletedOf 69 = .ok (.iconst (-1), 1) := by decide +kernel
theorem dX6_overDeletedOf_70 : decode cX6_overDeletedOf 70 = .ok (.ixor, 1) := by decide +kernel
theorem dX6_overDeletedOf_71 : decode cX6_overDeletedOf 71 = .ok (.iand, 1) := by decide +kernel
theorem dX6_overDeletedOf_72 : decode cX6_overDeletedOf 72 = .ok (.ifCond .ne 25, 3) := by decide +kernel
theorem dX6_overDeletedOf_75 : decode cX6_overDeletedOf 75 = .ok (.aload_n 0, 1) := by decide +kernel
theorem dX6_overDeletedOf_76 : decode cX6_overDeletedOf 76 = .ok (.iload 5, 2) := by decide +kernel
theorem dX6_overDeletedOf_78 : decode cX6_overDeletedOf 78 = .ok (.invokevirtual 76, 3) := by decide +kernel
theorem dX6_overDeletedOf_81 : decode cX6_overDeletedOf 81 = .ok (.iload_n 3, 1) := by decide +kernel
theorem dX6_overDeletedOf_82 : decode cX6_overDeletedOf 82 = .ok (.iand, 1) := by decide +kernel
theorem dX6_overDeletedOf_83 : decode cX6_overDeletedOf 83 = .ok (.ifCond .eq 14, 3) := by decide +kernel
theorem dX6_overDeletedOf_86 : decode cX6_overDeletedOf 86 = .ok (.iconst 1, 1) := by decide +kernel
theorem dX6_overDeletedOf_87 : decode cX6_overDeletedOf 87 = .ok (.aload_n 0, 1) := by decide +kernel
theorem dX6_overDeletedOf_88 : decode cX6_overDeletedOf 88 = .ok (.iload 5, 2) := by decide +kernel
theorem dX6_overDeletedOf_90 : decode cX6_overDeletedOf 90 = .ok (.invokevirtual 73, 3) := by decide +kernel
theorem dX6_overDeletedOf_93 : decode cX6_overDeletedOf 93 = .ok (.ishl, 1) := by decide +kernel
theorem dX6_overDeletedOf_94 : decode cX6_overDeletedOf 94 = .ok (.goto 4, 3) := by decide +kernel
theorem dX6_overDeletedOf_97 : decode cX6_overDeletedOf 97 = .ok (.iconst 0, 1) := by decide +kernel
theorem dX6_overDeletedOf_98 : decode cX6_overDeletedOf 98 = .ok (.ior, 1) := by decide +kernel
theorem dX6_overDeletedOf_99 : decode cX6_overDeletedOf 99 = .ok (.istore_n 3, 1) := by decide +kernel
theorem dX6_overDeletedOf_100 : decode cX6_overDeletedOf 100 = .ok (.iinc 5 1, 3) := by decide +kernel
theorem dX6_overDeletedOf_103 : decode cX6_overDeletedOf 103 = .ok (.goto (-59), 3) := by decide +kernel
theorem dX6_overDeletedOf_106 : decode cX6_overDeletedOf 106 = .ok (.goto (-74), 3) := by decide +kernel
theorem dX6_overDeletedOf_109 : decode cX6_overDeletedOf 109 = .ok (.iload_n 3, 1) := by decide +kernel
theorem dX6_overDeletedOf_110 : decode cX6_overDeletedOf 110 = .ok (.ireturn, 1) := by decide +kernel
set_option maxRecDepth 20000 in
theorem ggX6_overDeleted_X6_isRule : GoodIn wsX6_overDeleted wsX6_isRule := goodIn_r _ [5, 6, 7, 8, 4, 9, 39, 40, 41, 42, 43, 44, 45, 46, 47, 48, 49, 50, 51, 52, 53] (by decide +kernel) (by decide +kernel)
set_option maxRecDepth 20000 in
theorem gX6_overDeleted_X6_isRule : GoodIn wsX6_overDeleted (wsV RX6 70 RX6 yX6_isRule wsX6_isRule) := goodIn_app (goodIn_of _ (by decide +kernel)) ggX6_overDeleted_X6_isRule
set_option maxRecDepth 20000 in
theorem ggX6_overDeleted_X6_overDeletedOf : GoodIn wsX6_overDeleted wsX6_overDeletedOf := goodIn_r _ [13, 6, 14, 15, 16, 4, 17, 18, 19, 20, 21, 22, 23, 24, 25, 26, 27, 28, 29, 30, 31, 32, 33, 39, 40, 41, 42, 43, 44, 45, 46, 47, 48, 49, 50, 51, 52, 53] (by decide +kernel) (by decide +kernel)
set_option maxRecDepth 20000 in
theorem gX6_overDeleted_X6_overDeletedOf : GoodIn wsX6_overDeleted (wsV RX6 127 RX6 yX6_overDeletedOf wsX6_overDeletedOf) := goodIn_app (goodIn_of _ (by decide +kernel)) ggX6_overDeleted_X6_overDeletedOf
set_option maxRecDepth 20000 in
theorem ggX6_overDeleted_X6_error : GoodIn wsX6_overDeleted wsX6_error := goodIn_r _ [37, 38, 39, 40, 41, 42, 43, 44, 45, 46, 47, 48, 49, 50, 51, 52, 53] (by decide +kernel) (by decide +kernel)
set_option maxRecDepth 20000 in
theorem gX6_overDeleted_X6_error : GoodIn wsX6_overDeleted (wsV RX6 60 RX6 yX6_error wsX6_error) := goodIn_app (goodIn_of _ (by decide +kernel)) ggX6_overDeleted_X6_error
theorem dX6_overDeleted_0 : decode cX6_overDeleted 0 = .ok (.aload_n 0, 1) := by decide +kernel
theorem dX6_overDeleted_1 : decode cX6_overDeleted 1 = .ok (.iload_n 1, 1) := by decide +kernel
theorem dX6_overDeleted_2 : decode cX6_overDeleted 2 = .ok (.invokevirtual 70, 3) := by decide +kernel
theorem dX6_overDeleted_5 : decode cX6_overDeleted 5 = .ok (.ifCond .eq 11, 3) := by decide +kernel
theorem dX6_overDeleted_8 : decode cX6_overDeleted 8 = .ok (.aload_n 0, 1) := by decide +kernel
theorem dX6_overDeleted_9 : decode cX6_overDeleted 9 = .ok (.iload_n 1, 1) := by decide +kernel
theorem dX6_overDeleted_10 : decode cX6_overDeleted 10 = .ok (.invokevirtual 127, 3) := by decide +kernel
theorem dX6_overDeleted_13 : decode cX6_overDeleted 13 = .ok (.goto 9, 3) := by decide +kernel
theorem dX6_overDeleted_16 : decode cX6_overDeleted 16 = .ok (.aload_n 0, 1) := by decide +kernel
theorem dX6_overDeleted_17 : decode cX6_overDeleted 17 = .ok (.bipush (-2), 2) := by decide +kernel
theorem dX6_overDeleted_19 : decode cX6_overDeleted 19 = .ok (.invokevirtual 60, 3) := by decide +kernel
theorem dX6_overDeleted_22 : decode cX6_overDeleted 22 = .ok (.ireturn, 1) := by decide +kernel
set_option maxRecDepth 20000 in
theorem ggX6_lostOf_X6_whole : GoodIn wsX6_lostOf wsX6_whole := goodIn_r _ [5, 6, 7, 8, 4, 9, 10, 11, 12, 13, 14, 15, 16, 17, 18, 19, 20, 21, 22, 23, 24, 25, 26, 27, 28, 29, 30, 31, 32, 33, 34, 35, 36, 37] (by decide +kernel) (by decide +kernel)
set_option maxRecDepth 20000 in
theorem gX6_lostOf_X6_whole : GoodIn wsX6_lostOf (wsV RX6 87 RX6 yX6_whole wsX6_whole) := goodIn_app (goodIn_of _ (by decide +kernel)) ggX6_lostOf_X6_whole
set_option maxRecDepth 20000 in
theorem ggX6_lostOf_X6_everyRule : GoodIn wsX6_lostOf wsX6_everyRule := goodIn_r _ [9, 10, 23, 24, 25, 26, 27, 28, 29, 30, 31, 32, 33, 34, 35, 36, 37] (by decide +kernel) (by decide +kernel)
set_option maxRecDepth 20000 in
theorem gX6_lostOf_X6_everyRule : GoodIn wsX6_lostOf (wsV RX6 79 RX6 yX6_everyRule wsX6_everyRule) := goodIn_app (goodIn_of _ (by decide +kernel)) ggX6_lostOf_X6_everyRule
set_option maxRecDepth 20000 in
theorem ggX6_lostOf_X6_modelOf : GoodIn wsX6_lostOf wsX6_modelOf := goodIn_r _ [14, 10, 15, 16, 17, 4, 18, 19, 20, 21, 22, 23, 24, 25, 26, 27, 28, 29, 30, 31, 32, 33, 34, 35, 36, 37] (by decide +kernel) (by decide +kernel)
set_option maxRecDepth 20000 in
theorem gX6_lostOf_X6_modelOf : GoodIn wsX6_lostOf (wsV RX6 83 RX6 yX6_modelOf wsX6_modelOf) := goodIn_app (goodIn_of _ (by decide +kernel)) ggX6_lostOf_X6_modelOf
theorem dX6_lostOf_0 : decode cX6_lostOf 0 = .ok (.aload_n 0, 1) := by decide +kernel
theorem dX6_lostOf_1 : decode cX6_lostOf 1 = .ok (.invokevirtual 87, 3) := by decide +kernel
theorem dX6_lostOf_4 : decode cX6_lostOf 4 = .ok (.aload_n 0, 1) := by decide +kernel
theorem dX6_lostOf_5 : decode cX6_lostOf 5 = .ok (.aload_n 0, 1) := by decide +kernel
theorem dX6_lostOf_6 : decode cX6_lostOf 6 = .ok (.invokevirtual 79, 3) := by decide +kernel
theorem dX6_lostOf_9 : decode cX6_lostOf 9 = .ok (.iconst 1, 1) := by decide +kernel
theorem dX6_lostOf_10 : decode cX6_lostOf 10 = .ok (.iload_n 1, 1) := by decide +kernel
theorem dX6_lostOf_11 : decode cX6_lostOf 11 = .ok (.ishl, 1) := by decide +kernel
theorem dX6_lostOf_12 : decode cX6_lostOf 12 = .ok (.iconst (-1), 1) := by decide +kernel
theorem dX6_lostOf_13 : decode cX6_lostOf 13 = .ok (.ixor, 1) := by decide +kernel
theorem dX6_lostOf_14 : decode cX6_lostOf 14 = .ok (.iand, 1) := by decide +kernel
theorem dX6_lostOf_15 : decode cX6_lostOf 15 = .ok (.iconst 0, 1) := by decide +kernel
theorem dX6_lostOf_16 : decode cX6_lostOf 16 = .ok (.invokevirtual 83, 3) := by decide +kernel
theorem dX6_lostOf_19 : decode cX6_lostOf 19 = .ok (.iconst (-1), 1) := by decide +kernel
theorem dX6_lostOf_20 : decode cX6_lostOf 20 = .ok (.ixor, 1) := by decide +kernel
theorem dX6_lostOf_21 : decode cX6_lostOf 21 = .ok (.iand, 1) := by decide +kernel
theorem dX6_lostOf_22 : decode cX6_lostOf 22 = .ok (.ireturn, 1) := by decide +kernel
set_option maxRecDepth 20000 in
theorem ggX6_lost_X6_isRule : GoodIn wsX6_lost wsX6_isRule := goodIn_r _ [5, 6, 7, 8, 4, 9, 39, 40, 41, 42, 43, 44, 45, 46, 47, 48, 49, 50, 51, 52, 53] (by decide +kernel) (by decide +kernel)
set_option maxRecDepth 20000 in
theorem gX6_lost_X6_isRule : GoodIn wsX6_lost (wsV RX6 70 RX6 yX6_isRule wsX6_isRule) := goodIn_app (goodIn_of _ (by decide +kernel)) ggX6_lost_X6_isRule
set_option maxRecDepth 20000 in
theorem ggX6_lost_X6_lostOf : GoodIn wsX6_lost wsX6_lostOf := goodIn_r _ [13, 14, 15, 16, 4, 17, 18, 19, 20, 21, 6, 22, 23, 24, 25, 26, 27, 28, 29, 30, 31, 32, 33, 39, 40, 41, 42, 43, 44, 45, 46, 47, 48, 49, 50, 51, 52, 53] (by decide +kernel) (by decide +kernel)
set_option maxRecDepth 20000 in
theorem gX6_lost_X6_lostOf : GoodIn wsX6_lost (wsV RX6 130 RX6 yX6_lostOf wsX6_lostOf) := goodIn_app (goodIn_of _ (by decide +kernel)) ggX6_lost_X6_lostOf
set_option maxRecDepth 20000 in
theorem ggX6_lost_X6_error : GoodIn wsX6_lost wsX6_error := goodIn_r _ [37, 38, 39, 40, 41, 42, 43, 44, 45, 46, 47, 48, 49, 50, 51, 52, 53] (by decide +kernel) (by decide +kernel)
set_option maxRecDepth 20000 in
theorem gX6_lost_X6_error : GoodIn wsX6_lost (wsV RX6 60 RX6 yX6_error wsX6_error) := goodIn_app (goodIn_of _ (by decide +kernel)) ggX6_lost_X6_error
theorem dX6_lost_0 : decode cX6_lost 0 = .ok (.aload_n 0, 1) := by decide +kernel
theorem dX6_lost_1 : decode cX6_lost 1 = .ok (.iload_n 1, 1) := by decide +kernel
theorem dX6_lost_2 : decode cX6_lost 2 = .ok (.invokevirtual 70, 3) := by decide +kernel
theorem dX6_lost_5 : decode cX6_lost 5 = .ok (.ifCond .eq 11, 3) := by decide +kernel
theorem dX6_lost_8 : decode cX6_lost 8 = .ok (.aload_n 0, 1) := by decide +kernel
theorem dX6_lost_9 : decode cX6_lost 9 = .ok (.iload_n 1, 1) := by decide +kernel
theorem dX6_lost_10 : decode cX6_lost 10 = .ok (.invokevirtual 130, 3) := by decide +kernel
theorem dX6_lost_13 : decode cX6_lost 13 = .ok (.goto 9, 3) := by decide +kernel
theorem dX6_lost_16 : decode cX6_lost 16 = .ok (.aload_n 0, 1) := by decide +kernel
theorem dX6_lost_17 : decode cX6_lost 17 = .ok (.bipush (-2), 2) := by decide +kernel
theorem dX6_lost_19 : decode cX6_lost 19 = .ok (.invokevirtual 60, 3) := by decide +kernel
theorem dX6_lost_22 : decode cX6_lost 22 = .ok (.ireturn, 1) := by decide +kernel
set_option maxRecDepth 20000 in
theorem ggX6_gained_X6_isAtom : GoodIn wsX6_gained wsX6_isAtom := goodIn_r _ [4, 5, 6, 7, 3, 8] (by decide +kernel) (by decide +kernel)
set_option maxRecDepth 20000 in
theorem gX6_gained_X6_isAtom : GoodIn wsX6_gained (va_wsS RX6 53 yX6_isAtom wsX6_isAtom) := goodIn_app (goodIn_of _ (by decide +kernel)) ggX6_gained_X6_isAtom
set_option maxRecDepth 20000 in
theorem ggX6_gained_X6_isBody : GoodIn wsX6_gained wsX6_isBody := goodIn_r _ [11, 12, 6, 7, 3, 8, 13, 14, 15] (by decide +kernel) (by decide +kernel)
set_option maxRecDepth 20000 in
theorem gX6_gained_X6_isBody : GoodIn wsX6_gained (va_wsS RX6 57 yX6_isBody wsX6_isBody) := goodIn_app (goodIn_of _ (by decide +kernel)) ggX6_gained_X6_isBody
set_option maxRecDepth 20000 in
theorem ggX6_gained_X6_error : GoodIn wsX6_gained wsX6_error := goodIn_r _ [19, 20, 42, 43, 44, 45, 46, 47, 48, 49, 50, 51, 52, 53, 54, 55, 56] (by decide +kernel) (by decide +kernel)
set_option maxRecDepth 20000 in
theorem gX6_gained_X6_error : GoodIn wsX6_gained (wsV RX6 60 RX6 yX6_error wsX6_error) := goodIn_app (goodIn_of _ (by decide +kernel)) ggX6_gained_X6_error
set_option maxRecDepth 20000 in
theorem ggX6_gained_X6_whole : GoodIn wsX6_gained wsX6_whole := goodIn_r _ [24, 25, 26, 27, 3, 28, 29, 30, 31, 32, 33, 34, 35, 36, 37, 38, 39, 40, 41, 42, 43, 44, 45, 46, 47, 48, 49, 50, 51, 52, 53, 54, 55, 56] (by decide +kernel) (by decide +kernel)
set_option maxRecDepth 20000 in
theorem gX6_gained_X6_whole : GoodIn wsX6_gained (wsV RX6 87 RX6 yX6_whole wsX6_whole) := goodIn_app (goodIn_of _ (by decide +kernel)) ggX6_gained_X6_whole
set_option maxRecDepth 20000 in
theorem ggX6_gained_X6_everyRule : GoodIn wsX6_gained wsX6_everyRule := goodIn_r _ [28, 29, 42, 43, 44, 45, 46, 47, 48, 49, 50, 51, 52, 53, 54, 55, 56] (by decide +kernel) (by decide +kernel)
set_option maxRecDepth 20000 in
theorem gX6_gained_X6_everyRule : GoodIn wsX6_gained (wsV RX6 79 RX6 yX6_everyRule wsX6_everyRule) := goodIn_app (goodIn_of _ (by decide +kernel)) ggX6_gained_X6_everyRule
set_option maxRecDepth 20000 in
theorem ggX6_gained_X6_modelOf : GoodIn wsX6_gained wsX6_modelOf := goodIn_r _ [33, 29, 34, 35, 36, 3, 37, 38, 39, 40, 41, 42, 43, 44, 45, 46, 47, 48, 49, 50, 51, 52, 53, 54, 55, 56] (by decide +kernel) (by decide +kernel)
set_option maxRecDepth 20000 in
theorem gX6_gained_X6_modelOf : GoodIn wsX6_gained (wsV RX6 83 RX6 yX6_modelOf wsX6_modelOf) := goodIn_app (goodIn_of _ (by decide +kernel)) ggX6_gained_X6_modelOf
theorem dX6_gained_0 : decode cX6_gained 0 = .ok (.iload_n 1, 1) := by decide +kernel
theorem dX6_gained_1 : decode cX6_gained 1 = .ok (.invokestatic 53, 3) := by decide +kernel
theorem dX6_gained_4 : decode cX6_gained 4 = .ok (.ifCond .eq 10, 3) := by decide +kernel
theorem dX6_gained_7 : decode cX6_gained 7 = .ok (.iload_n 2, 1) := by decide +kernel
theorem dX6_gained_8 : decode cX6_gained 8 = .ok (.invokestatic 57, 3) := by decide +kernel
theorem dX6_gained_11 : decode cX6_gained 11 = .ok (.ifCond .ne 10, 3) := by decide +kernel
theorem dX6_gained_14 : decode cX6_gained 14 = .ok (.aload_n 0, 1) := by decide +kernel
theorem dX6_gained_15 : decode cX6_gained 15 = .ok (.bipush (-2), 2) := by decide +kernel
theorem dX6_gained_17 : decode cX6_gained 17 = .ok (.invokevirtual 60, 3) := by decide +kernel
theorem dX6_gained_20 : decode cX6_gained 20 = .ok (.ireturn, 1) := by decide +kernel
theorem dX6_gained_21 : decode cX6_gained 21 = .ok (.aload_n 0, 1) := by decide +kernel
theorem dX6_gained_22 : decode cX6_gained 22 = .ok (.invokevirtual 87, 3) := by decide +kernel
theorem dX6_gained_25 : decode cX6_gained 25 = .ok (.istore_n 3, 1) := by decide +kernel
theorem dX6_gained_26 : decode cX6_gained 26 = .ok (.iload_n 2, 1) := by decide +kernel
theorem dX6_gained_27 : decode cX6_gained 27 = .ok (.iload_n 3, 1) := by decide +kernel
theorem dX6_gained_28 : decode cX6_gained 28 = .ok (.iconst (-1), 1) := by decide +kernel
theorem dX6_gained_29 : decode cX6_gained 29 = .ok (.ixor, 1) := by decide +kernel
theorem dX6_gained_30 : decode cX6_gained 30 = .ok (.iand, 1) := by decide +kernel
theorem dX6_gained_31 : decode cX6_gained 31 = .ok (.ifCond .ne 23, 3) := by decide +kernel
theorem dX6_gained_34 : decode cX6_gained 34 = .ok (.aload_n 0, 1) := by decide +kernel
theorem dX6_gained_35 : decode cX6_gained 35 = .ok (.aload_n 0, 1) := by decide +kernel
theorem dX6_gained_36 : decode cX6_gained 36 = .ok (.invokevirtual 79, 3) := by decide +kernel
theorem dX6_gained_39 : decode cX6_gained 39 = .ok (.iload_n 3, 1) := by decide +kernel
theorem dX6_gained_40 : decode cX6_gained 40 = .ok (.iconst 1, 1) := by decide +kernel
theorem dX6_gained_41 : decode cX6_gained 41 = .ok (.iload_n 1, 1) := by decide +kernel
theorem dX6_gained_42 : decode cX6_gained 42 = .ok (.ishl, 1) := by decide +kernel
theorem dX6_gained_43 : decode cX6_gained 43 = .ok (.ior, 1) := by decide +kernel
theorem dX6_gained_44 : decode cX6_gained 44 = .ok (.invokevirtual 83, 3) := by decide +kernel
theorem dX6_gained_47 : decode cX6_gained 47 = .ok (.iload_n 3, 1) := by decide +kernel
theorem dX6_gained_48 : decode cX6_gained 48 = .ok (.iconst (-1), 1) := by decide +kernel
theorem dX6_gained_49 : decode cX6_gained 49 = .ok (.ixor, 1) := by decide +kernel
theorem dX6_gained_50 : decode cX6_gained 50 = .ok (.iand, 1) := by decide +kernel
theorem dX6_gained_51 : decode cX6_gained 51 = .ok (.goto 4, 3) := by decide +kernel
theorem dX6_gained_54 : decode cX6_gained 54 = .ok (.iconst 0, 1) := by decide +kernel
theorem dX6_gained_55 : decode cX6_gained 55 = .ok (.ireturn, 1) := by decide +kernel
set_option maxRecDepth 20000 in
theorem ggX6_setAssumable_X6_in : GoodIn wsX6_setAssumable wsX6_in := goodIn_r _ [6] (by decide +kernel) (by decide +kernel)
set_option maxRecDepth 20000 in
theorem gX6_setAssumable_X6_in : GoodIn wsX6_setAssumable (va_wsS RX6 43 yX6_in wsX6_in) := goodIn_app (goodIn_of _ (by decide +kernel)) ggX6_setAssumable_X6_in
set_option maxRecDepth 20000 in
theorem ggX6_setAssumable_X6_size : GoodIn wsX6_setAssumable wsX6_size := goodIn_r _ [9] (by decide +kernel) (by decide +kernel)
set_option maxRecDepth 20000 in
theorem gX6_setAssumable_X6_size : GoodIn wsX6_setAssumable (va_wsS RX6 49 yX6_size wsX6_size) := goodIn_app (goodIn_of _ (by decide +kernel)) ggX6_setAssumable_X6_size
set_option maxRecDepth 20000 in
theorem ggX6_setAssumable_X6_error : GoodIn wsX6_setAssumable wsX6_error := goodIn_r _ [13, 14, 21, 22, 23, 24, 25, 26, 27, 28, 29, 30, 31, 32, 33, 34, 35] (by decide +kernel) (by decide +kernel)
set_option maxRecDepth 20000 in
theorem gX6_setAssumable_X6_error : GoodIn wsX6_setAssumable (wsV RX6 60 RX6 yX6_error wsX6_error) := goodIn_app (goodIn_of _ (by decide +kernel)) ggX6_setAssumable_X6_error
set_option maxRecDepth 20000 in
theorem ggX6_setAssumable_X6_save : GoodIn wsX6_setAssumable wsX6_save := goodIn_r _ [18, 19, 20, 2, 21, 22, 23, 24, 25, 26, 27, 28, 29, 30, 31, 32, 33, 34, 35] (by decide +kernel) (by decide +kernel)
set_option maxRecDepth 20000 in
theorem gX6_setAssumable_X6_save : GoodIn wsX6_setAssumable (wsV RX6 63 RX6 yX6_save wsX6_save) := goodIn_app (goodIn_of _ (by decide +kernel)) ggX6_setAssumable_X6_save
theorem dX6_setAssumable_0 : decode cX6_setAssumable 0 = .ok (.iload_n 1, 1) := by decide +kernel
theorem dX6_setAssumable_1 : decode cX6_setAssumable 1 = .ok (.i2l, 1) := by decide +kernel
theorem dX6_setAssumable_2 : decode cX6_setAssumable 2 = .ok (.lconst 0, 1) := by decide +kernel
theorem dX6_setAssumable_3 : decode cX6_setAssumable 3 = .ok (.ldc2_w 47, 3) := by decide +kernel
theorem dX6_setAssumable_6 : decode cX6_setAssumable 6 = .ok (.invokestatic 43, 3) := by decide +kernel
theorem dX6_setAssumable_9 : decode cX6_setAssumable 9 = .ok (.ifCond .eq 12, 3) := by decide +kernel
theorem dX6_setAssumable_12 : decode cX6_setAssumable 12 = .ok (.iload_n 1, 1) := by decide +kernel
theorem dX6_setAssumable_13 : decode cX6_setAssumable 13 = .ok (.invokestatic 49, 3) := by decide +kernel
theorem dX6_setAssumable_16 : decode cX6_setAssumable 16 = .ok (.bipush 8, 2) := by decide +kernel
theorem dX6_setAssumable_18 : decode cX6_setAssumable 18 = .ok (.if_icmp .le 10, 3) := by decide +kernel
theorem dX6_setAssumable_21 : decode cX6_setAssumable 21 = .ok (.aload_n 0, 1) := by decide +kernel
theorem dX6_setAssumable_22 : decode cX6_setAssumable 22 = .ok (.bipush (-2), 2) := by decide +kernel
theorem dX6_setAssumable_24 : decode cX6_setAssumable 24 = .ok (.invokevirtual 60, 3) := by decide +kernel
theorem dX6_setAssumable_27 : decode cX6_setAssumable 27 = .ok (.ireturn, 1) := by decide +kernel
theorem dX6_setAssumable_28 : decode cX6_setAssumable 28 = .ok (.aload_n 0, 1) := by decide +kernel
theorem dX6_setAssumable_29 : decode cX6_setAssumable 29 = .ok (.invokevirtual 63, 3) := by decide +kernel
theorem dX6_setAssumable_32 : decode cX6_setAssumable 32 = .ok (.aload_n 0, 1) := by decide +kernel
theorem dX6_setAssumable_33 : decode cX6_setAssumable 33 = .ok (.getfield 7, 3) := by decide +kernel
theorem dX6_setAssumable_36 : decode cX6_setAssumable 36 = .ok (.iconst 1, 1) := by decide +kernel
theorem dX6_setAssumable_37 : decode cX6_setAssumable 37 = .ok (.iaload, 1) := by decide +kernel
theorem dX6_setAssumable_38 : decode cX6_setAssumable 38 = .ok (.istore_n 2, 1) := by decide +kernel
theorem dX6_setAssumable_39 : decode cX6_setAssumable 39 = .ok (.aload_n 0, 1) := by decide +kernel
theorem dX6_setAssumable_40 : decode cX6_setAssumable 40 = .ok (.getfield 7, 3) := by decide +kernel
theorem dX6_setAssumable_43 : decode cX6_setAssumable 43 = .ok (.iconst 1, 1) := by decide +kernel
theorem dX6_setAssumable_44 : decode cX6_setAssumable 44 = .ok (.iload_n 1, 1) := by decide +kernel
theorem dX6_setAssumable_45 : decode cX6_setAssumable 45 = .ok (.iastore, 1) := by decide +kernel
theorem dX6_setAssumable_46 : decode cX6_setAssumable 46 = .ok (.iload_n 2, 1) := by decide +kernel
theorem dX6_setAssumable_47 : decode cX6_setAssumable 47 = .ok (.ireturn, 1) := by decide +kernel
set_option maxRecDepth 20000 in
theorem ggX6_explanation_X6_isAtom : GoodIn wsX6_explanation wsX6_isAtom := goodIn_r _ [5, 6, 7, 8, 4, 9] (by decide +kernel) (by decide +kernel)
set_option maxRecDepth 20000 in
theorem gX6_explanation_X6_isAtom : GoodIn wsX6_explanation (va_wsS RX6 53 yX6_isAtom wsX6_isAtom) := goodIn_app (goodIn_of _ (by decide +kernel)) ggX6_explanation_X6_isAtom
set_option maxRecDepth 20000 in
theorem ggX6_explanation_X6_error : GoodIn wsX6_explanation wsX6_error := goodIn_r _ [13, 14, 34, 35, 36, 37, 38, 39, 40, 41, 42, 43, 44, 45, 46, 47, 48] (by decide +kernel) (by decide +kernel)
set_option maxRecDepth 20000 in
theorem gX6_explanation_X6_error : GoodIn wsX6_explanation (wsV RX6 60 RX6 yX6_error wsX6_error) := goodIn_app (goodIn_of _ (by decide +kernel)) ggX6_explanation_X6_error
set_option maxRecDepth 20000 in
theorem ggX6_explanation_X6_size : GoodIn wsX6_explanation wsX6_size := goodIn_r _ [17] (by decide +kernel) (by decide +kernel)
set_option maxRecDepth 20000 in
theorem gX6_explanation_X6_size : GoodIn wsX6_explanation (va_wsS RX6 49 yX6_size wsX6_size) := goodIn_app (goodIn_of _ (by decide +kernel)) ggX6_explanation_X6_size
set_option maxRecDepth 20000 in
theorem ggX6_explanation_X6_everyRule : GoodIn wsX6_explanation wsX6_everyRule := goodIn_r _ [21, 1, 34, 35, 36, 37, 38, 39, 40, 41, 42, 43, 44, 45, 46, 47, 48] (by decide +kernel) (by decide +kernel)
set_option maxRecDepth 20000 in
theorem gX6_explanation_X6_everyRule : GoodIn wsX6_explanation (wsV RX6 79 RX6 yX6_everyRule wsX6_everyRule) := goodIn_app (goodIn_of _ (by decide +kernel)) ggX6_explanation_X6_everyRule
set_option maxRecDepth 20000 in
theorem ggX6_explanation_X6_modelOf : GoodIn wsX6_explanation wsX6_modelOf := goodIn_r _ [25, 1, 26, 27, 28, 4, 29, 30, 31, 32, 33, 34, 35, 36, 37, 38, 39, 40, 41, 42, 43, 44, 45, 46, 47, 48] (by decide +kernel) (by decide +kernel)
set_option maxRecDepth 20000 in
theorem gX6_explanation_X6_modelOf : GoodIn wsX6_explanation (wsV RX6 83 RX6 yX6_modelOf wsX6_modelOf) := goodIn_app (goodIn_of _ (by decide +kernel)) ggX6_explanation_X6_modelOf
theorem dX6_explanation_0 : decode cX6_explanation 0 = .ok (.iload_n 1, 1) := by decide +kernel
theorem dX6_explanation_1 : decode cX6_explanation 1 = .ok (.invokestatic 53, 3) := by decide +kernel
theorem dX6_explanation_4 : decode cX6_explanation 4 = .ok (.ifCond .ne 10, 3) := by decide +kernel
theorem dX6_explanation_7 : decode cX6_explanation 7 = .ok (.aload_n 0, 1) := by decide +kernel
theorem dX6_explanation_8 : decode cX6_explanation 8 = .ok (.bipush (-2), 2) := by decide +kernel
theorem dX6_explanation_10 : decode cX6_explanation 10 = .ok (.invokevirtual 60, 3) := by decide +kernel
theorem dX6_explanation_13 : decode cX6_explanation 13 = .ok (.ireturn, 1) := by decide +kernel
theorem dX6_explanation_14 : decode cX6_explanation 14 = .ok (.iconst (-1), 1) := by decide +kernel
theorem dX6_explanation_15 : decode cX6_explanation 15 = .ok (.istore_n 2, 1) := by decide +kernel
theorem dX6_explanation_16 : decode cX6_explanation 16 = .ok (.iconst 0, 1) := by decide +kernel
theorem dX6_explanation_17 : decode cX6_explanation 17 = .ok (.istore_n 3, 1) := by decide +kernel
theorem dX6_explanation_18 : decode cX6_explanation 18 = .ok (.iconst 1, 1) := by decide +kernel
theorem dX6_explanation_19 : decode cX6_explanation 19 = .ok (.istore 4, 2) := by decide +kernel
theorem dX6_explanation_21 : decode cX6_explanation 21 = .ok (.iload 4, 2) := by decide +kernel
theorem dX6_explanation_23 : decode cX6_explanation 23 = .ok (.ifCond .eq 90, 3) := by decide +kernel
theorem dX6_explanation_26 : decode cX6_explanation 26 = .ok (.iload_n 2, 1) := by decide +kernel
theorem dX6_explanation_27 : decode cX6_explanation 27 = .ok (.iconst (-1), 1) := by decide +kernel
theorem dX6_explanation_28 : decode cX6_explanation 28 = .ok (.if_icmp .eq 14, 3) := by decide +kernel
theorem dX6_explanation_31 : decode cX6_explanation 31 = .ok (.iload_n 3, 1) := by decide +kernel
theorem dX6_explanation_32 : decode cX6_explanation 32 = .ok (.invokestatic 49, 3) := by decide +kernel
theorem dX6_explanation_35 : decode cX6_explanation 35 = .ok (.iload_n 2, 1) := by decide +kernel
theorem dX6_explanation_36 : decode cX6_explanation 36 = .ok (.invokestatic 49, 3) := by decide +kernel
theorem dX6_explanation_39 : decode cX6_explanation 39 = .ok (.if_icmp .ge 7, 3) := by decide +kernel
theorem dX6_explanation_42 : decode cX6_explanation 42 = .ok (.iconst 1, 1) := by decide +kernel
theorem dX6_explanation_43 : decode cX6_explanation 43 = .ok (.goto 4, 3) := by decide +kernel
theorem dX6_explanation_46 : decode cX6_explanation 46 = .ok (.iconst 0, 1) := by decide +kernel
theorem dX6_explanation_47 : decode cX6_explanation 47 = .ok (.istore 5, 2) := by decide +kernel
theorem dX6_explanation_49 : decode cX6_explanation 49 = .ok (.iload 5, 2) := by decide +kernel
theorem dX6_explanation_51 : decode cX6_explanation 51 = .ok (.ifCond .eq 24, 3) := by decide +kernel
theorem dX6_explanation_54 : decode cX6_explanation 54 = .ok (.aload_n 0, 1) := by decide +kernel
theorem dX6_explanation_55 : decode cX6_explanation 55 = .ok (.aload_n 0, 1) := by decide +kernel
theorem dX6_explanation_56 : decode cX6_explanation 56 = .ok (.invokevirtual 79, 3) := by decide +kernel
theorem dX6_explanation_59 : decode cX6_explanation 59 = .ok (.iload_n 3, 1) := by decide +kernel
theorem dX6_explanation_60 : decode cX6_explanation 60 = .ok (.invokevirtual 83, 3) := by decide +kernel
theorem dX6_explanation_63 : decode cX6_explanation 63 = .ok (.iload_n 1, 1) := by decide +kernel
theorem dX6_explanation_64 : decode cX6_explanation 64 = .ok (.ishr, 1) := by decide +kernel
theorem dX6_explanation_65 : decode cX6_explanation 65 = .ok (.iconst 1, 1) := by decide +kernel
theorem dX6_explanation_66 : decode cX6_explanation 66 = .ok (.iand, 1) := by decide +kernel
theorem dX6_explanation_67 : decode cX6_explanation 67 = .ok (.iconst 1, 1) := by decide +kernel
theorem dX6_explanation_68 : decode cX6_explanation 68 = .ok (.if_icmp .ne 7, 3) := by decide +kernel
theorem dX6_explanation_71 : decode cX6_explanation 71 = .ok (.iload_n 3, 1) := by decide +kernel
theorem dX6_explanation_72 : decode cX6_explanation 72 = .ok (.goto 4, 3) := by decide +kernel
theorem dX6_explanation_75 : decode cX6_explanation 75 = .ok (.iload_n 2, 1) := by decide +kernel
theorem dX6_explanation_76 : decode cX6_explanation 76 = .ok (.istore_n 2, 1) := by decide +kernel
theorem dX6_explanation_77 : decode cX6_explanation 77 = .ok (.iload_n 3, 1) := by decide +kernel
theorem dX6_explanation_78 : decode cX6_explanation 78 = .ok (.aload_n 0, 1) := by decide +kernel
theorem dX6_explanation_79 : decode cX6_explanation 79 = .ok (.getfield 7, 3) := by decide +kernel
theorem dX6_explanation_82 : decode cX6_explanation 82 = .ok (.iconst 1, 1) := by decide +kernel
theorem dX6_explanation_83 : decode cX6_explanation 83 = .ok (.iaload, 1) := by decide +kernel
theorem dX6_explanation_84 : decode cX6_explanation 84 = .ok (.if_icmp .eq 7, 3) := by decide +kernel
theorem dX6_explanation_87 : decode cX6_explanation 87 = .ok (.iconst 1, 1) := by decide +kernel
theorem dX6_explanation_88 : decode cX6_explanation 88 = .ok (.goto 4, 3) := by decide +kernel
theorem dX6_explanation_91 : decode cX6_explanation 91 = .ok (.iconst 0, 1) := by decide +kernel
theorem dX6_explanation_92 : decode cX6_explanation 92 = .ok (.istore 4, 2) := by decide +kernel
theorem dX6_explanation_94 : decode cX6_explanation 94 = .ok (.iload_n 3, 1) := by decide +kernel
theorem dX6_explanation_95 : decode cX6_explanation 95 = .ok (.aload_n 0, 1) := by decide +kernel
theorem dX6_explanation_96 : decode cX6_explanation 96 = .ok (.getfield 7, 3) := by decide +kernel
theorem dX6_explanation_99 : decode cX6_explanation 99 = .ok (.iconst 1, 1) := by decide +kernel
theorem dX6_explanation_100 : decode cX6_explanation 100 = .ok (.iaload, 1) := by decide +kernel
theorem dX6_explanation_101 : decode cX6_explanation 101 = .ok (.isub, 1) := by decide +kernel
theorem dX6_explanation_102 : decode cX6_explanation 102 = .ok (.aload_n 0, 1) := by decide +kernel
theorem dX6_explanation_103 : decode cX6_explanation 103 = .ok (.getfield 7, 3) := by decide +kernel
theorem dX6_explanation_106 : decode cX6_explanation 106 = .ok (.iconst 1, 1) := by decide +kernel
theorem dX6_explanation_107 : decode cX6_explanation 107 = .ok (.iaload, 1) := by decide +kernel
theorem dX6_explanation_108 : decode cX6_explanation 108 = .ok (.iand, 1) := by decide +kernel
theorem dX6_explanation_109 : decode cX6_explanation 109 = .ok (.istore_n 3, 1) := by decide +kernel
theorem dX6_explanation_110 : decode cX6_explanation 110 = .ok (.goto (-89), 3) := by decide +kernel
theorem dX6_explanation_113 : decode cX6_explanation 113 = .ok (.iload_n 2, 1) := by decide +kernel
theorem dX6_explanation_114 : decode cX6_explanation 114 = .ok (.iconst (-1), 1) := by decide +kernel
theorem dX6_explanation_115 : decode cX6_explanation 115 = .ok (.if_icmp .ne 12, 3) := by decide +kernel
theorem dX6_explanation_118 : decode cX6_explanation 118 = .ok (.aload_n 0, 1) := by decide +kernel
theorem dX6_explanation_119 : decode cX6_explanation 119 = .ok (.bipush (-3), 2) := by decide +kernel
theorem dX6_explanation_121 : decode cX6_explanation 121 = .ok (.invokevirtual 60, 3) := by decide +kernel
theorem dX6_explanation_124 : decode cX6_explanation 124 = .ok (.goto 4, 3) := by decide +kernel
theorem dX6_explanation_127 : decode cX6_explanation 127 = .ok (.iload_n 2, 1) := by decide +kernel
theorem dX6_explanation_128 : decode cX6_explanation 128 = .ok (.ireturn, 1) := by decide +kernel
set_option maxRecDepth 20000 in
theorem ggX6_append_X6_in : GoodIn wsX6_append wsX6_in := goodIn_r _ [7] (by decide +kernel) (by decide +kernel)
set_option maxRecDepth 20000 in
theorem gX6_append_X6_in : GoodIn wsX6_append (va_wsS RX6 43 yX6_in wsX6_in) := goodIn_app (goodIn_of _ (by decide +kernel)) ggX6_append_X6_in
set_option maxRecDepth 20000 in
theorem ggX6_append_X6_error : GoodIn wsX6_append wsX6_error := goodIn_r _ [11, 12, 13, 14, 15, 16, 17, 18, 19, 20, 21, 22, 23, 24, 25, 26, 27] (by decide +kernel) (by decide +kernel)
set_option maxRecDepth 20000 in
theorem gX6_append_X6_error : GoodIn wsX6_append (wsV RX6 60 RX6 yX6_error wsX6_error) := goodIn_app (goodIn_of _ (by decide +kernel)) ggX6_append_X6_error
theorem dX6_append_0 : decode cX6_append 0 = .ok (.iload_n 1, 1) := by decide +kernel
theorem dX6_append_1 : decode cX6_append 1 = .ok (.i2l, 1) := by decide +kernel
theorem dX6_append_2 : decode cX6_append 2 = .ok (.lconst 0, 1) := by decide +kernel
theorem dX6_append_3 : decode cX6_append 3 = .ok (.ldc2_w 133, 3) := by decide +kernel
theorem dX6_append_6 : decode cX6_append 6 = .ok (.invokestatic 43, 3) := by decide +kernel
theorem dX6_append_9 : decode cX6_append 9 = .ok (.ifCond .ne 10, 3) := by decide +kernel
theorem dX6_append_12 : decode cX6_append 12 = .ok (.aload_n 0, 1) := by decide +kernel
theorem dX6_append_13 : decode cX6_append 13 = .ok (.bipush (-2), 2) := by decide +kernel
theorem dX6_append_15 : decode cX6_append 15 = .ok (.invokevirtual 60, 3) := by decide +kernel
theorem dX6_append_18 : decode cX6_append 18 = .ok (.ireturn, 1) := by decide +kernel
theorem dX6_append_19 : decode cX6_append 19 = .ok (.aload_n 0, 1) := by decide +kernel
theorem dX6_append_20 : decode cX6_append 20 = .ok (.getfield 135, 3) := by decide +kernel
theorem dX6_append_23 : decode cX6_append 23 = .ok (.bipush 120, 2) := by decide +kernel
theorem dX6_append_25 : decode cX6_append 25 = .ok (.if_icmp .ne 10, 3) := by decide +kernel
theorem dX6_append_28 : decode cX6_append 28 = .ok (.aload_n 0, 1) := by decide +kernel
theorem dX6_append_29 : decode cX6_append 29 = .ok (.bipush (-4), 2) := by decide +kernel
theorem dX6_append_31 : decode cX6_append 31 = .ok (.invokevirtual 60, 3) := by decide +kernel
theorem dX6_append_34 : decode cX6_append 34 = .ok (.ireturn, 1) := by decide +kernel
theorem dX6_append_35 : decode cX6_append 35 = .ok (.aload_n 0, 1) := by decide +kernel
theorem dX6_append_36 : decode cX6_append 36 = .ok (.getfield 19, 3) := by decide +kernel
theorem dX6_append_39 : decode cX6_append 39 = .ok (.aload_n 0, 1) := by decide +kernel
theorem dX6_append_40 : decode cX6_append 40 = .ok (.getfield 135, 3) := by decide +kernel
theorem dX6_append_43 : decode cX6_append 43 = .ok (.iload_n 1, 1) := by decide +kernel
theorem dX6_append_44 : decode cX6_append 44 = .ok (.iastore, 1) := by decide +kernel
theorem dX6_append_45 : decode cX6_append 45 = .ok (.aload_n 0, 1) := by decide +kernel
theorem dX6_append_46 : decode cX6_append 46 = .ok (.dup, 1) := by decide +kernel
theorem dX6_append_47 : decode cX6_append 47 = .ok (.getfield 135, 3) := by decide +kernel
theorem dX6_append_50 : decode cX6_append 50 = .ok (.iconst 1, 1) := by decide +kernel
theorem dX6_append_51 : decode cX6_append 51 = .ok (.iadd, 1) := by decide +kernel
theorem dX6_append_52 : decode cX6_append 52 = .ok (.putfield 135, 3) := by decide +kernel
theorem dX6_append_55 : decode cX6_append 55 = .ok (.aload_n 0, 1) := by decide +kernel
theorem dX6_append_56 : decode cX6_append 56 = .ok (.getfield 135, 3) := by decide +kernel
theorem dX6_append_59 : decode cX6_append 59 = .ok (.ireturn, 1) := by decide +kernel
theorem dX6_clearText_0 : decode cX6_clearText 0 = .ok (.aload_n 0, 1) := by decide +kernel
theorem dX6_clearText_1 : decode cX6_clearText 1 = .ok (.getfield 135, 3) := by decide +kernel
theorem dX6_clearText_4 : decode cX6_clearText 4 = .ok (.istore_n 1, 1) := by decide +kernel
theorem dX6_clearText_5 : decode cX6_clearText 5 = .ok (.aload_n 0, 1) := by decide +kernel
theorem dX6_clearText_6 : decode cX6_clearText 6 = .ok (.iconst 0, 1) := by decide +kernel
theorem dX6_clearText_7 : decode cX6_clearText 7 = .ok (.putfield 135, 3) := by decide +kernel
theorem dX6_clearText_10 : decode cX6_clearText 10 = .ok (.iload_n 1, 1) := by decide +kernel
theorem dX6_clearText_11 : decode cX6_clearText 11 = .ok (.ireturn, 1) := by decide +kernel
theorem dX6_next_0 : decode cX6_next 0 = .ok (.aload_n 0, 1) := by decide +kernel
theorem dX6_next_1 : decode cX6_next 1 = .ok (.getfield 138, 3) := by decide +kernel
theorem dX6_next_4 : decode cX6_next 4 = .ok (.aload_n 0, 1) := by decide +kernel
theorem dX6_next_5 : decode cX6_next 5 = .ok (.getfield 135, 3) := by decide +kernel
theorem dX6_next_8 : decode cX6_next 8 = .ok (.if_icmp .ge 30, 3) := by decide +kernel
theorem dX6_next_11 : decode cX6_next 11 = .ok (.aload_n 0, 1) := by decide +kernel
theorem dX6_next_12 : decode cX6_next 12 = .ok (.getfield 19, 3) := by decide +kernel
theorem dX6_next_15 : decode cX6_next 15 = .ok (.aload_n 0, 1) := by decide +kernel
theorem dX6_next_16 : decode cX6_next 16 = .ok (.getfield 138, 3) := by decide +kernel
theorem dX6_next_19 : decode cX6_next 19 = .ok (.iaload, 1) := by decide +kernel
theorem dX6_next_20 : decode cX6_next 20 = .ok (.bipush 32, 2) := by decide +kernel
theorem dX6_next_22 : decode cX6_next 22 = .ok (.if_icmp .ne 16, 3) := by decide +kernel
theorem dX6_next_25 : decode cX6_next 25 = .ok (.aload_n 0, 1) := by decide +kernel
theorem dX6_next_26 : decode cX6_next 26 = .ok (.dup, 1) := by decide +kernel
theorem dX6_next_27 : decode cX6_next 27 = .ok (.getfield 138, 3) := by decide +kernel
theorem dX6_next_30 : decode cX6_next 30 = .ok (.iconst 1, 1) := by decide +kernel
theorem dX6_next_31 : decode cX6_next 31 = .ok (.iadd, 1) := by decide +kernel
theorem dX6_next_32 : decode cX6_next 32 = .ok (.putfield 138, 3) := by decide +kernel
theorem dX6_next_35 : decode cX6_next 35 = .ok (.goto (-35), 3) := by decide +kernel
theorem dX6_next_38 : decode cX6_next 38 = .ok (.aload_n 0, 1) := by decide +kernel
theorem dX6_next_39 : decode cX6_next 39 = .ok (.aload_n 0, 1) := by decide +kernel
theorem dX6_next_40 : decode cX6_next 40 = .ok (.getfield 138, 3) := by decide +kernel
theorem dX6_next_43 : decode cX6_next 43 = .ok (.putfield 141, 3) := by decide +kernel
theorem dX6_next_46 : decode cX6_next 46 = .ok (.aload_n 0, 1) := by decide +kernel
theorem dX6_next_47 : decode cX6_next 47 = .ok (.getfield 138, 3) := by decide +kernel
theorem dX6_next_50 : decode cX6_next 50 = .ok (.aload_n 0, 1) := by decide +kernel
theorem dX6_next_51 : decode cX6_next 51 = .ok (.getfield 135, 3) := by decide +kernel
theorem dX6_next_54 : decode cX6_next 54 = .ok (.if_icmp .ge 15, 3) := by decide +kernel
theorem dX6_next_57 : decode cX6_next 57 = .ok (.aload_n 0, 1) := by decide +kernel
theorem dX6_next_58 : decode cX6_next 58 = .ok (.getfield 19, 3) := by decide +kernel
theorem dX6_next_61 : decode cX6_next 61 = .ok (.aload_n 0, 1) := by decide +kernel
theorem dX6_next_62 : decode cX6_next 62 = .ok (.getfield 138, 3) := by decide +kernel
theorem dX6_next_65 : decode cX6_next 65 = .ok (.iaload, 1) := by decide +kernel
theorem dX6_next_66 : decode cX6_next 66 = .ok (.goto 4, 3) := by decide +kernel
theorem dX6_next_69 : decode cX6_next 69 = .ok (.iconst (-1), 1) := by decide +kernel
theorem dX6_next_70 : decode cX6_next 70 = .ok (.ireturn, 1) := by decide +kernel
set_option maxRecDepth 20000 in
theorem ggX6_isDigitAt_X6_in : GoodIn wsX6_isDigitAt wsX6_in := goodIn_r _ [8] (by decide +kernel) (by decide +kernel)
set_option maxRecDepth 20000 in
theorem gX6_isDigitAt_X6_in : GoodIn wsX6_isDigitAt (va_wsS RX6 43 yX6_in wsX6_in) := goodIn_app (goodIn_of _ (by decide +kernel)) ggX6_isDigitAt_X6_in
theorem dX6_isDigitAt_0 : decode cX6_isDigitAt 0 = .ok (.iload_n 1, 1) := by decide +kernel
theorem dX6_isDigitAt_1 : decode cX6_isDigitAt 1 = .ok (.aload_n 0, 1) := by decide +kernel
theorem dX6_isDigitAt_2 : decode cX6_isDigitAt 2 = .ok (.getfield 135, 3) := by decide +kernel
theorem dX6_isDigitAt_5 : decode cX6_isDigitAt 5 = .ok (.if_icmp .ge 26, 3) := by decide +kernel
theorem dX6_isDigitAt_8 : decode cX6_isDigitAt 8 = .ok (.aload_n 0, 1) := by decide +kernel
theorem dX6_isDigitAt_9 : decode cX6_isDigitAt 9 = .ok (.getfield 19, 3) := by decide +kernel
theorem dX6_isDigitAt_12 : decode cX6_isDigitAt 12 = .ok (.iload_n 1, 1) := by decide +kernel
theorem dX6_isDigitAt_13 : decode cX6_isDigitAt 13 = .ok (.iaload, 1) := by decide +kernel
theorem dX6_isDigitAt_14 : decode cX6_isDigitAt 14 = .ok (.i2l, 1) := by decide +kernel
theorem dX6_isDigitAt_15 : decode cX6_isDigitAt 15 = .ok (.ldc2_w 144, 3) := by decide +kernel
theorem dX6_isDigitAt_18 : decode cX6_isDigitAt 18 = .ok (.ldc2_w 146, 3) := by decide +kernel
theorem dX6_isDigitAt_21 : decode cX6_isDigitAt 21 = .ok (.invokestatic 43, 3) := by decide +kernel
theorem dX6_isDigitAt_24 : decode cX6_isDigitAt 24 = .ok (.ifCond .eq 7, 3) := by decide +kernel
theorem dX6_isDigitAt_27 : decode cX6_isDigitAt 27 = .ok (.iconst 1, 1) := by decide +kernel
theorem dX6_isDigitAt_28 : decode cX6_isDigitAt 28 = .ok (.goto 4, 3) := by decide +kernel
theorem dX6_isDigitAt_31 : decode cX6_isDigitAt 31 = .ok (.iconst 0, 1) := by decide +kernel
theorem dX6_isDigitAt_32 : decode cX6_isDigitAt 32 = .ok (.ireturn, 1) := by decide +kernel
set_option maxRecDepth 20000 in
theorem ggX6_readsAtom_X6_next : GoodIn wsX6_readsAtom wsX6_next := goodIn_r _ [8, 1, 9, 3, 2, 19, 20, 21, 22, 23, 24, 25, 26, 27, 28, 29, 30, 31, 32, 33] (by decide +kernel) (by decide +kernel)
set_option maxRecDepth 20000 in
theorem gX6_readsAtom_X6_next : GoodIn wsX6_readsAtom (wsV RX6 148 RX6 yX6_next wsX6_next) := goodIn_app (goodIn_of _ (by decide +kernel)) ggX6_readsAtom_X6_next
set_option maxRecDepth 20000 in
theorem ggX6_readsAtom_X6_isDigitAt : GoodIn wsX6_readsAtom wsX6_isDigitAt := goodIn_r _ [13, 9, 3, 14, 15, 16, 17, 7, 18, 19, 20, 21, 22, 23, 24, 25, 26, 27, 28, 29, 30, 31, 32, 33] (by decide +kernel) (by decide +kernel)
set_option maxRecDepth 20000 in
theorem gX6_readsAtom_X6_isDigitAt : GoodIn wsX6_readsAtom (wsV RX6 151 RX6 yX6_isDigitAt wsX6_isDigitAt) := goodIn_app (goodIn_of _ (by decide +kernel)) ggX6_readsAtom_X6_isDigitAt
theorem dX6_readsAtom_0 : decode cX6_readsAtom 0 = .ok (.aload_n 0, 1) := by decide +kernel
theorem dX6_readsAtom_1 : decode cX6_readsAtom 1 = .ok (.invokevirtual 148, 3) := by decide +kernel
theorem dX6_readsAtom_4 : decode cX6_readsAtom 4 = .ok (.iconst (-1), 1) := by decide +kernel
theorem dX6_readsAtom_5 : decode cX6_readsAtom 5 = .ok (.if_icmp .ne 7, 3) := by decide +kernel
theorem dX6_readsAtom_8 : decode cX6_readsAtom 8 = .ok (.iconst (-1), 1) := by decide +kernel
theorem dX6_readsAtom_9 : decode cX6_readsAtom 9 = .ok (.goto 7, 3) := by decide +kernel
theorem dX6_readsAtom_12 : decode cX6_readsAtom 12 = .ok (.aload_n 0, 1) := by decide +kernel
theorem dX6_readsAtom_13 : decode cX6_readsAtom 13 = .ok (.getfield 138, 3) := by decide +kernel
theorem dX6_readsAtom_16 : decode cX6_readsAtom 16 = .ok (.istore_n 1, 1) := by decide +kernel
theorem dX6_readsAtom_17 : decode cX6_readsAtom 17 = .ok (.iload_n 1, 1) := by decide +kernel
theorem dX6_readsAtom_18 : decode cX6_readsAtom 18 = .ok (.iconst (-1), 1) := by decide +kernel
theorem dX6_readsAtom_19 : decode cX6_readsAtom 19 = .ok (.if_icmp .eq 14, 3) := by decide +kernel
theorem dX6_readsAtom_22 : decode cX6_readsAtom 22 = .ok (.aload_n 0, 1) := by decide +kernel
theorem dX6_readsAtom_23 : decode cX6_readsAtom 23 = .ok (.aload_n 0, 1) := by decide +kernel
theorem dX6_readsAtom_24 : decode cX6_readsAtom 24 = .ok (.getfield 138, 3) := by decide +kernel
theorem dX6_readsAtom_27 : decode cX6_readsAtom 27 = .ok (.invokevirtual 151, 3) := by decide +kernel
theorem dX6_readsAtom_30 : decode cX6_readsAtom 30 = .ok (.ifCond .ne 5, 3) := by decide +kernel
theorem dX6_readsAtom_33 : decode cX6_readsAtom 33 = .ok (.iconst (-1), 1) := by decide +kernel
theorem dX6_readsAtom_34 : decode cX6_readsAtom 34 = .ok (.ireturn, 1) := by decide +kernel
theorem dX6_readsAtom_35 : decode cX6_readsAtom 35 = .ok (.iconst 0, 1) := by decide +kernel
theorem dX6_readsAtom_36 : decode cX6_readsAtom 36 = .ok (.istore_n 2, 1) := by decide +kernel
theorem dX6_readsAtom_37 : decode cX6_readsAtom 37 = .ok (.aload_n 0, 1) := by decide +kernel
theorem dX6_readsAtom_38 : decode cX6_readsAtom 38 = .ok (.aload_n 0, 1) := by decide +kernel
theorem dX6_readsAtom_39 : decode cX6_readsAtom 39 = .ok (.getfield 138, 3) := by decide +kernel
theorem dX6_readsAtom_42 : decode cX6_readsAtom 42 = .ok (.invokevirtual 151, 3) := by decide +kernel
theorem dX6_readsAtom_45 : decode cX6_readsAtom 45 = .ok (.ifCond .eq 54, 3) := by decide +kernel
theorem dX6_readsAtom_48 : decode cX6_readsAtom 48 = .ok (.aload_n 0, 1) := by decide +kernel
theorem dX6_readsAtom_49 : decode cX6_readsAtom 49 = .ok (.getfield 138, 3) := by decide +kernel
theorem dX6_readsAtom_52 : decode cX6_readsAtom 52 = .ok (.iload_n 1, 1) := by decide +kernel
theorem dX6_readsAtom_53 : decode cX6_readsAtom 53 = .ok (.iconst 2, 1) := by decide +kernel
theorem dX6_readsAtom_54 : decode cX6_readsAtom 54 = .ok (.iadd, 1) := by decide +kernel
theorem dX6_readsAtom_55 : decode cX6_readsAtom 55 = .ok (.if_icmp .ne 13, 3) := by decide +kernel
theorem dX6_readsAtom_58 : decode cX6_readsAtom 58 = .ok (.aload_n 0, 1) := by decide +kernel
theorem dX6_readsAtom_59 : decode cX6_readsAtom 59 = .ok (.aload_n 0, 1) := by decide +kernel
theorem dX6_readsAtom_60 : decode cX6_readsAtom 60 = .ok (.getfield 138, 3) := by decide +kernel
theorem dX6_readsAtom_63 : decode cX6_readsAtom 63 = .ok (.putfield 141, 3) := by decide +kernel
theorem dX6_readsAtom_66 : decode cX6_readsAtom 66 = .ok (.iconst (-1), 1) := by decide +kernel
theorem dX6_readsAtom_67 : decode cX6_readsAtom 67 = .ok (.ireturn, 1) := by decide +kernel
theorem dX6_readsAtom_68 : decode cX6_readsAtom 68 = .ok (.bipush 10, 2) := by decide +kernel
theorem dX6_readsAtom_70 : decode cX6_readsAtom 70 = .ok (.iload_n 2, 1) := by decide +kernel
theorem dX6_readsAtom_71 : decode cX6_readsAtom 71 = .ok (.imul, 1) := by decide +kernel
theorem dX6_readsAtom_72 : decode cX6_readsAtom 72 = .ok (.aload_n 0, 1) := by decide +kernel
theorem dX6_readsAtom_73 : decode cX6_readsAtom 73 = .ok (.getfield 19, 3) := by decide +kernel
theorem dX6_readsAtom_76 : decode cX6_readsAtom 76 = .ok (.aload_n 0, 1) := by decide +kernel
theorem dX6_readsAtom_77 : decode cX6_readsAtom 77 = .ok (.getfield 138, 3) := by decide +kernel
theorem dX6_readsAtom_80 : decode cX6_readsAtom 80 = .ok (.iaload, 1) := by decide +kernel
theorem dX6_readsAtom_81 : decode cX6_readsAtom 81 = .ok (.iadd, 1) := by decide +kernel
theorem dX6_readsAtom_82 : decode cX6_readsAtom 82 = .ok (.bipush 48, 2) := by decide +kernel
theorem dX6_readsAtom_84 : decode cX6_readsAtom 84 = .ok (.isub, 1) := by decide +kernel
theorem dX6_readsAtom_85 : decode cX6_readsAtom 85 = .ok (.istore_n 2, 1) := by decide +kernel
theorem dX6_readsAtom_86 : decode cX6_readsAtom 86 = .ok (.aload_n 0, 1) := by decide +kernel
theorem dX6_readsAtom_87 : decode cX6_readsAtom 87 = .ok (.dup, 1) := by decide +kernel
theorem dX6_readsAtom_88 : decode cX6_readsAtom 88 = .ok (.getfield 138, 3) := by decide +kernel
theorem dX6_readsAtom_91 : decode cX6_readsAtom 91 = .ok (.iconst 1, 1) := by decide +kernel
theorem dX6_readsAtom_92 : decode cX6_readsAtom 92 = .ok (.iadd, 1) := by decide +kernel
theorem dX6_readsAtom_93 : decode cX6_readsAtom 93 = .ok (.putfield 138, 3) := by decide +kernel
theorem dX6_readsAtom_96 : decode cX6_readsAtom 96 = .ok (.goto (-59), 3) := by decide +kernel
theorem dX6_readsAtom_99 : decode cX6_readsAtom 99 = .ok (.aload_n 0, 1) := by decide +kernel
theorem dX6_readsAtom_100 : decode cX6_readsAtom 100 = .ok (.iload_n 1, 1) := by decide +kernel
theorem dX6_readsAtom_101 : decode cX6_readsAtom 101 = .ok (.putfield 141, 3) := by decide +kernel
theorem dX6_readsAtom_104 : decode cX6_readsAtom 104 = .ok (.iload_n 2, 1) := by decide +kernel
theorem dX6_readsAtom_105 : decode cX6_readsAtom 105 = .ok (.bipush 16, 2) := by decide +kernel
theorem dX6_readsAtom_107 : decode cX6_readsAtom 107 = .ok (.if_icmp .ge 7, 3) := by decide +kernel
theorem dX6_readsAtom_110 : decode cX6_readsAtom 110 = .ok (.iload_n 2, 1) := by decide +kernel
theorem dX6_readsAtom_111 : decode cX6_readsAtom 111 = .ok (.goto 4, 3) := by decide +kernel
theorem dX6_readsAtom_114 : decode cX6_readsAtom 114 = .ok (.iconst (-1), 1) := by decide +kernel
theorem dX6_readsAtom_115 : decode cX6_readsAtom 115 = .ok (.ireturn, 1) := by decide +kernel
set_option maxRecDepth 20000 in
theorem ggX6_readsBody_X6_next : GoodIn wsX6_readsBody wsX6_next := goodIn_r _ [6, 1, 7, 8, 9, 23, 24, 25, 26, 27, 28, 29, 30, 31, 32, 33, 34, 35, 36, 37] (by decide +kernel) (by decide +kernel)
set_option maxRecDepth 20000 in
theorem gX6_readsBody_X6_next : GoodIn wsX6_readsBody (wsV RX6 148 RX6 yX6_next wsX6_next) := goodIn_app (goodIn_of _ (by decide +kernel)) ggX6_readsBody_X6_next
set_option maxRecDepth 20000 in
theorem ggX6_readsBody_X6_readsAtom : GoodIn wsX6_readsBody wsX6_readsAtom := goodIn_r _ [13, 1, 9, 8, 2, 3, 4, 5, 6, 7, 14, 15, 16, 17, 18, 19, 20, 21, 22, 23, 24, 25, 26, 27, 28, 29, 30, 31, 32, 33, 34, 35, 36, 37] (by decide +kernel) (by decide +kernel)
set_option maxRecDepth 20000 in
theorem gX6_readsBody_X6_readsAtom : GoodIn wsX6_readsBody (wsV RX6 154 RX6 yX6_readsAtom wsX6_readsAtom) := goodIn_app (goodIn_of _ (by decide +kernel)) ggX6_readsBody_X6_readsAtom
theorem dX6_readsBody_0 : decode cX6_readsBody 0 = .ok (.iconst 0, 1) := by decide +kernel
theorem dX6_readsBody_1 : decode cX6_readsBody 1 = .ok (.istore_n 1, 1) := by decide +kernel
theorem dX6_readsBody_2 : decode cX6_readsBody 2 = .ok (.aload_n 0, 1) := by decide +kernel
theorem dX6_readsBody_3 : decode cX6_readsBody 3 = .ok (.invokevirtual 148, 3) := by decide +kernel
theorem dX6_readsBody_6 : decode cX6_readsBody 6 = .ok (.bipush 59, 2) := by decide +kernel
theorem dX6_readsBody_8 : decode cX6_readsBody 8 = .ok (.if_icmp .ne 15, 3) := by decide +kernel
theorem dX6_readsBody_11 : decode cX6_readsBody 11 = .ok (.aload_n 0, 1) := by decide +kernel
theorem dX6_readsBody_12 : decode cX6_readsBody 12 = .ok (.dup, 1) := by decide +kernel
theorem dX6_readsBody_13 : decode cX6_readsBody 13 = .ok (.getfield 138, 3) := by decide +kernel
theorem dX6_readsBody_16 : decode cX6_readsBody 16 = .ok (.iconst 1, 1) := by decide +kernel
theorem dX6_readsBody_17 : decode cX6_readsBody 17 = .ok (.iadd, 1) := by decide +kernel
theorem dX6_readsBody_18 : decode cX6_readsBody 18 = .ok (.putfield 138, 3) := by decide +kernel
theorem dX6_readsBody_21 : decode cX6_readsBody 21 = .ok (.iload_n 1, 1) := by decide +kernel
theorem dX6_readsBody_22 : decode cX6_readsBody 22 = .ok (.ireturn, 1) := by decide +kernel
theorem dX6_readsBody_23 : decode cX6_readsBody 23 = .ok (.iconst 0, 1) := by decide +kernel
theorem dX6_readsBody_24 : decode cX6_readsBody 24 = .ok (.istore_n 2, 1) := by decide +kernel
theorem dX6_readsBody_25 : decode cX6_readsBody 25 = .ok (.iload_n 2, 1) := by decide +kernel
theorem dX6_readsBody_26 : decode cX6_readsBody 26 = .ok (.iconst 4, 1) := by decide +kernel
theorem dX6_readsBody_27 : decode cX6_readsBody 27 = .ok (.if_icmp .ge 77, 3) := by decide +kernel
theorem dX6_readsBody_30 : decode cX6_readsBody 30 = .ok (.aload_n 0, 1) := by decide +kernel
theorem dX6_readsBody_31 : decode cX6_readsBody 31 = .ok (.invokevirtual 154, 3) := by decide +kernel
theorem dX6_readsBody_34 : decode cX6_readsBody 34 = .ok (.istore_n 3, 1) := by decide +kernel
theorem dX6_readsBody_35 : decode cX6_readsBody 35 = .ok (.iload_n 3, 1) := by decide +kernel
theorem dX6_readsBody_36 : decode cX6_readsBody 36 = .ok (.iconst (-1), 1) := by decide +kernel
theorem dX6_readsBody_37 : decode cX6_readsBody 37 = .ok (.if_icmp .eq 12, 3) := by decide +kernel
theorem dX6_readsBody_40 : decode cX6_readsBody 40 = .ok (.iload_n 1, 1) := by decide +kernel
theorem dX6_readsBody_41 : decode cX6_readsBody 41 = .ok (.iload_n 3, 1) := by decide +kernel
theorem dX6_readsBody_42 : decode cX6_readsBody 42 = .ok (.ishr, 1) := by decide +kernel
theorem dX6_readsBody_43 : decode cX6_readsBody 43 = .ok (.iconst 1, 1) := by decide +kernel
theorem dX6_readsBody_44 : decode cX6_readsBody 44 = .ok (.iand, 1) := by decide +kernel
theorem dX6_readsBody_45 : decode cX6_readsBody 45 = .ok (.iconst 1, 1) := by decide +kernel
theorem dX6_readsBody_46 : decode cX6_readsBody 46 = .ok (.if_icmp .ne 5, 3) := by decide +kernel
theorem dX6_readsBody_49 : decode cX6_readsBody 49 = .ok (.iconst (-1), 1) := by decide +kernel
theorem dX6_readsBody_50 : decode cX6_readsBody 50 = .ok (.ireturn, 1) := by decide +kernel
theorem dX6_readsBody_51 : decode cX6_readsBody 51 = .ok (.iload_n 1, 1) := by decide +kernel
theorem dX6_readsBody_52 : decode cX6_readsBody 52 = .ok (.iconst 1, 1) := by decide +kernel
theorem dX6_readsBody_53 : decode cX6_readsBody 53 = .ok (.iload_n 3, 1) := by decide +kernel
theorem dX6_readsBody_54 : decode cX6_readsBody 54 = .ok (.ishl, 1) := by decide +kernel
theorem dX6_readsBody_55 : decode cX6_readsBody 55 = .ok (.ior, 1) := by decide +kernel
theorem dX6_readsBody_56 : decode cX6_readsBody 56 = .ok (.istore_n 1, 1) := by decide +kernel
theorem dX6_readsBody_57 : decode cX6_readsBody 57 = .ok (.aload_n 0, 1) := by decide +kernel
theorem dX6_readsBody_58 : decode cX6_readsBody 58 = .ok (.invokevirtual 148, 3) := by decide +kernel
theorem dX6_readsBody_61 : decode cX6_readsBody 61 = .ok (.istore 4, 2) := by decide +kernel
theorem dX6_readsBody_63 : decode cX6_readsBody 63 = .ok (.iload 4, 2) := by decide +kernel
theorem dX6_readsBody_65 : decode cX6_readsBody 65 = .ok (.bipush 44, 2) := by decide +kernel
theorem dX6_readsBody_67 : decode cX6_readsBody 67 = .ok (.if_icmp .eq 12, 3) := by decide +kernel
theorem dX6_readsBody_70 : decode cX6_readsBody 70 = .ok (.iload 4, 2) := by decide +kernel
theorem dX6_readsBody_72 : decode cX6_readsBody 72 = .ok (.bipush 59, 2) := by decide +kernel
theorem dX6_readsBody_74 : decode cX6_readsBody 74 = .ok (.if_icmp .eq 5, 3) := by decide +kernel
theorem dX6_readsBody_77 : decode cX6_readsBody 77 = .ok (.iconst (-1), 1) := by decide +kernel
theorem dX6_readsBody_78 : decode cX6_readsBody 78 = .ok (.ireturn, 1) := by decide +kernel
theorem dX6_readsBody_79 : decode cX6_readsBody 79 = .ok (.aload_n 0, 1) := by decide +kernel
theorem dX6_readsBody_80 : decode cX6_readsBody 80 = .ok (.dup, 1) := by decide +kernel
theorem dX6_readsBody_81 : decode cX6_readsBody 81 = .ok (.getfield 138, 3) := by decide +kernel
theorem dX6_readsBody_84 : decode cX6_readsBody 84 = .ok (.iconst 1, 1) := by decide +kernel
theorem dX6_readsBody_85 : decode cX6_readsBody 85 = .ok (.iadd, 1) := by decide +kernel
theorem dX6_readsBody_86 : decode cX6_readsBody 86 = .ok (.putfield 138, 3) := by decide +kernel
theorem dX6_readsBody_89 : decode cX6_readsBody 89 = .ok (.iload 4, 2) := by decide +kernel
theorem dX6_readsBody_91 : decode cX6_readsBody 91 = .ok (.bipush 59, 2) := by decide +kernel
theorem dX6_readsBody_93 : decode cX6_readsBody 93 = .ok (.if_icmp .ne 5, 3) := by decide +kernel
theorem dX6_readsBody_96 : decode cX6_readsBody 96 = .ok (.iload_n 1, 1) := by decide +kernel
theorem dX6_readsBody_97 : decode cX6_readsBody 97 = .ok (.ireturn, 1) := by decide +kernel
theorem dX6_readsBody_98 : decode cX6_readsBody 98 = .ok (.iinc 2 1, 3) := by decide +kernel
theorem dX6_readsBody_101 : decode cX6_readsBody 101 = .ok (.goto (-76), 3) := by decide +kernel
theorem dX6_readsBody_104 : decode cX6_readsBody 104 = .ok (.aload_n 0, 1) := by decide +kernel
theorem dX6_readsBody_105 : decode cX6_readsBody 105 = .ok (.invokevirtual 148, 3) := by decide +kernel
theorem dX6_readsBody_108 : decode cX6_readsBody 108 = .ok (.istore_n 2, 1) := by decide +kernel
theorem dX6_readsBody_109 : decode cX6_readsBody 109 = .ok (.iconst (-1), 1) := by decide +kernel
theorem dX6_readsBody_110 : decode cX6_readsBody 110 = .ok (.ireturn, 1) := by decide +kernel
set_option maxRecDepth 20000 in
theorem ggX6_parse_X6_next : GoodIn wsX6_parse wsX6_next := goodIn_r _ [10, 1, 11, 12, 3, 40, 41, 42, 43, 44, 45, 46, 47, 48, 49, 50, 51, 52, 53, 54] (by decide +kernel) (by decide +kernel)
set_option maxRecDepth 20000 in
theorem gX6_parse_X6_next : GoodIn wsX6_parse (wsV RX6 148 RX6 yX6_next wsX6_next) := goodIn_app (goodIn_of _ (by decide +kernel)) ggX6_parse_X6_next
set_option maxRecDepth 20000 in
theorem ggX6_parse_X6_readsAtom : GoodIn wsX6_parse wsX6_readsAtom := goodIn_r _ [16, 1, 3, 12, 6, 7, 8, 9, 10, 11, 17, 18, 19, 20, 21, 22, 23, 24, 25, 40, 41, 42, 43, 44, 45, 46, 47, 48, 49, 50, 51, 52, 53, 54] (by decide +kernel) (by decide +kernel)
set_option maxRecDepth 20000 in
theorem gX6_parse_X6_readsAtom : GoodIn wsX6_parse (wsV RX6 154 RX6 yX6_readsAtom wsX6_readsAtom) := goodIn_app (goodIn_of _ (by decide +kernel)) ggX6_parse_X6_readsAtom
set_option maxRecDepth 20000 in
theorem ggX6_parse_X6_readsBody : GoodIn wsX6_parse wsX6_readsBody := goodIn_r _ [29, 1, 6, 7, 8, 9, 10, 11, 12, 3, 13, 14, 15, 16, 17, 18, 19, 20, 21, 22, 23, 24, 25, 40, 41, 42, 43, 44, 45, 46, 47, 48, 49, 50, 51, 52, 53, 54] (by decide +kernel) (by decide +kernel)
set_option maxRecDepth 20000 in
theorem gX6_parse_X6_readsBody : GoodIn wsX6_parse (wsV RX6 157 RX6 yX6_readsBody wsX6_readsBody) := goodIn_app (goodIn_of _ (by decide +kernel)) ggX6_parse_X6_readsBody
set_option maxRecDepth 20000 in
theorem ggX6_parse_X6_save : GoodIn wsX6_parse wsX6_save := goodIn_r _ [33, 34, 35, 2, 40, 41, 42, 43, 44, 45, 46, 47, 48, 49, 50, 51, 52, 53, 54] (by decide +kernel) (by decide +kernel)
set_option maxRecDepth 20000 in
theorem gX6_parse_X6_save : GoodIn wsX6_parse (wsV RX6 63 RX6 yX6_save wsX6_save) := goodIn_app (goodIn_of _ (by decide +kernel)) ggX6_parse_X6_save
set_option maxRecDepth 20000 in
theorem ggX6_parse_X6_adds : GoodIn wsX6_parse wsX6_adds := goodIn_r _ [39, 2, 40, 41, 42, 43, 44, 45, 46, 47, 48, 49, 50, 51, 52, 53, 54] (by decide +kernel) (by decide +kernel)
set_option maxRecDepth 20000 in
theorem gX6_parse_X6_adds : GoodIn wsX6_parse (wsV RX6 66 RX6 yX6_adds wsX6_adds) := goodIn_app (goodIn_of _ (by decide +kernel)) ggX6_parse_X6_adds
theorem dX6_parse_0 : decode cX6_parse 0 = .ok (.aload_n 0, 1) := by decide +kernel
theorem dX6_parse_1 : decode cX6_parse 1 = .ok (.iconst 0, 1) := by decide +kernel
theorem dX6_parse_2 : decode cX6_parse 2 = .ok (.putfield 138, 3) := by decide +kernel
theorem dX6_parse_5 : decode cX6_parse 5 = .ok (.iconst 0, 1) := by decide +kernel
theorem dX6_parse_6 : decode cX6_parse 6 = .ok (.istore_n 1, 1) := by decide +kernel
theorem dX6_parse_7 : decode cX6_parse 7 = .ok (.aload_n 0, 1) := by decide +kernel
theorem dX6_parse_8 : decode cX6_parse 8 = .ok (.invokevirtual 148, 3) := by decide +kernel
theorem dX6_parse_11 : decode cX6_parse 11 = .ok (.iconst (-1), 1) := by decide +kernel
theorem dX6_parse_12 : decode cX6_parse 12 = .ok (.if_icmp .eq 99, 3) := by decide +kernel
theorem dX6_parse_15 : decode cX6_parse 15 = .ok (.aload_n 0, 1) := by decide +kernel
theorem dX6_parse_16 : decode cX6_parse 16 = .ok (.getfield 7, 3) := by decide +kernel
theorem dX6_parse_19 : decode cX6_parse 19 = .ok (.iconst 0, 1) := by decide +kernel
theorem dX6_parse_20 : decode cX6_parse 20 = .ok (.iaload, 1) := by decide +kernel
theorem dX6_parse_21 : decode cX6_parse 21 = .ok (.iload_n 1, 1) := by decide +kernel
theorem dX6_parse_22 : decode cX6_parse 22 = .ok (.iadd, 1) := by decide +kernel
theorem dX6_parse_23 : decode cX6_parse 23 = .ok (.bipush 24, 2) := by decide +kernel
theorem dX6_parse_25 : decode cX6_parse 25 = .ok (.if_icmp .ne 11, 3) := by decide +kernel
theorem dX6_parse_28 : decode cX6_parse 28 = .ok (.bipush (-10), 2) := by decide +kernel
theorem dX6_parse_30 : decode cX6_parse 30 = .ok (.aload_n 0, 1) := by decide +kernel
theorem dX6_parse_31 : decode cX6_parse 31 = .ok (.getfield 141, 3) := by decide +kernel
theorem dX6_parse_34 : decode cX6_parse 34 = .ok (.isub, 1) := by decide +kernel
theorem dX6_parse_35 : decode cX6_parse 35 = .ok (.ireturn, 1) := by decide +kernel
theorem dX6_parse_36 : decode cX6_parse 36 = .ok (.aload_n 0, 1) := by decide +kernel
theorem dX6_parse_37 : decode cX6_parse 37 = .ok (.invokevirtual 154, 3) := by decide +kernel
theorem dX6_parse_40 : decode cX6_parse 40 = .ok (.istore_n 2, 1) := by decide +kernel
theorem dX6_parse_41 : decode cX6_parse 41 = .ok (.iload_n 2, 1) := by decide +kernel
theorem dX6_parse_42 : decode cX6_parse 42 = .ok (.iconst (-1), 1) := by decide +kernel
theorem dX6_parse_43 : decode cX6_parse 43 = .ok (.if_icmp .eq 12, 3) := by decide +kernel
theorem dX6_parse_46 : decode cX6_parse 46 = .ok (.aload_n 0, 1) := by decide +kernel
theorem dX6_parse_47 : decode cX6_parse 47 = .ok (.invokevirtual 148, 3) := by decide +kernel
theorem dX6_parse_50 : decode cX6_parse 50 = .ok (.bipush 58, 2) := by decide +kernel
theorem dX6_parse_52 : decode cX6_parse 52 = .ok (.if_icmp .eq 11, 3) := by decide +kernel
theorem dX6_parse_55 : decode cX6_parse 55 = .ok (.bipush (-10), 2) := by decide +kernel
theorem dX6_parse_57 : decode cX6_parse 57 = .ok (.aload_n 0, 1) := by decide +kernel
theorem dX6_parse_58 : decode cX6_parse 58 = .ok (.getfield 141, 3) := by decide +kernel
theorem dX6_parse_61 : decode cX6_parse 61 = .ok (.isub, 1) := by decide +kernel
theorem dX6_parse_62 : decode cX6_parse 62 = .ok (.ireturn, 1) := by decide +kernel
theorem dX6_parse_63 : decode cX6_parse 63 = .ok (.aload_n 0, 1) := by decide +kernel
theorem dX6_parse_64 : decode cX6_parse 64 = .ok (.dup, 1) := by decide +kernel
theorem dX6_parse_65 : decode cX6_parse 65 = .ok (.getfield 138, 3) := by decide +kernel
theorem dX6_parse_68 : decode cX6_parse 68 = .ok (.iconst 1, 1) := by decide +kernel
theorem dX6_parse_69 : decode cX6_parse 69 = .ok (.iadd, 1) := by decide +kernel
theorem dX6_parse_70 : decode cX6_parse 70 = .ok (.putfield 138, 3) := by decide +kernel
theorem dX6_parse_73 : decode cX6_parse 73 = .ok (.aload_n 0, 1) := by decide +kernel
theorem dX6_parse_74 : decode cX6_parse 74 = .ok (.invokevirtual 157, 3) := by decide +kernel
theorem dX6_parse_77 : decode cX6_parse 77 = .ok (.istore_n 3, 1) := by decide +kernel
theorem dX6_parse_78 : decode cX6_parse 78 = .ok (.iload_n 3, 1) := by decide +kernel
theorem dX6_parse_79 : decode cX6_parse 79 = .ok (.iconst (-1), 1) := by decide +kernel
theorem dX6_parse_80 : decode cX6_parse 80 = .ok (.if_icmp .ne 11, 3) := by decide +kernel
theorem dX6_parse_83 : decode cX6_parse 83 = .ok (.bipush (-10), 2) := by decide +kernel
theorem dX6_parse_85 : decode cX6_parse 85 = .ok (.aload_n 0, 1) := by decide +kernel
theorem dX6_parse_86 : decode cX6_parse 86 = .ok (.getfield 141, 3) := by decide +kernel
theorem dX6_parse_89 : decode cX6_parse 89 = .ok (.isub, 1) := by decide +kernel
theorem dX6_parse_90 : decode cX6_parse 90 = .ok (.ireturn, 1) := by decide +kernel
theorem dX6_parse_91 : decode cX6_parse 91 = .ok (.aload_n 0, 1) := by decide +kernel
theorem dX6_parse_92 : decode cX6_parse 92 = .ok (.getfield 31, 3) := by decide +kernel
theorem dX6_parse_95 : decode cX6_parse 95 = .ok (.iload_n 1, 1) := by decide +kernel
theorem dX6_parse_96 : decode cX6_parse 96 = .ok (.iload_n 2, 1) := by decide +kernel
theorem dX6_parse_97 : decode cX6_parse 97 = .ok (.iastore, 1) := by decide +kernel
theorem dX6_parse_98 : decode cX6_parse 98 = .ok (.aload_n 0, 1) := by decide +kernel
theorem dX6_parse_99 : decode cX6_parse 99 = .ok (.getfield 34, 3) := by decide +kernel
theorem dX6_parse_102 : decode cX6_parse 102 = .ok (.iload_n 1, 1) := by decide +kernel
theorem dX6_parse_103 : decode cX6_parse 103 = .ok (.iload_n 3, 1) := by decide +kernel
theorem dX6_parse_104 : decode cX6_parse 104 = .ok (.iastore, 1) := by decide +kernel
theorem dX6_parse_105 : decode cX6_parse 105 = .ok (.iinc 1 1, 3) := by decide +kernel
theorem dX6_parse_108 : decode cX6_parse 108 = .ok (.goto (-101), 3) := by decide +kernel
theorem dX6_parse_111 : decode cX6_parse 111 = .ok (.aload_n 0, 1) := by decide +kernel
theorem dX6_parse_112 : decode cX6_parse 112 = .ok (.invokevirtual 63, 3) := by decide +kernel
theorem dX6_parse_115 : decode cX6_parse 115 = .ok (.iconst 0, 1) := by decide +kernel
theorem dX6_parse_116 : decode cX6_parse 116 = .ok (.istore_n 2, 1) := by decide +kernel
theorem dX6_parse_117 : decode cX6_parse 117 = .ok (.iload_n 2, 1) := by decide +kernel
theorem dX6_parse_118 : decode cX6_parse 118 = .ok (.iload_n 1, 1) := by decide +kernel
theorem dX6_parse_119 : decode cX6_parse 119 = .ok (.if_icmp .ge 25, 3) := by decide +kernel
theorem dX6_parse_122 : decode cX6_parse 122 = .ok (.aload_n 0, 1) := by decide +kernel
theorem dX6_parse_123 : decode cX6_parse 123 = .ok (.aload_n 0, 1) := by decide +kernel
theorem dX6_parse_124 : decode cX6_parse 124 = .ok (.getfield 31, 3) := by decide +kernel
theorem dX6_parse_127 : decode cX6_parse 127 = .ok (.iload_n 2, 1) := by decide +kernel
theorem dX6_parse_128 : decode cX6_parse 128 = .ok (.iaload, 1) := by decide +kernel
theorem dX6_parse_129 : decode cX6_parse 129 = .ok (.aload_n 0, 1) := by decide +kernel
theorem dX6_parse_130 : decode cX6_parse 130 = .ok (.getfield 34, 3) := by decide +kernel
theorem dX6_parse_133 : decode cX6_parse 133 = .ok (.iload_n 2, 1) := by decide +kernel
theorem dX6_parse_134 : decode cX6_parse 134 = .ok (.iaload, 1) := by decide +kernel
theorem dX6_parse_135 : decode cX6_parse 135 = .ok (.invokevirtual 66, 3) := by decide +kernel
theorem dX6_parse_138 : decode cX6_parse 138 = .ok (.iinc 2 1, 3) := by decide +kernel
theorem dX6_parse_141 : decode cX6_parse 141 = .ok (.goto (-24), 3) := by decide +kernel
theorem dX6_parse_144 : decode cX6_parse 144 = .ok (.iload_n 1, 1) := by decide +kernel
theorem dX6_parse_145 : decode cX6_parse 145 = .ok (.ireturn, 1) := by decide +kernel
set_option maxRecDepth 20000 in
theorem ggX6_undo_X6_error : GoodIn wsX6_undo wsX6_error := goodIn_r _ [8, 9, 10, 11, 12, 13, 14, 15, 16, 17, 18, 19, 20, 21, 22, 23, 24] (by decide +kernel) (by decide +kernel)
set_option maxRecDepth 20000 in
theorem gX6_undo_X6_error : GoodIn wsX6_undo (wsV RX6 60 RX6 yX6_error wsX6_error) := goodIn_app (goodIn_of _ (by decide +kernel)) ggX6_undo_X6_error
theorem dX6_undo_0 : decode cX6_undo 0 = .ok (.aload_n 0, 1) := by decide +kernel
theorem dX6_undo_1 : decode cX6_undo 1 = .ok (.getfield 37, 3) := by decide +kernel
theorem dX6_undo_4 : decode cX6_undo 4 = .ok (.ifCond .ne 10, 3) := by decide +kernel
theorem dX6_undo_7 : decode cX6_undo 7 = .ok (.aload_n 0, 1) := by decide +kernel
theorem dX6_undo_8 : decode cX6_undo 8 = .ok (.bipush (-5), 2) := by decide +kernel
theorem dX6_undo_10 : decode cX6_undo 10 = .ok (.invokevirtual 60, 3) := by decide +kernel
theorem dX6_undo_13 : decode cX6_undo 13 = .ok (.ireturn, 1) := by decide +kernel
theorem dX6_undo_14 : decode cX6_undo 14 = .ok (.aload_n 0, 1) := by decide +kernel
theorem dX6_undo_15 : decode cX6_undo 15 = .ok (.dup, 1) := by decide +kernel
theorem dX6_undo_16 : decode cX6_undo 16 = .ok (.getfield 37, 3) := by decide +kernel
theorem dX6_undo_19 : decode cX6_undo 19 = .ok (.iconst 1, 1) := by decide +kernel
theorem dX6_undo_20 : decode cX6_undo 20 = .ok (.isub, 1) := by decide +kernel
theorem dX6_undo_21 : decode cX6_undo 21 = .ok (.putfield 37, 3) := by decide +kernel
theorem dX6_undo_24 : decode cX6_undo 24 = .ok (.iconst 0, 1) := by decide +kernel
theorem dX6_undo_25 : decode cX6_undo 25 = .ok (.istore_n 1, 1) := by decide +kernel
theorem dX6_undo_26 : decode cX6_undo 26 = .ok (.iload_n 1, 1) := by decide +kernel
theorem dX6_undo_27 : decode cX6_undo 27 = .ok (.bipush 50, 2) := by decide +kernel
theorem dX6_undo_29 : decode cX6_undo 29 = .ok (.if_icmp .ge 29, 3) := by decide +kernel
theorem dX6_undo_32 : decode cX6_undo 32 = .ok (.aload_n 0, 1) := by decide +kernel
theorem dX6_undo_33 : decode cX6_undo 33 = .ok (.getfield 7, 3) := by decide +kernel
theorem dX6_undo_36 : decode cX6_undo 36 = .ok (.iload_n 1, 1) := by decide +kernel
theorem dX6_undo_37 : decode cX6_undo 37 = .ok (.aload_n 0, 1) := by decide +kernel
theorem dX6_undo_38 : decode cX6_undo 38 = .ok (.getfield 13, 3) := by decide +kernel
theorem dX6_undo_41 : decode cX6_undo 41 = .ok (.bipush 50, 2) := by decide +kernel
theorem dX6_undo_43 : decode cX6_undo 43 = .ok (.aload_n 0, 1) := by decide +kernel
theorem dX6_undo_44 : decode cX6_undo 44 = .ok (.getfield 37, 3) := by decide +kernel
theorem dX6_undo_47 : decode cX6_undo 47 = .ok (.imul, 1) := by decide +kernel
theorem dX6_undo_48 : decode cX6_undo 48 = .ok (.iload_n 1, 1) := by decide +kernel
theorem dX6_undo_49 : decode cX6_undo 49 = .ok (.iadd, 1) := by decide +kernel
theorem dX6_undo_50 : decode cX6_undo 50 = .ok (.iaload, 1) := by decide +kernel
theorem dX6_undo_51 : decode cX6_undo 51 = .ok (.iastore, 1) := by decide +kernel
theorem dX6_undo_52 : decode cX6_undo 52 = .ok (.iinc 1 1, 3) := by decide +kernel
theorem dX6_undo_55 : decode cX6_undo 55 = .ok (.goto (-29), 3) := by decide +kernel
theorem dX6_undo_58 : decode cX6_undo 58 = .ok (.aload_n 0, 1) := by decide +kernel
theorem dX6_undo_59 : decode cX6_undo 59 = .ok (.getfield 37, 3) := by decide +kernel
theorem dX6_undo_62 : decode cX6_undo 62 = .ok (.ireturn, 1) := by decide +kernel
set_option maxRecDepth 20000 in
theorem ggX6_errorCount_X6_in : GoodIn wsX6_errorCount wsX6_in := goodIn_r _ [7] (by decide +kernel) (by decide +kernel)
set_option maxRecDepth 20000 in
theorem gX6_errorCount_X6_in : GoodIn wsX6_errorCount (va_wsS RX6 43 yX6_in wsX6_in) := goodIn_app (goodIn_of _ (by decide +kernel)) ggX6_errorCount_X6_in
set_option maxRecDepth 20000 in
theorem ggX6_errorCount_X6_error : GoodIn wsX6_errorCount wsX6_error := goodIn_r _ [11, 3, 12, 13, 14, 15, 16, 17, 18, 19, 20, 21, 22, 23, 24, 25, 26] (by decide +kernel) (by decide +kernel)
set_option maxRecDepth 20000 in
theorem gX6_errorCount_X6_error : GoodIn wsX6_errorCount (wsV RX6 60 RX6 yX6_error wsX6_error) := goodIn_app (goodIn_of _ (by decide +kernel)) ggX6_errorCount_X6_error
theorem dX6_errorCount_0 : decode cX6_errorCount 0 = .ok (.iload_n 1, 1) := by decide +kernel
theorem dX6_errorCount_1 : decode cX6_errorCount 1 = .ok (.i2l, 1) := by decide +kernel
theorem dX6_errorCount_2 : decode cX6_errorCount 2 = .ok (.ldc2_w 160, 3) := by decide +kernel
theorem dX6_errorCount_5 : decode cX6_errorCount 5 = .ok (.ldc2_w 162, 3) := by decide +kernel
theorem dX6_errorCount_8 : decode cX6_errorCount 8 = .ok (.invokestatic 43, 3) := by decide +kernel
theorem dX6_errorCount_11 : decode cX6_errorCount 11 = .ok (.ifCond .eq 15, 3) := by decide +kernel
theorem dX6_errorCount_14 : decode cX6_errorCount 14 = .ok (.aload_n 0, 1) := by decide +kernel
theorem dX6_errorCount_15 : decode cX6_errorCount 15 = .ok (.getfield 16, 3) := by decide +kernel
theorem dX6_errorCount_18 : decode cX6_errorCount 18 = .ok (.bipush (-2), 2) := by decide +kernel
theorem dX6_errorCount_20 : decode cX6_errorCount 20 = .ok (.iload_n 1, 1) := by decide +kernel
theorem dX6_errorCount_21 : decode cX6_errorCount 21 = .ok (.isub, 1) := by decide +kernel
theorem dX6_errorCount_22 : decode cX6_errorCount 22 = .ok (.iaload, 1) := by decide +kernel
theorem dX6_errorCount_23 : decode cX6_errorCount 23 = .ok (.goto 9, 3) := by decide +kernel
theorem dX6_errorCount_26 : decode cX6_errorCount 26 = .ok (.aload_n 0, 1) := by decide +kernel
theorem dX6_errorCount_27 : decode cX6_errorCount 27 = .ok (.bipush (-2), 2) := by decide +kernel
theorem dX6_errorCount_29 : decode cX6_errorCount 29 = .ok (.invokevirtual 60, 3) := by decide +kernel
theorem dX6_errorCount_32 : decode cX6_errorCount 32 = .ok (.ireturn, 1) := by decide +kernel
set_option maxRecDepth 20000 in
theorem ggX6_digest_X6_headOf : GoodIn wsX6_digest wsX6_headOf := goodIn_r _ [15, 5, 72, 73, 74, 75, 76, 77, 78, 79, 80, 81, 82, 83, 84, 85, 86] (by decide +kernel) (by decide +kernel)
set_option maxRecDepth 20000 in
theorem gX6_digest_X6_headOf : GoodIn wsX6_digest (wsV RX6 73 RX6 yX6_headOf wsX6_headOf) := goodIn_app (goodIn_of _ (by decide +kernel)) ggX6_digest_X6_headOf
set_option maxRecDepth 20000 in
theorem ggX6_digest_X6_bodyOf : GoodIn wsX6_digest wsX6_bodyOf := goodIn_r _ [19, 5, 72, 73, 74, 75, 76, 77, 78, 79, 80, 81, 82, 83, 84, 85, 86] (by decide +kernel) (by decide +kernel)
set_option maxRecDepth 20000 in
theorem gX6_digest_X6_bodyOf : GoodIn wsX6_digest (wsV RX6 76 RX6 yX6_bodyOf wsX6_bodyOf) := goodIn_app (goodIn_of _ (by decide +kernel)) ggX6_digest_X6_bodyOf
set_option maxRecDepth 20000 in
theorem ggX6_digest_X6_overDeletedOf : GoodIn wsX6_digest wsX6_overDeletedOf := goodIn_r _ [23, 5, 24, 25, 26, 14, 27, 28, 29, 30, 31, 32, 33, 34, 35, 16, 17, 18, 19, 11, 12, 13, 15, 72, 73, 74, 75, 76, 77, 78, 79, 80, 81, 82, 83, 84, 85, 86] (by decide +kernel) (by decide +kernel)
set_option maxRecDepth 20000 in
theorem gX6_digest_X6_overDeletedOf : GoodIn wsX6_digest (wsV RX6 127 RX6 yX6_overDeletedOf wsX6_overDeletedOf) := goodIn_app (goodIn_of _ (by decide +kernel)) ggX6_digest_X6_overDeletedOf
set_option maxRecDepth 20000 in
theorem ggX6_digest_X6_lostOf : GoodIn wsX6_digest wsX6_lostOf := goodIn_r _ [39, 24, 25, 26, 14, 27, 28, 29, 30, 31, 5, 32, 33, 34, 35, 16, 17, 18, 19, 11, 12, 13, 15, 72, 73, 74, 75, 76, 77, 78, 79, 80, 81, 82, 83, 84, 85, 86] (by decide +kernel) (by decide +kernel)
set_option maxRecDepth 20000 in
theorem gX6_digest_X6_lostOf : GoodIn wsX6_digest (wsV RX6 130 RX6 yX6_lostOf wsX6_lostOf) := goodIn_app (goodIn_of _ (by decide +kernel)) ggX6_digest_X6_lostOf
set_option maxRecDepth 20000 in
theorem ggX6_digest_X6_whole : GoodIn wsX6_digest wsX6_whole := goodIn_r _ [27, 28, 29, 30, 14, 31, 5, 32, 33, 34, 35, 16, 17, 18, 19, 11, 12, 13, 15, 72, 73, 74, 75, 76, 77, 78, 79, 80, 81, 82, 83, 84, 85, 86] (by decide +kernel) (by decide +kernel)
set_option maxRecDepth 20000 in
theorem gX6_digest_X6_whole : GoodIn wsX6_digest (wsV RX6 87 RX6 yX6_whole wsX6_whole) := goodIn_app (goodIn_of _ (by decide +kernel)) ggX6_digest_X6_whole
set_option maxRecDepth 20000 in
theorem ggX6_digest_X6_propagates : GoodIn wsX6_digest wsX6_propagates := goodIn_r _ [43, 6, 8, 5, 44, 7, 16, 17, 18, 14, 19, 45, 46, 47, 48, 49, 50, 51, 9, 11, 12, 13, 15, 72, 73, 74, 75, 76, 77, 78, 79, 80, 81, 82, 83, 84, 85, 86] (by decide +kernel) (by decide +kernel)
set_option maxRecDepth 20000 in
theorem gX6_digest_X6_propagates : GoodIn wsX6_digest (wsV RX6 99 RX6 yX6_propagates wsX6_propagates) := goodIn_app (goodIn_of _ (by decide +kernel)) ggX6_digest_X6_propagates
set_option maxRecDepth 20000 in
theorem ggX6_digest_X6_levelOf : GoodIn wsX6_digest wsX6_levelOf := goodIn_r _ [55, 5, 16, 17, 18, 14, 19, 11, 12, 13, 15, 72, 73, 74, 75, 76, 77, 78, 79, 80, 81, 82, 83, 84, 85, 86] (by decide +kernel) (by decide +kernel)
set_option maxRecDepth 20000 in
theorem gX6_digest_X6_levelOf : GoodIn wsX6_digest (wsV RX6 108 RX6 yX6_levelOf wsX6_levelOf) := goodIn_app (goodIn_of _ (by decide +kernel)) ggX6_digest_X6_levelOf
set_option maxRecDepth 20000 in
theorem ggX6_digest_X6_reasonOf : GoodIn wsX6_digest wsX6_reasonOf := goodIn_r _ [59, 5, 28, 29, 30, 14, 31, 32, 33, 34, 35, 16, 17, 18, 19, 11, 12, 13, 15, 72, 73, 74, 75, 76, 77, 78, 79, 80, 81, 82, 83, 84, 85, 86] (by decide +kernel) (by decide +kernel)
set_option maxRecDepth 20000 in
theorem gX6_digest_X6_reasonOf : GoodIn wsX6_digest (wsV RX6 118 RX6 yX6_reasonOf wsX6_reasonOf) := goodIn_app (goodIn_of _ (by decide +kernel)) ggX6_digest_X6_reasonOf
set_option maxRecDepth 20000 in
theorem ggX6_digest_X6_necessaryOf : GoodIn wsX6_digest wsX6_necessaryOf := goodIn_r _ [63, 5, 28, 29, 30, 14, 31, 32, 33, 34, 35, 16, 17, 18, 19, 11, 12, 13, 15, 72, 73, 74, 75, 76, 77, 78, 79, 80, 81, 82, 83, 84, 85, 86] (by decide +kernel) (by decide +kernel)
set_option maxRecDepth 20000 in
theorem gX6_digest_X6_necessaryOf : GoodIn wsX6_digest (wsV RX6 121 RX6 yX6_necessaryOf wsX6_necessaryOf) := goodIn_app (goodIn_of _ (by decide +kernel)) ggX6_digest_X6_necessaryOf
set_option maxRecDepth 20000 in
theorem ggX6_digest_X6_cyclicAtoms : GoodIn wsX6_digest wsX6_cyclicAtoms := goodIn_r _ [67, 68, 69, 70, 14, 71, 5, 11, 12, 13, 15, 16, 17, 18, 19, 72, 73, 74, 75, 76, 77, 78, 79, 80, 81, 82, 83, 84, 85, 86] (by decide +kernel) (by decide +kernel)
set_option maxRecDepth 20000 in
theorem gX6_digest_X6_cyclicAtoms : GoodIn wsX6_digest (wsV RX6 168 RX6 yX6_cyclicAtoms wsX6_cyclicAtoms) := goodIn_app (goodIn_of _ (by decide +kernel)) ggX6_digest_X6_cyclicAtoms
theorem dX6_digest_0 : decode cX6_digest 0 = .ok (.ldc2_w 164, 3) := by decide +kernel
theorem dX6_digest_3 : decode cX6_digest 3 = .ok (.lstore_n 1, 1) := by decide +kernel
theorem dX6_digest_4 : decode cX6_digest 4 = .ok (.iconst 0, 1) := by decide +kernel
theorem dX6_digest_5 : decode cX6_digest 5 = .ok (.istore_n 3, 1) := by decide +kernel
theorem dX6_digest_6 : decode cX6_digest 6 = .ok (.iload_n 3, 1) := by decide +kernel
theorem dX6_digest_7 : decode cX6_digest 7 = .ok (.iconst 4, 1) := by decide +kernel
theorem dX6_digest_8 : decode cX6_digest 8 = .ok (.if_icmp .ge 23, 3) := by decide +kernel
theorem dX6_digest_11 : decode cX6_digest 11 = .ok (.ldc2_w 166, 3) := by decide +kernel
theorem dX6_digest_14 : decode cX6_digest 14 = .ok (.lload_n 1, 1) := by decide +kernel
theorem dX6_digest_15 : decode cX6_digest 15 = .ok (.lmul, 1) := by decide +kernel
theorem dX6_digest_16 : decode cX6_digest 16 = .ok (.aload_n 0, 1) := by decide +kernel
theorem dX6_digest_17 : decode cX6_digest 17 = .ok (.getfield 16, 3) := by decide +kernel
theorem dX6_digest_20 : decode cX6_digest 20 = .ok (.iload_n 3, 1) := by decide +kernel
theorem dX6_digest_21 : decode cX6_digest 21 = .ok (.iaload, 1) := by decide +kernel
theorem dX6_digest_22 : decode cX6_digest 22 = .ok (.i2l, 1) := by decide +kernel
theorem dX6_digest_23 : decode cX6_digest 23 = .ok (.ladd, 1) := by decide +kernel
theorem dX6_digest_24 : decode cX6_digest 24 = .ok (.lstore_n 1, 1) := by decide +kernel
theorem dX6_digest_25 : decode cX6_digest 25 = .ok (.iinc 3 1, 3) := by decide +kernel
theorem dX6_digest_28 : decode cX6_digest 28 = .ok (.goto (-22), 3) := by decide +kernel
theorem dX6_digest_31 : decode cX6_digest 31 = .ok (.ldc2_w 166, 3) := by decide +kernel
theorem dX6_digest_34 : decode cX6_digest 34 = .ok (.ldc2_w 166, 3) := by decide +kernel
theorem dX6_digest_37 : decode cX6_digest 37 = .ok (.ldc2_w 166, 3) := by decide +kernel
theorem dX6_digest_40 : decode cX6_digest 40 = .ok (.lload_n 1, 1) := by decide +kernel
theorem dX6_digest_41 : decode cX6_digest 41 = .ok (.lmul, 1) := by decide +kernel
theorem dX6_digest_42 : decode cX6_digest 42 = .ok (.aload_n 0, 1) := by decide +kernel
theorem dX6_digest_43 : decode cX6_digest 43 = .ok (.getfield 135, 3) := by decide +kernel
theorem dX6_digest_46 : decode cX6_digest 46 = .ok (.i2l, 1) := by decide +kernel
theorem dX6_digest_47 : decode cX6_digest 47 = .ok (.ladd, 1) := by decide +kernel
theorem dX6_digest_48 : decode cX6_digest 48 = .ok (.lmul, 1) := by decide +kernel
theorem dX6_digest_49 : decode cX6_digest 49 = .ok (.aload_n 0, 1) := by decide +kernel
theorem dX6_digest_50 : decode cX6_digest 50 = .ok (.getfield 7, 3) := by decide +kernel
theorem dX6_digest_53 : decode cX6_digest 53 = .ok (.iconst 1, 1) := by decide +kernel
theorem dX6_digest_54 : decode cX6_digest 54 = .ok (.iaload, 1) := by decide +kernel
theorem dX6_digest_55 : decode cX6_digest 55 = .ok (.i2l, 1) := by decide +kernel
theorem dX6_digest_56 : decode cX6_digest 56 = .ok (.ladd, 1) := by decide +kernel
theorem dX6_digest_57 : decode cX6_digest 57 = .ok (.lmul, 1) := by decide +kernel
theorem dX6_digest_58 : decode cX6_digest 58 = .ok (.aload_n 0, 1) := by decide +kernel
theorem dX6_digest_59 : decode cX6_digest 59 = .ok (.getfield 7, 3) := by decide +kernel
theorem dX6_digest_62 : decode cX6_digest 62 = .ok (.iconst 0, 1) := by decide +kernel
theorem dX6_digest_63 : decode cX6_digest 63 = .ok (.iaload, 1) := by decide +kernel
theorem dX6_digest_64 : decode cX6_digest 64 = .ok (.i2l, 1) := by decide +kernel
theorem dX6_digest_65 : decode cX6_digest 65 = .ok (.ladd, 1) := by decide +kernel
theorem dX6_digest_66 : decode cX6_digest 66 = .ok (.lstore_n 1, 1) := by decide +kernel
theorem dX6_digest_67 : decode cX6_digest 67 = .ok (.iconst 0, 1) := by decide +kernel
theorem dX6_digest_68 : decode cX6_digest 68 = .ok (.istore_n 3, 1) := by decide +kernel
theorem dX6_digest_69 : decode cX6_digest 69 = .ok (.iload_n 3, 1) := by decide +kernel
theorem dX6_digest_70 : decode cX6_digest 70 = .ok (.aload_n 0, 1) := by decide +kernel
theorem dX6_digest_71 : decode cX6_digest 71 = .ok (.getfield 7, 3) := by decide +kernel
theorem dX6_digest_74 : decode cX6_digest 74 = .ok (.iconst 0, 1) := by decide +kernel
theorem dX6_digest_75 : decode cX6_digest 75 = .ok (.iaload, 1) := by decide +kernel
theorem dX6_digest_76 : decode cX6_digest 76 = .ok (.if_icmp .ge 57, 3) := by decide +kernel
theorem dX6_digest_79 : decode cX6_digest 79 = .ok (.ldc2_w 166, 3) := by decide +kernel
theorem dX6_digest_82 : decode cX6_digest 82 = .ok (.ldc2_w 166, 3) := by decide +kernel
theorem dX6_digest_85 : decode cX6_digest 85 = .ok (.lload_n 1, 1) := by decide +kernel
theorem dX6_digest_86 : decode cX6_digest 86 = .ok (.lmul, 1) := by decide +kernel
theorem dX6_digest_87 : decode cX6_digest 87 = .ok (.aload_n 0, 1) := by decide +kernel
theorem dX6_digest_88 : decode cX6_digest 88 = .ok (.iload_n 3, 1) := by decide +kernel
theorem dX6_digest_89 : decode cX6_digest 89 = .ok (.invokevirtual 73, 3) := by decide +kernel
theorem dX6_digest_92 : decode cX6_digest 92 = .ok (.i2l, 1) := by decide +kernel
theorem dX6_digest_93 : decode cX6_digest 93 = .ok (.ladd, 1) := by decide +kernel
theorem dX6_digest_94 : decode cX6_digest 94 = .ok (.lmul, 1) := by decide +kernel
theorem dX6_digest_95 : decode cX6_digest 95 = .ok (.aload_n 0, 1) := by decide +kernel
theorem dX6_digest_96 : decode cX6_digest 96 = .ok (.iload_n 3, 1) := by decide +kernel
theorem dX6_digest_97 : decode cX6_digest 97 = .ok (.invokevirtual 76, 3) := by decide +kernel
theorem dX6_digest_100 : decode cX6_digest 100 = .ok (.i2l, 1) := by decide +kernel
theorem dX6_digest_101 : decode cX6_digest 101 = .ok (.ladd, 1) := by decide +kernel
theorem dX6_digest_102 : decode cX6_digest 102 = .ok (.lstore_n 1, 1) := by decide +kernel
theorem dX6_digest_103 : decode cX6_digest 103 = .ok (.ldc2_w 166, 3) := by decide +kernel
theorem dX6_digest_106 : decode cX6_digest 106 = .ok (.ldc2_w 166, 3) := by decide +kernel
theorem dX6_digest_109 : decode cX6_digest 109 = .ok (.lload_n 1, 1) := by decide +kernel
theorem dX6_digest_110 : decode cX6_digest 110 = .ok (.lmul, 1) := by decide +kernel
theorem dX6_digest_111 : decode cX6_digest 111 = .ok (.aload_n 0, 1) := by decide +kernel
theorem dX6_digest_112 : decode cX6_digest 112 = .ok (.iload_n 3, 1) := by decide +kernel
theorem dX6_digest_113 : decode cX6_digest 113 = .ok (.invokevirtual 127, 3) := by decide +kernel
theorem dX6_digest_116 : decode cX6_digest 116 = .ok (.i2l, 1) := by decide +kernel
theorem dX6_digest_117 : decode cX6_digest 117 = .ok (.ladd, 1) := by decide +kernel
theorem dX6_digest_118 : decode cX6_digest 118 = .ok (.lmul, 1) := by decide +kernel
theorem dX6_digest_119 : decode cX6_digest 119 = .ok (.aload_n 0, 1) := by decide +kernel
theorem dX6_digest_120 : decode cX6_digest 120 = .ok (.iload_n 3, 1) := by decide +kernel
theorem dX6_digest_121 : decode cX6_digest 121 = .ok (.invokevirtual 130, 3) := by decide +kernel
theorem dX6_digest_124 : decode cX6_digest 124 = .ok (.i2l, 1) := by decide +kernel
theorem dX6_digest_125 : decode cX6_digest 125 = .ok (.ladd, 1) := by decide +kernel
theorem dX6_digest_126 : decode cX6_digest 126 = .ok (.lstore_n 1, 1) := by decide +kernel
theorem dX6_digest_127 : decode cX6_digest 127 = .ok (.iinc 3 1, 3) := by decide +kernel
theorem dX6_digest_130 : decode cX6_digest 130 = .ok (.goto (-61), 3) := by decide +kernel
theorem dX6_digest_133 : decode cX6_digest 133 = .ok (.aload_n 0, 1) := by decide +kernel
theorem dX6_digest_134 : decode cX6_digest 134 = .ok (.invokevirtual 87, 3) := by decide +kernel
theorem dX6_digest_137 : decode cX6_digest 137 = .ok (.istore_n 3, 1) := by decide +kernel
theorem dX6_digest_138 : decode cX6_digest 138 = .ok (.ldc2_w 166, 3) := by decide +kernel
theorem dX6_digest_141 : decode cX6_digest 141 = .ok (.lload_n 1, 1) := by decide +kernel
theorem dX6_digest_142 : decode cX6_digest 142 = .ok (.lmul, 1) := by decide +kernel
theorem dX6_digest_143 : decode cX6_digest 143 = .ok (.iload_n 3, 1) := by decide +kernel
theorem dX6_digest_144 : decode cX6_digest 144 = .ok (.i2l, 1) := by decide +kernel
theorem dX6_digest_145 : decode cX6_digest 145 = .ok (.ladd, 1) := by decide +kernel
theorem dX6_digest_146 : decode cX6_digest 146 = .ok (.lstore_n 1, 1) := by decide +kernel
theorem dX6_digest_147 : decode cX6_digest 147 = .ok (.aload_n 0, 1) := by decide +kernel
theorem dX6_digest_148 : decode cX6_digest 148 = .ok (.invokevirtual 99, 3) := by decide +kernel
theorem dX6_digest_151 : decode cX6_digest 151 = .ok (.iconst 0, 1) := by decide +kernel
theorem dX6_digest_152 : decode cX6_digest 152 = .ok (.istore 4, 2) := by decide +kernel
theorem dX6_digest_154 : decode cX6_digest 154 = .ok (.iload 4, 2) := by decide +kernel
theorem dX6_digest_156 : decode cX6_digest 156 = .ok (.aload_n 0, 1) := by decide +kernel
theorem dX6_digest_157 : decode cX6_digest 157 = .ok (.getfield 93, 3) := by decide +kernel
theorem dX6_digest_160 : decode cX6_digest 160 = .ok (.if_icmp .ge 24, 3) := by decide +kernel
theorem dX6_digest_163 : decode cX6_digest 163 = .ok (.ldc2_w 166, 3) := by decide +kernel
theorem dX6_digest_166 : decode cX6_digest 166 = .ok (.lload_n 1, 1) := by decide +kernel
theorem dX6_digest_167 : decode cX6_digest 167 = .ok (.lmul, 1) := by decide +kernel
theorem dX6_digest_168 : decode cX6_digest 168 = .ok (.aload_n 0, 1) := by decide +kernel
theorem dX6_digest_169 : decode cX6_digest 169 = .ok (.getfield 22, 3) := by decide +kernel
theorem dX6_digest_172 : decode cX6_digest 172 = .ok (.iload 4, 2) := by decide +kernel
theorem dX6_digest_174 : decode cX6_digest 174 = .ok (.iaload, 1) := by decide +kernel
theorem dX6_digest_175 : decode cX6_digest 175 = .ok (.i2l, 1) := by decide +kernel
theorem dX6_digest_176 : decode cX6_digest 176 = .ok (.ladd, 1) := by decide +kernel
theorem dX6_digest_177 : decode cX6_digest 177 = .ok (.lstore_n 1, 1) := by decide +kernel
theorem dX6_digest_178 : decode cX6_digest 178 = .ok (.iinc 4 1, 3) := by decide +kernel
theorem dX6_digest_181 : decode cX6_digest 181 = .ok (.goto (-27), 3) := by decide +kernel
theorem dX6_digest_184 : decode cX6_digest 184 = .ok (.iconst 0, 1) := by decide +kernel
theorem dX6_digest_185 : decode cX6_digest 185 = .ok (.istore 4, 2) := by decide +kernel
theorem dX6_digest_187 : decode cX6_digest 187 = .ok (.iload 4, 2) := by decide +kernel
theorem dX6_digest_189 : decode cX6_digest 189 = .ok (.aload_n 0, 1) := by decide +kernel
theorem dX6_digest_190 : decode cX6_digest 190 = .ok (.getfield 90, 3) := by decide +kernel
theorem dX6_digest_193 : decode cX6_digest 193 = .ok (.if_icmp .ge 24, 3) := by decide +kernel
theorem dX6_digest_196 : decode cX6_digest 196 = .ok (.ldc2_w 166, 3) := by decide +kernel
theorem dX6_digest_199 : decode cX6_digest 199 = .ok (.lload_n 1, 1) := by decide +kernel
theorem dX6_digest_200 : decode cX6_digest 200 = .ok (.lmul, 1) := by decide +kernel
theorem dX6_digest_201 : decode cX6_digest 201 = .ok (.aload_n 0, 1) := by decide +kernel
theorem dX6_digest_202 : decode cX6_digest 202 = .ok (.getfield 25, 3) := by decide +kernel
theorem dX6_digest_205 : decode cX6_digest 205 = .ok (.iload 4, 2) := by decide +kernel
theorem dX6_digest_207 : decode cX6_digest 207 = .ok (.iaload, 1) := by decide +kernel
theorem dX6_digest_208 : decode cX6_digest 208 = .ok (.i2l, 1) := by decide +kernel
theorem dX6_digest_209 : decode cX6_digest 209 = .ok (.ladd, 1) := by decide +kernel
theorem dX6_digest_210 : decode cX6_digest 210 = .ok (.lstore_n 1, 1) := by decide +kernel
theorem dX6_digest_211 : decode cX6_digest 211 = .ok (.iinc 4 1, 3) := by decide +kernel
theorem dX6_digest_214 : decode cX6_digest 214 = .ok (.goto (-27), 3) := by decide +kernel
theorem dX6_digest_217 : decode cX6_digest 217 = .ok (.iconst 0, 1) := by decide +kernel
theorem dX6_digest_218 : decode cX6_digest 218 = .ok (.istore 4, 2) := by decide +kernel
theorem dX6_digest_220 : decode cX6_digest 220 = .ok (.iload 4, 2) := by decide +kernel
theorem dX6_digest_222 : decode cX6_digest 222 = .ok (.bipush 16, 2) := by decide +kernel
theorem dX6_digest_224 : decode cX6_digest 224 = .ok (.if_icmp .ge 57, 3) := by decide +kernel
theorem dX6_digest_227 : decode cX6_digest 227 = .ok (.iload_n 3, 1) := by decide +kernel
theorem dX6_digest_228 : decode cX6_digest 228 = .ok (.iload 4, 2) := by decide +kernel
theorem dX6_digest_230 : decode cX6_digest 230 = .ok (.ishr, 1) := by decide +kernel
theorem dX6_digest_231 : decode cX6_digest 231 = .ok (.iconst 1, 1) := by decide +kernel
theorem dX6_digest_232 : decode cX6_digest 232 = .ok (.iand, 1) := by decide +kernel
theorem dX6_digest_233 : decode cX6_digest 233 = .ok (.iconst 1, 1) := by decide +kernel
theorem dX6_digest_234 : decode cX6_digest 234 = .ok (.if_icmp .ne 41, 3) := by decide +kernel
theorem dX6_digest_237 : decode cX6_digest 237 = .ok (.ldc2_w 166, 3) := by decide +kernel
theorem dX6_digest_240 : decode cX6_digest 240 = .ok (.ldc2_w 166, 3) := by decide +kernel
theorem dX6_digest_243 : decode cX6_digest 243 = .ok (.ldc2_w 166, 3) := by decide +kernel
theorem dX6_digest_246 : decode cX6_digest 246 = .ok (.lload_n 1, 1) := by decide +kernel
theorem dX6_digest_247 : decode cX6_digest 247 = .ok (.lmul, 1) := by decide +kernel
theorem dX6_digest_248 : decode cX6_digest 248 = .ok (.aload_n 0, 1) := by decide +kernel
theorem dX6_digest_249 : decode cX6_digest 249 = .ok (.iload 4, 2) := by decide +kernel
theorem dX6_digest_251 : decode cX6_digest 251 = .ok (.invokevirtual 108, 3) := by decide +kernel
theorem dX6_digest_254 : decode cX6_digest 254 = .ok (.i2l, 1) := by decide +kernel
theorem dX6_digest_255 : decode cX6_digest 255 = .ok (.ladd, 1) := by decide +kernel
theorem dX6_digest_256 : decode cX6_digest 256 = .ok (.lmul, 1) := by decide +kernel
theorem dX6_digest_257 : decode cX6_digest 257 = .ok (.aload_n 0, 1) := by decide +kernel
theorem dX6_digest_258 : decode cX6_digest 258 = .ok (.iload 4, 2) := by decide +kernel
theorem dX6_digest_260 : decode cX6_digest 260 = .ok (.invokevirtual 118, 3) := by decide +kernel
theorem dX6_digest_263 : decode cX6_digest 263 = .ok (.i2l, 1) := by decide +kernel
theorem dX6_digest_264 : decode cX6_digest 264 = .ok (.ladd, 1) := by decide +kernel
theorem dX6_digest_265 : decode cX6_digest 265 = .ok (.lmul, 1) := by decide +kernel
theorem dX6_digest_266 : decode cX6_digest 266 = .ok (.aload_n 0, 1) := by decide +kernel
theorem dX6_digest_267 : decode cX6_digest 267 = .ok (.iload 4, 2) := by decide +kernel
theorem dX6_digest_269 : decode cX6_digest 269 = .ok (.invokevirtual 121, 3) := by decide +kernel
theorem dX6_digest_272 : decode cX6_digest 272 = .ok (.i2l, 1) := by decide +kernel
theorem dX6_digest_273 : decode cX6_digest 273 = .ok (.ladd, 1) := by decide +kernel
theorem dX6_digest_274 : decode cX6_digest 274 = .ok (.lstore_n 1, 1) := by decide +kernel
theorem dX6_digest_275 : decode cX6_digest 275 = .ok (.iinc 4 1, 3) := by decide +kernel
theorem dX6_digest_278 : decode cX6_digest 278 = .ok (.goto (-58), 3) := by decide +kernel
theorem dX6_digest_281 : decode cX6_digest 281 = .ok (.ldc2_w 166, 3) := by decide +kernel
theorem dX6_digest_284 : decode cX6_digest 284 = .ok (.ldc2_w 166, 3) := by decide +kernel
theorem dX6_digest_287 : decode cX6_digest 287 = .ok (.lload_n 1, 1) := by decide +kernel
theorem dX6_digest_288 : decode cX6_digest 288 = .ok (.lmul, 1) := by decide +kernel
theorem dX6_digest_289 : decode cX6_digest 289 = .ok (.aload_n 0, 1) := by decide +kernel
theorem dX6_digest_290 : decode cX6_digest 290 = .ok (.invokevirtual 168, 3) := by decide +kernel
theorem dX6_digest_293 : decode cX6_digest 293 = .ok (.i2l, 1) := by decide +kernel
theorem dX6_digest_294 : decode cX6_digest 294 = .ok (.ladd, 1) := by decide +kernel
theorem dX6_digest_295 : decode cX6_digest 295 = .ok (.lmul, 1) := by decide +kernel
theorem dX6_digest_296 : decode cX6_digest 296 = .ok (.aload_n 0, 1) := by decide +kernel
theorem dX6_digest_297 : decode cX6_digest 297 = .ok (.getfield 37, 3) := by decide +kernel
theorem dX6_digest_300 : decode cX6_digest 300 = .ok (.i2l, 1) := by decide +kernel
theorem dX6_digest_301 : decode cX6_digest 301 = .ok (.ladd, 1) := by decide +kernel
theorem dX6_digest_302 : decode cX6_digest 302 = .ok (.lreturn, 1) := by decide +kernel
theorem dJxf58ca_isNaN_12338_0 : decode cJxf58ca_isNaN_12338 0 = .ok (.fload_n 0, 1) := by decide +kernel
theorem dJxf58ca_isNaN_12338_1 : decode cJxf58ca_isNaN_12338 1 = .ok (.fload_n 0, 1) := by decide +kernel
theorem dJxf58ca_isNaN_12338_2 : decode cJxf58ca_isNaN_12338 2 = .ok (.fcmp .l, 1) := by decide +kernel
theorem dJxf58ca_isNaN_12338_3 : decode cJxf58ca_isNaN_12338 3 = .ok (.ifCond .eq 7, 3) := by decide +kernel
theorem dJxf58ca_isNaN_12338_6 : decode cJxf58ca_isNaN_12338 6 = .ok (.iconst 1, 1) := by decide +kernel
theorem dJxf58ca_isNaN_12338_7 : decode cJxf58ca_isNaN_12338 7 = .ok (.goto 4, 3) := by decide +kernel
theorem dJxf58ca_isNaN_12338_10 : decode cJxf58ca_isNaN_12338 10 = .ok (.iconst 0, 1) := by decide +kernel
theorem dJxf58ca_isNaN_12338_11 : decode cJxf58ca_isNaN_12338 11 = .ok (.ireturn, 1) := by decide +kernel
set_option maxRecDepth 20000 in
theorem ggJxf58ca_floatToIntBits_5c35a_Jxf58ca_isNaN_12338 : GoodIn wsJxf58ca_floatToIntBits_5c35a wsJxf58ca_isNaN_12338 := goodIn_r _ [9] (by decide +kernel) (by decide +kernel)
set_option maxRecDepth 20000 in
theorem gJxf58ca_floatToIntBits_5c35a_Jxf58ca_isNaN_12338 : GoodIn wsJxf58ca_floatToIntBits_5c35a (va_wsS RJxf58ca 59 yJxf58ca_isNaN_12338 wsJxf58ca_isNaN_12338) := goodIn_app (goodIn_of _ (by decide +kernel)) ggJxf58ca_floatToIntBits_5c35a_Jxf58ca_isNaN_12338
theorem dJxf58ca_floatToIntBits_5c35a_0 : decode cJxf58ca_floatToIntBits_5c35a 0 = .ok (.fload_n 0, 1) := by decide +kernel
theorem dJxf58ca_floatToIntBits_5c35a_1 : decode cJxf58ca_floatToIntBits_5c35a 1 = .ok (.invokestatic 59, 3) := by decide +kernel
theorem dJxf58ca_floatToIntBits_5c35a_4 : decode cJxf58ca_floatToIntBits_5c35a 4 = .ok (.ifCond .ne 8, 3) := by decide +kernel
theorem dJxf58ca_floatToIntBits_5c35a_7 : decode cJxf58ca_floatToIntBits_5c35a 7 = .ok (.fload_n 0, 1) := by decide +kernel
theorem dJxf58ca_floatToIntBits_5c35a_8 : decode cJxf58ca_floatToIntBits_5c35a 8 = .ok (.invokestatic 74, 3) := by decide +kernel
theorem dJxf58ca_floatToIntBits_5c35a_11 : decode cJxf58ca_floatToIntBits_5c35a 11 = .ok (.ireturn, 1) := by decide +kernel
theorem dJxf58ca_floatToIntBits_5c35a_12 : decode cJxf58ca_floatToIntBits_5c35a 12 = .ok (.ldc 77, 2) := by decide +kernel
theorem dJxf58ca_floatToIntBits_5c35a_14 : decode cJxf58ca_floatToIntBits_5c35a 14 = .ok (.ireturn, 1) := by decide +kernel
theorem dJ6_bitCount_0f7a4_0 : decode cJ6_bitCount_0f7a4 0 = .ok (.iload_n 0, 1) := by decide +kernel
theorem dJ6_bitCount_0f7a4_1 : decode cJ6_bitCount_0f7a4 1 = .ok (.iload_n 0, 1) := by decide +kernel
theorem dJ6_bitCount_0f7a4_2 : decode cJ6_bitCount_0f7a4 2 = .ok (.iconst 1, 1) := by decide +kernel
theorem dJ6_bitCount_0f7a4_3 : decode cJ6_bitCount_0f7a4 3 = .ok (.iushr, 1) := by decide +kernel
theorem dJ6_bitCount_0f7a4_4 : decode cJ6_bitCount_0f7a4 4 = .ok (.ldc_w 265, 3) := by decide +kernel
theorem dJ6_bitCount_0f7a4_7 : decode cJ6_bitCount_0f7a4 7 = .ok (.iand, 1) := by decide +kernel
theorem dJ6_bitCount_0f7a4_8 : decode cJ6_bitCount_0f7a4 8 = .ok (.isub, 1) := by decide +kernel
theorem dJ6_bitCount_0f7a4_9 : decode cJ6_bitCount_0f7a4 9 = .ok (.istore_n 0, 1) := by decide +kernel
theorem dJ6_bitCount_0f7a4_10 : decode cJ6_bitCount_0f7a4 10 = .ok (.iload_n 0, 1) := by decide +kernel
theorem dJ6_bitCount_0f7a4_11 : decode cJ6_bitCount_0f7a4 11 = .ok (.ldc_w 266, 3) := by decide +kernel
theorem dJ6_bitCount_0f7a4_14 : decode cJ6_bitCount_0f7a4 14 = .ok (.iand, 1) := by decide +kernel
theorem dJ6_bitCount_0f7a4_15 : decode cJ6_bitCount_0f7a4 15 = .ok (.iload_n 0, 1) := by decide +kernel
theorem dJ6_bitCount_0f7a4_16 : decode cJ6_bitCount_0f7a4 16 = .ok (.iconst 2, 1) := by decide +kernel
theorem dJ6_bitCount_0f7a4_17 : decode cJ6_bitCount_0f7a4 17 = .ok (.iushr, 1) := by decide +kernel
theorem dJ6_bitCount_0f7a4_18 : decode cJ6_bitCount_0f7a4 18 = .ok (.ldc_w 266, 3) := by decide +kernel
theorem dJ6_bitCount_0f7a4_21 : decode cJ6_bitCount_0f7a4 21 = .ok (.iand, 1) := by decide +kernel
theorem dJ6_bitCount_0f7a4_22 : decode cJ6_bitCount_0f7a4 22 = .ok (.iadd, 1) := by decide +kernel
theorem dJ6_bitCount_0f7a4_23 : decode cJ6_bitCount_0f7a4 23 = .ok (.istore_n 0, 1) := by decide +kernel
theorem dJ6_bitCount_0f7a4_24 : decode cJ6_bitCount_0f7a4 24 = .ok (.iload_n 0, 1) := by decide +kernel
theorem dJ6_bitCount_0f7a4_25 : decode cJ6_bitCount_0f7a4 25 = .ok (.iload_n 0, 1) := by decide +kernel
theorem dJ6_bitCount_0f7a4_26 : decode cJ6_bitCount_0f7a4 26 = .ok (.iconst 4, 1) := by decide +kernel
theorem dJ6_bitCount_0f7a4_27 : decode cJ6_bitCount_0f7a4 27 = .ok (.iushr, 1) := by decide +kernel
theorem dJ6_bitCount_0f7a4_28 : decode cJ6_bitCount_0f7a4 28 = .ok (.iadd, 1) := by decide +kernel
theorem dJ6_bitCount_0f7a4_29 : decode cJ6_bitCount_0f7a4 29 = .ok (.ldc_w 267, 3) := by decide +kernel
theorem dJ6_bitCount_0f7a4_32 : decode cJ6_bitCount_0f7a4 32 = .ok (.iand, 1) := by decide +kernel
theorem dJ6_bitCount_0f7a4_33 : decode cJ6_bitCount_0f7a4 33 = .ok (.istore_n 0, 1) := by decide +kernel
theorem dJ6_bitCount_0f7a4_34 : decode cJ6_bitCount_0f7a4 34 = .ok (.iload_n 0, 1) := by decide +kernel
theorem dJ6_bitCount_0f7a4_35 : decode cJ6_bitCount_0f7a4 35 = .ok (.iload_n 0, 1) := by decide +kernel
theorem dJ6_bitCount_0f7a4_36 : decode cJ6_bitCount_0f7a4 36 = .ok (.bipush 8, 2) := by decide +kernel
theorem dJ6_bitCount_0f7a4_38 : decode cJ6_bitCount_0f7a4 38 = .ok (.iushr, 1) := by decide +kernel
theorem dJ6_bitCount_0f7a4_39 : decode cJ6_bitCount_0f7a4 39 = .ok (.iadd, 1) := by decide +kernel
theorem dJ6_bitCount_0f7a4_40 : decode cJ6_bitCount_0f7a4 40 = .ok (.istore_n 0, 1) := by decide +kernel
theorem dJ6_bitCount_0f7a4_41 : decode cJ6_bitCount_0f7a4 41 = .ok (.iload_n 0, 1) := by decide +kernel
theorem dJ6_bitCount_0f7a4_42 : decode cJ6_bitCount_0f7a4 42 = .ok (.iload_n 0, 1) := by decide +kernel
theorem dJ6_bitCount_0f7a4_43 : decode cJ6_bitCount_0f7a4 43 = .ok (.bipush 16, 2) := by decide +kernel
theorem dJ6_bitCount_0f7a4_45 : decode cJ6_bitCount_0f7a4 45 = .ok (.iushr, 1) := by decide +kernel
theorem dJ6_bitCount_0f7a4_46 : decode cJ6_bitCount_0f7a4 46 = .ok (.iadd, 1) := by decide +kernel
theorem dJ6_bitCount_0f7a4_47 : decode cJ6_bitCount_0f7a4 47 = .ok (.istore_n 0, 1) := by decide +kernel
theorem dJ6_bitCount_0f7a4_48 : decode cJ6_bitCount_0f7a4 48 = .ok (.iload_n 0, 1) := by decide +kernel
theorem dJ6_bitCount_0f7a4_49 : decode cJ6_bitCount_0f7a4 49 = .ok (.bipush 63, 2) := by decide +kernel
theorem dJ6_bitCount_0f7a4_51 : decode cJ6_bitCount_0f7a4 51 = .ok (.iand, 1) := by decide +kernel
theorem dJ6_bitCount_0f7a4_52 : decode cJ6_bitCount_0f7a4 52 = .ok (.ireturn, 1) := by decide +kernel
abbrev vwCl : List vw_C := [(RX0, TX0, 2), (RX1, TX1, 4), (RX2, TX2, 2), (RX3, TX3, 3), (RX4, TX4, 4), (RX5, TX5, 6), (RX6, TX6, 15)]
end
section
/-! The layer of this claim: nest words, the tables' knowledge (gk), contracts that only read (pP, pu_), contracts that write (eP, ef_). -/
/-- the links to private members of nest mates: own, index, method, host -/
def zt : List (String × Nat × MethodName × String) := [(RX5, 9, yX4_init, RX5), (RX5, 18, yX1_init, RX5), (RX0, 17, yX4_init, RX5), (RX5, 41, yX3_init, RX5), (RX3, 11, yX4_init, RX5), (RX4, 44, yX5_contains, RX5), (RX4, 51, yX5_isSubset, RX5), (RX1, 64, yX5_contains, RX5), (RX3, 77, yX5_isAtom, RX5), (RX3, 69, yX5_contains, RX5)]
def zz (U : State) : Prop := ∀ q ∈ zt, va_Nw (.methodLinkNest q.1 q.2.1 q.2.2.1 q.2.2.2) U
theorem zz_warm {s U : State} (hW : s.WarmedH U.vm) (h : zz s) : zz U := fun q hq => va_Nw.warmM hW (h q hq)
theorem zz_same {u U : State} (e : u.vm = U.vm) (h : zz u) : zz U := fun q hq => va_Nw.same rfl e (h q hq)
def gk (D : va_G) (cI cB : ClassId) (U : State) : Prop := va_K D vwCl [(cI, .int), (cB, .object RX4)] U ∧ zz U
theorem gk_warm {D : va_G} {cI cB : ClassId} {s U : State} (hW : s.WarmedH U.vm) (h : gk D cI cB s) : gk D cI cB U := ⟨va_K.moved hW.alike h.1, zz_warm hW h.2⟩
theorem gk_call {D : va_G} {cI cB : ClassId} {U : State} {g : JFrame} {mk : MethodId} {a : Array Value} (h : gk D cI cB U) : gk D cI cB (U.calling g mk a) := ⟨va_K.moved (u := U) (U := U.calling g mk a) (Vm.Alike.refl U.vm) h.1, zz_same rfl h.2⟩
/-- the start of a method that only reads: its arguments, the cells that it reads -/
def pP (D : va_G) (cI cB : ClassId) (av : List Value) (ws : va_W) : Array Value → State → Prop := va_Pc av (fun U => va_P D vwCl ws U.heap ∧ gk D cI cB U)
theorem pP_blind {D : va_G} {cI cB : ClassId} {av : List Value} {ws : va_W} : FrameBlind (pP D cI cB av ws) := fun _ _ _ _ h => ⟨h.1, h.2.1, gk_call h.2.2⟩
abbrev Rd (l : Launch) (y : MethodName) (wsy : List Cond) (rm : Room) (D : va_G) (cI cB : ClassId) (av : List Value) (ws : va_W) (r : Value) : Prop := Met l y wsy rm (pP D cI cB av ws) (k2_QcV r) 0 0 (fun _ => False)
/-- a truth value as the machine has it -/
def bI (b : Bool) : Int32 := if b then nI 1 else nI 0
theorem bI_f {b : Bool} : bI b = 0 ↔ b = false := by cases b <;> decide
theorem bI_t {b : Bool} : ¬ bI b = 0 ↔ b = true := by cases b <;> decide
theorem bI_nar (b : Bool) : narrow .boolean (.int (bI b)) = .int (bI b) := by cases b <;> decide +kernel
theorem nI_s1 (r : Nat) : nI r + Int32.ofInt 1 = nI (r + 1) := nI_1 r
section PU
variable {p : Program} {l : Launch} {e : Env} {R : Room} {s : State} {m : MethodId} {args : Array Value} {below : List Frame} {meth : Method} {c : Code} {H : Heap} {locs : List Loc} {cells slots : Nat} {Q : State → Prop}
variable {D : va_G} {cI cB : ClassId} {y : MethodName} {bytes cc : ByteArray} {maxL nL n index pc : Nat} {ret : Option FieldType} {wsy wt Ts : List Cond} {rm : Room} {own C host : String} {b : Nat} {av As rest st0 : List Value} {r : Value} {ws wc : va_W} {ls : Array Slot}
theorem pu_startI {ri : Int32} (hy : plainName y.cls = true) (hw : wsy = Cond.code y cc maxL (some .int) :: wt) (ha : (lg_sl av).length ≤ maxL)
    (body : ∀ (p : Program) (e : Env) (s : State) (m : MethodId) (args : Array Value) (below : List Frame) (meth : Method) (c : Code) (Q : State → Prop), p.tables.exec = Jvm.exec → c.code = cc → c.maxLocals = maxL → s.vm.findClass y.cls = some m.cls → (∀ w ∈ wsy, w.before args s = true) → va_P D vwCl ws s.heap → gk D cI cB s →
      (∀ (v : Int32) (pc : Nat) (ls : Array Slot), v = ri → decode cc pc = .ok (.ireturn, 1) → W p l e rm s m args below meth c s.heap [] 0 0 Q (F0 m pc ls [.int v])) →
      ∀ ls : Array Slot, lv_has ls maxL (lv_args 0 av) → W p l e rm s m args below meth c s.heap [] 0 0 Q (F0 m 0 ls [])) : Rd l y wsy rm D cI cB av ws (.int ri) := by
  refine Met.ofW (cc := cc) (maxL := maxL) (ret := some .int) hy hw ?_
  intro p e s m args below meth c s₁ B hml hv
  obtain ⟨rfl, hP, hG⟩ := hv
  have hl := lv_entry av (n := maxL) ha
  have hlocks := B.notSynchronized
  rw [lg_entry_eq]
  refine body p e s m _ below meth c _ B.exec B.bytes hml (findClass_of_methodNamed B.named) (atoms_spec (ws := wsy) B.pre) hP hG (fun v pc ls hv hd => ?_) _ hl
  subst hv
  exact W.iret B.exec B.bytes B.returns (fun t ht _ => ⟨rfl, ht⟩) (fun q h => by cases h) hd
theorem pu_startZ {rb : Bool} (hy : plainName y.cls = true) (hw : wsy = Cond.code y cc maxL (some .boolean) :: wt) (ha : (lg_sl av).length ≤ maxL)
    (body : ∀ (p : Program) (e : Env) (s : State) (m : MethodId) (args : Array Value) (below : List Frame) (meth : Method) (c : Code) (Q : State → Prop), p.tables.exec = Jvm.exec → c.code = cc → c.maxLocals = maxL → s.vm.findClass y.cls = some m.cls → (∀ w ∈ wsy, w.before args s = true) → va_P D vwCl ws s.heap → gk D cI cB s →
      (∀ (v : Int32) (pc : Nat) (ls : Array Slot), v = bI rb → decode cc pc = .ok (.ireturn, 1) → W p l e rm s m args below meth c s.heap [] 0 0 Q (F0 m pc ls [.int v])) →
      ∀ ls : Array Slot, lv_has ls maxL (lv_args 0 av) → W p l e rm s m args below meth c s.heap [] 0 0 Q (F0 m 0 ls [])) : Rd l y wsy rm D cI cB av ws (.int (bI rb)) := by
  refine Met.ofW (cc := cc) (maxL := maxL) (ret := some .boolean) hy hw ?_
  intro p e s m args below meth c s₁ B hml hv
  obtain ⟨rfl, hP, hG⟩ := hv
  have hl := lv_entry av (n := maxL) ha
  have hlocks := B.notSynchronized
  rw [lg_entry_eq]
  refine body p e s m _ below meth c _ B.exec B.bytes hml (findClass_of_methodNamed B.named) (atoms_spec (ws := wsy) B.pre) hP hG (fun v pc ls hv hd => ?_) _ hl
  subst hv
  exact W.zret B.exec B.bytes B.returns (bI_nar rb) (fun t ht _ => ⟨rfl, ht⟩) (fun q h => by cases h) hd
theorem pu_startJ {rj : Int64} (hy : plainName y.cls = true) (hw : wsy = Cond.code y cc maxL (some .long) :: wt) (ha : (lg_sl av).length ≤ maxL)
    (body : ∀ (p : Program) (e : Env) (s : State) (m : MethodId) (args : Array Value) (below : List Frame) (meth : Method) (c : Code) (Q : State → Prop), p.tables.exec = Jvm.exec → c.code = cc → c.maxLocals = maxL → s.vm.findClass y.cls = some m.cls → (∀ w ∈ wsy, w.before args s = true) → va_P D vwCl ws s.heap → gk D cI cB s →
      (∀ (v : Int64) (pc : Nat) (ls : Array Slot), v = rj → decode cc pc = .ok (.lreturn, 1) → W p l e rm s m args below meth c s.heap [] 0 0 Q (F0 m pc ls [.long v])) →
      ∀ ls : Array Slot, lv_has ls maxL (lv_args 0 av) → W p l e rm s m args below meth c s.heap [] 0 0 Q (F0 m 0 ls [])) : Rd l y wsy rm D cI cB av ws (.long rj) := by
  refine Met.ofW (cc := cc) (maxL := maxL) (ret := some .long) hy hw ?_
  intro p e s m args below meth c s₁ B hml hv
  obtain ⟨rfl, hP, hG⟩ := hv
  have hl := lv_entry av (n := maxL) ha
  have hlocks := B.notSynchronized
  rw [lg_entry_eq]
  refine body p e s m _ below meth c _ B.exec B.bytes hml (findClass_of_methodNamed B.named) (atoms_spec (ws := wsy) B.pre) hP hG (fun v pc ls hv hd => ?_) _ hl
  subst hv
  exact W.lret B.exec B.bytes B.returns (fun t ht _ => ⟨rfl, ht⟩) (fun q h => by cases h) hd
theorem pu_call {a : Array Value} (hr : va_Run p l e R s m args below meth c H locs cells slots 0 0 (F0 m pc ls st0) rest (k2_QcV r a) (fun _ => False)) (kk : W p l e R s m args below meth c H locs cells slots Q (F0 m (pc + 3) ls (r :: rest))) : W p l e R s m args below meth c H locs cells slots Q (F0 m pc ls st0) := by
  intro T hT X
  obtain ⟨v, st₀, t, T', L, h0, X', hL, e1, e2, ⟨hv, hh⟩, st⟩ := hr T hT X
  cases hv
  obtain ⟨t2, a1, b1⟩ := kk T' (by rw [e1, hh, h0]) (Stand.forget X' (fun q h => (hL q h).elim))
  exact ⟨t2, st t2 a1, b1⟩
theorem pu_V (S : CallFix p m c cc nL s args Ts own) (hG : gk D cI cB s) (hP : va_P D vwCl ws H) (hM : Rd l y wsy rm D cI cB (.ref b :: As) wc r) (cw : CallW R s args own C index y bytes maxL ret wsy rm 0 0 n) (is : List Nat) (hsub : is.filterMap (fun i => ws[i]?) = wc)
    (q0 : Nat) {ci : Nat} {fs : List Value} {q : vw_C} (hq : ws[q0]? = some (b, .inr (ci, fs))) (hc : vwCl[ci]? = some q) (hC : q.1 = C) (hn : As.length = n) (hls : ls.size = nL) (hst : st0 = As.reverse ++ .ref b :: rest) (hrest : (rest.map fun v => v.category).sum ≤ 8) (hdg : decode cc pc = .ok (.invokevirtual index, 3)) (hf : cells ≤ R.cells ∧ slots ≤ R.slots)
    (kk : W p l e R s m args below meth c H locs cells slots Q (F0 m (pc + 3) ls (r :: rest))) : W p l e R s m args below meth c H locs cells slots Q (F0 m pc ls st0) := by
  subst hC
  exact pu_call (va_runV (As := As) (rest := rest) S hM cw ⟨pP_blind, va_recv hG.1 hP hc hq, fun U hU hW => ⟨rfl, by rw [hU]; exact hP.sub is hsub, gk_warm hW hG⟩⟩ rfl hn hls hst (lv_room hrest) hdg hf) kk
theorem pu_S (S : CallFix p m c cc nL s args Ts own) (hG : gk D cI cB s) (hP : va_P D vwCl ws H) (hM : Rd l y wsy rm D cI cB As wc r) (cw : CallB R s args own index y bytes maxL ret wsy rm 0 0 n ∧ (Cond.static y).before args s = true) (is : List Nat) (hsub : is.filterMap (fun i => ws[i]?) = wc)
    (hn : As.length = n) (hls : ls.size = nL) (hst : st0 = As.reverse ++ rest) (hrest : (rest.map fun v => v.category).sum ≤ 8) (hdg : decode cc pc = .ok (.invokestatic index, 3)) (hf : cells ≤ R.cells ∧ slots ≤ R.slots)
    (kk : W p l e R s m args below meth c H locs cells slots Q (F0 m (pc + 3) ls (r :: rest))) : W p l e R s m args below meth c H locs cells slots Q (F0 m pc ls st0) :=
  pu_call (va_runS (As := As) (rest := rest) S hM cw ⟨pP_blind, fun U hU hW => ⟨rfl, by rw [hU]; exact hP.sub is hsub, gk_warm hW hG⟩⟩ rfl hn hls hst (lv_room hrest) hdg hf) kk
theorem pu_SN (S : CallFix p m c cc nL s args Ts own) (hG : gk D cI cB s) (hP : va_P D vwCl ws H) (hM : Rd l y wsy rm D cI cB As wc r) (cw : va_CN R s args own index y host bytes maxL ret wsy rm 0 0 n) (hs : (Cond.static y).before args s = true) (is : List Nat) (hsub : is.filterMap (fun i => ws[i]?) = wc)
    (hn : As.length = n) (hls : ls.size = nL) (hst : st0 = As.reverse ++ rest) (hrest : (rest.map fun v => v.category).sum ≤ 8) (hdg : decode cc pc = .ok (.invokestatic index, 3)) (hf : cells ≤ R.cells ∧ slots ≤ R.slots)
    (kk : W p l e R s m args below meth c H locs cells slots Q (F0 m (pc + 3) ls (r :: rest))) : W p l e R s m args below meth c H locs cells slots Q (F0 m pc ls st0) :=
  pu_call (va_runSN (As := As) (rest := rest) S hM ⟨cw, hs, trivial⟩ ⟨pP_blind, fun U hU hW => ⟨rfl, by rw [hU]; exact hP.sub is hsub, gk_warm hW hG⟩⟩ rfl hn hls hst (lv_room hrest) hdg hf) kk
theorem ia_ld {a : Nat} (hx : p.tables.exec = Jvm.exec) (hb : c.code = cc) (hG : gk D cI cB s) (hP : va_P D vwCl ws H) (q0 : Nat) {N : Nat} {f : Nat → Int32} (ha : ws[q0]? = some (a, .inl (cI, N, .inl f))) {i : Int32} (j : Nat) (hj : i = nI j) (hlt : j < N) (hN : N < 2 ^ 31) (hdg : decode cc pc = .ok (.iaload, 1))
    (kk : W p l e R s m args below meth c H locs cells slots Q (F0 m (pc + 1) ls (.int (f j) :: rest))) : W p l e R s m args below meth c H locs cells slots Q (F0 m pc ls (.int i :: .ref a :: rest)) := by
  subst hj
  refine va_iald hx hb hG.1 hP q0 0 ha rfl (vp_in_nI hlt hN) hdg ?_
  rw [nI_clamp (Nat.lt_trans hlt hN)]
  exact kk
theorem ia_st {a : Nat} {A : Nat → Prop} {H0 : Heap} (hx : p.tables.exec = Jvm.exec) (hb : c.code = cc) (hG : gk D cI cB s) (hP : va_P D vwCl ws H) (hD : va_D A ws) (hS : va_S A H0 H locs) (q0 : Nat) {N : Nat} {f : Nat → Int32} (ha : ws[q0]? = some (a, .inl (cI, N, .inl f))) {i x : Int32} (j : Nat) (hj : i = nI j) (hlt : j < N) (hN : N < 2 ^ 31) (hdg : decode cc pc = .ok (.iastore, 1))
    (kk : ∀ (H1 : Heap) (locs1 : List Loc), va_P D vwCl (ws.set q0 (a, .inl (cI, N, .inl (upd f j x)))) H1 → va_D A (ws.set q0 (a, .inl (cI, N, .inl (upd f j x)))) → va_S A H0 H1 locs1 → W p l e R s m args below meth c H1 locs1 cells slots Q (F0 m (pc + 1) ls rest)) : W p l e R s m args below meth c H locs cells slots Q (F0 m pc ls (.int x :: .int i :: .ref a :: rest)) := by
  subst hj
  refine va_iast hx hb hG.1 hP hD hS q0 0 ha rfl (vp_in_nI hlt hN) hdg ?_
  rw [nI_clamp (Nat.lt_trans hlt hN)]
  exact kk
theorem lv_eqi {x y : Int32} (h : x = y) (k : W p l e R s m args below meth c H locs cells slots Q (F0 m pc ls (.int y :: rest))) : W p l e R s m args below meth c H locs cells slots Q (F0 m pc ls (.int x :: rest)) := h ▸ k
theorem lv_eql {x y : Int64} (h : x = y) (k : W p l e R s m args below meth c H locs cells slots Q (F0 m pc ls (.long y :: rest))) : W p l e R s m args below meth c H locs cells slots Q (F0 m pc ls (.long x :: rest)) := h ▸ k
end PU
end
section
/-- the start of a method that writes: its arguments, its cells, which lie apart -/
def eP (D : va_G) (cI cB : ClassId) (av : List Value) (ws : va_W) (sz : Nat) : Array Value → State → Prop := va_Pc av (fun U => U.heap.size = sz ∧ va_P D vwCl ws U.heap ∧ gk D cI cB U ∧ va_D (fun _ => True) ws)
theorem eP_blind {D : va_G} {cI cB : ClassId} {av : List Value} {ws : va_W} {sz : Nat} : FrameBlind (eP D cI cB av ws sz) := fun _ _ _ _ h => ⟨h.1, h.2.1, h.2.2.1, gk_call h.2.2.2.1, h.2.2.2.2⟩
/-- its end: an answer and what its cells hold then; what isn't its own stays -/
def eQ (D : va_G) {S : Type} (post : Option Value → S → Prop) (mk : S → va_W) (A : Nat → Prop) : Array Value → State → Outcome → State → Prop := fun _ st oc t => (∃ (v : Option Value) (u : S), oc = .returned v ∧ post v u ∧ va_P D vwCl (mk u) t.heap ∧ va_D A (mk u)) ∧ va_F A st t
abbrev Wr (l : Launch) (y : MethodName) (wsy : List Cond) (rm : Room) (D : va_G) (cI cB : ClassId) (av : List Value) (ws : va_W) (sz : Nat) {S : Type} (post : Option Value → S → Prop) (mk : S → va_W) (mc ms : Nat) : Prop := Met l y wsy rm (eP D cI cB av ws sz) (eQ D post mk (va_A ws sz)) mc ms (va_A ws sz)
section EF
variable {p : Program} {l : Launch} {e : Env} {R : Room} {s : State} {m : MethodId} {args : Array Value} {below : List Frame} {meth : Method} {c : Code} {H H0 : Heap} {locs : List Loc} {cells slots : Nat} {Q : State → Prop}
variable {D : va_G} {cI cB : ClassId} {y : MethodName} {bytes cc : ByteArray} {maxL nL n index pc mc ms sz : Nat} {ret : Option FieldType} {wsy wt Ts : List Cond} {rm : Room} {own C host : String} {b : Nat} {av As rest st0 : List Value} {ws wc wr : va_W} {ls : Array Slot} {A : Nat → Prop}
variable {S : Type} {post : Option Value → S → Prop} {mk : S → va_W}
theorem ef_startI (hy : plainName y.cls = true) (hw : wsy = Cond.code y cc maxL (some .int) :: wt) (ha : (lg_sl av).length ≤ maxL)
    (body : ∀ (p : Program) (e : Env) (s : State) (m : MethodId) (args : Array Value) (below : List Frame) (meth : Method) (c : Code) (Q : State → Prop) (A : Nat → Prop), p.tables.exec = Jvm.exec → c.code = cc → c.maxLocals = maxL → s.vm.findClass y.cls = some m.cls → (∀ w ∈ wsy, w.before args s = true) → va_P D vwCl ws s.heap → gk D cI cB s → va_D A ws → (∀ q : Nat, s.heap.size ≤ q → A q) →
      (∀ (v : Int32) (u : S) (H : Heap) (locs : List Loc) (pc : Nat) (ls : Array Slot), post (some (.int v)) u → va_P D vwCl (mk u) H → va_D A (mk u) → va_S A s.heap H locs → decode cc pc = .ok (.ireturn, 1) → W p l e rm s m args below meth c H locs mc ms Q (F0 m pc ls [.int v])) →
      ∀ ls : Array Slot, lv_has ls maxL (lv_args 0 av) → W p l e rm s m args below meth c s.heap [] 0 0 Q (F0 m 0 ls [])) : Wr l y wsy rm D cI cB av ws sz post mk mc ms := by
  refine Met.ofW (cc := cc) (maxL := maxL) (ret := some .int) hy hw ?_
  intro p e s m args below meth c s₁ B hml hv
  obtain ⟨rfl, hsz, hP, hG, hD0⟩ := hv
  subst hsz
  have hl := lv_entry av (n := maxL) ha
  have hlocks := B.notSynchronized
  rw [lg_entry_eq]
  refine body p e s m _ below meth c _ (va_A ws s.heap.size) B.exec B.bytes hml (findClass_of_methodNamed B.named) (atoms_spec (ws := wsy) B.pre) hP hG hD0.self (fun q h => Or.inr h) (fun v u H locs pc ls hv h1 h2 h3 hd => ?_) _ hl
  exact W.iret B.exec B.bytes B.returns (fun t ht _ => ⟨⟨_, u, rfl, hv, by rw [ht]; exact h1, h2⟩, h3.F ht⟩) h3.2.2 hd
theorem ef_startZ (hy : plainName y.cls = true) (hw : wsy = Cond.code y cc maxL (some .boolean) :: wt) (ha : (lg_sl av).length ≤ maxL)
    (body : ∀ (p : Program) (e : Env) (s : State) (m : MethodId) (args : Array Value) (below : List Frame) (meth : Method) (c : Code) (Q : State → Prop) (A : Nat → Prop), p.tables.exec = Jvm.exec → c.code = cc → c.maxLocals = maxL → s.vm.findClass y.cls = some m.cls → (∀ w ∈ wsy, w.before args s = true) → va_P D vwCl ws s.heap → gk D cI cB s → va_D A ws → (∀ q : Nat, s.heap.size ≤ q → A q) →
      (∀ (b : Bool) (u : S) (H : Heap) (locs : List Loc) (pc : Nat) (ls : Array Slot), post (some (.int (bI b))) u → va_P D vwCl (mk u) H → va_D A (mk u) → va_S A s.heap H locs → decode cc pc = .ok (.ireturn, 1) → W p l e rm s m args below meth c H locs mc ms Q (F0 m pc ls [.int (bI b)])) →
      ∀ ls : Array Slot, lv_has ls maxL (lv_args 0 av) → W p l e rm s m args below meth c s.heap [] 0 0 Q (F0 m 0 ls [])) : Wr l y wsy rm D cI cB av ws sz post mk mc ms := by
  refine Met.ofW (cc := cc) (maxL := maxL) (ret := some .boolean) hy hw ?_
  intro p e s m args below meth c s₁ B hml hv
  obtain ⟨rfl, hsz, hP, hG, hD0⟩ := hv
  subst hsz
  have hl := lv_entry av (n := maxL) ha
  have hlocks := B.notSynchronized
  rw [lg_entry_eq]
  refine body p e s m _ below meth c _ (va_A ws s.heap.size) B.exec B.bytes hml (findClass_of_methodNamed B.named) (atoms_spec (ws := wsy) B.pre) hP hG hD0.self (fun q h => Or.inr h) (fun v u H locs pc ls hv h1 h2 h3 hd => ?_) _ hl
  exact W.zret B.exec B.bytes B.returns (bI_nar v) (fun t ht _ => ⟨⟨_, u, rfl, hv, by rw [ht]; exact h1, h2⟩, h3.F ht⟩) h3.2.2 hd
theorem ef_startJ (hy : plainName y.cls = true) (hw : wsy = Cond.code y cc maxL (some .long) :: wt) (ha : (lg_sl av).length ≤ maxL)
    (body : ∀ (p : Program) (e : Env) (s : State) (m : MethodId) (args : Array Value) (below : List Frame) (meth : Method) (c : Code) (Q : State → Prop) (A : Nat → Prop), p.tables.exec = Jvm.exec → c.code = cc → c.maxLocals = maxL → s.vm.findClass y.cls = some m.cls → (∀ w ∈ wsy, w.before args s = true) → va_P D vwCl ws s.heap → gk D cI cB s → va_D A ws → (∀ q : Nat, s.heap.size ≤ q → A q) →
      (∀ (v : Int64) (u : S) (H : Heap) (locs : List Loc) (pc : Nat) (ls : Array Slot), post (some (.long v)) u → va_P D vwCl (mk u) H → va_D A (mk u) → va_S A s.heap H locs → decode cc pc = .ok (.lreturn, 1) → W p l e rm s m args below meth c H locs mc ms Q (F0 m pc ls [.long v])) →
      ∀ ls : Array Slot, lv_has ls maxL (lv_args 0 av) → W p l e rm s m args below meth c s.heap [] 0 0 Q (F0 m 0 ls [])) : Wr l y wsy rm D cI cB av ws sz post mk mc ms := by
  refine Met.ofW (cc := cc) (maxL := maxL) (ret := some .long) hy hw ?_
  intro p e s m args below meth c s₁ B hml hv
  obtain ⟨rfl, hsz, hP, hG, hD0⟩ := hv
  subst hsz
  have hl := lv_entry av (n := maxL) ha
  have hlocks := B.notSynchronized
  rw [lg_entry_eq]
  refine body p e s m _ below meth c _ (va_A ws s.heap.size) B.exec B.bytes hml (findClass_of_methodNamed B.named) (atoms_spec (ws := wsy) B.pre) hP hG hD0.self (fun q h => Or.inr h) (fun v u H locs pc ls hv h1 h2 h3 hd => ?_) _ hl
  exact W.lret B.exec B.bytes B.returns (fun t ht _ => ⟨⟨_, u, rfl, hv, by rw [ht]; exact h1, h2⟩, h3.F ht⟩) h3.2.2 hd
theorem ef_startV (hy : plainName y.cls = true) (hw : wsy = Cond.code y cc maxL none :: wt) (ha : (lg_sl av).length ≤ maxL)
    (body : ∀ (p : Program) (e : Env) (s : State) (m : MethodId) (args : Array Value) (below : List Frame) (meth : Method) (c : Code) (Q : State → Prop) (A : Nat → Prop), p.tables.exec = Jvm.exec → c.code = cc → c.maxLocals = maxL → s.vm.findClass y.cls = some m.cls → (∀ w ∈ wsy, w.before args s = true) → va_P D vwCl ws s.heap → gk D cI cB s → va_D A ws → (∀ q : Nat, s.heap.size ≤ q → A q) → meth.name = y.name →
      (∀ (u : S) (H : Heap) (locs : List Loc) (pc : Nat) (ls : Array Slot), post none u → va_P D vwCl (mk u) H → va_D A (mk u) → va_S A s.heap H locs → decode cc pc = .ok (.return_, 1) → W p l e rm s m args below meth c H locs mc ms Q (F0 m pc ls [])) →
      ∀ ls : Array Slot, lv_has ls maxL (lv_args 0 av) → W p l e rm s m args below meth c s.heap [] 0 0 Q (F0 m 0 ls [])) : Wr l y wsy rm D cI cB av ws sz post mk mc ms := by
  refine Met.ofW (cc := cc) (maxL := maxL) (ret := none) hy hw ?_
  intro p e s m args below meth c s₁ B hml hv
  obtain ⟨rfl, hsz, hP, hG, hD0⟩ := hv
  subst hsz
  have hl := lv_entry av (n := maxL) ha
  have hlocks := B.notSynchronized
  rw [lg_entry_eq]
  refine body p e s m _ below meth c _ (va_A ws s.heap.size) B.exec B.bytes hml (findClass_of_methodNamed B.named) (atoms_spec (ws := wsy) B.pre) hP hG hD0.self (fun q h => Or.inr h) (name_of_methodNamed B.named B.method).1 (fun u H locs pc ls hv h1 h2 h3 hd => ?_) _ hl
  exact W.vret B.exec B.bytes B.returns (fun t ht _ => ⟨⟨_, u, rfl, hv, by rw [ht]; exact h1, h2⟩, h3.F ht⟩) h3.2.2 hd
theorem ef_call {A1 : Nat → Prop} {free : Addr → Prop} {a : Array Value} (hr : va_Run p l e R s m args below meth c H locs cells slots mc ms (F0 m pc ls st0) rest (eQ D post mk A1 a) free) (hS : va_S A H0 H locs) (hA : ∀ q, A1 q → A q) (hf : ∀ q, free q → A q)
    (kk : ∀ (v : Option Value) (u : S) (H1 : Heap) (locs1 : List Loc), post v u → va_P D vwCl (mk u) H1 → va_D A1 (mk u) → (∀ q : Nat, q < H.size → ¬ A1 q → H1[q]? = H[q]?) → va_S A H0 H1 locs1 → W p l e R s m args below meth c H1 locs1 (cells + mc) (slots + ms) Q (F0 m (pc + 3) ls (v.toList ++ rest))) : W p l e R s m args below meth c H locs cells slots Q (F0 m pc ls st0) := by
  intro T hT X
  obtain ⟨v, st₀, t, T', L, h0, X', hL, e1, e2, ⟨⟨v', u, hv, hp, hP, hD⟩, hz, hk⟩, st⟩ := hr T hT X
  cases hv
  rw [h0] at hz hk
  obtain ⟨t2, a1, b1⟩ := kk v u T'.heap (locs ++ L) hp (by rw [e1]; exact hP) hD (fun q h1 h2 => by rw [e1]; exact hk q h1 h2)
    ⟨Nat.le_trans hS.1 (by rw [e1]; exact hz), fun q h1 h2 => by rw [e1, hk q (Nat.lt_of_lt_of_le h1 hS.1) (fun z => h2 (hA q z))]; exact hS.2.1 q h1 h2, fun q hq => by
      rcases List.mem_append.mp hq with h | h
      · exact hS.2.2 q h
      · exact hf _ (hL q h)⟩ T' rfl X'
  exact ⟨t2, st t2 a1, b1⟩
theorem ef_V (F : CallFix p m c cc nL s args Ts own) (hG : gk D cI cB s) (hP : va_P D vwCl ws H) (hD : va_D A ws) (hS : va_S A H0 H locs) (hA : ∀ q : Nat, H0.size ≤ q → A q) (hM : Wr l y wsy rm D cI cB (.ref b :: As) wc H.size post mk mc ms) (cw : CallW R s args own C index y bytes maxL ret wsy rm mc ms n)
    (isC isR : List Nat) (hC : isC.map (fun i => ws[i]?) = wc.map some) (hR : isR.map (fun i => ws[i]?) = wr.map some) (hnC : va_nd isC = true) (hnR : va_nd isR = true) (hdis : ∀ i ∈ isR, i ∉ isC)
    (q0 : Nat) {ci : Nat} {fs : List Value} {q : vw_C} (hq : ws[q0]? = some (b, .inr (ci, fs))) (hc : vwCl[ci]? = some q) (hCn : q.1 = C) (hn : As.length = n) (hls : ls.size = nL) (hst : st0 = As.reverse ++ .ref b :: rest) (hrest : (rest.map fun v => v.category).sum ≤ 8) (hdg : decode cc pc = .ok (.invokevirtual index, 3)) (hf : cells + mc ≤ R.cells ∧ slots + ms ≤ R.slots)
    (kk : ∀ (v : Option Value) (u : S) (H1 : Heap) (locs1 : List Loc), post v u → va_P D vwCl (wr ++ mk u) H1 → va_D A (wr ++ mk u) → va_S A H0 H1 locs1 → W p l e R s m args below meth c H1 locs1 (cells + mc) (slots + ms) Q (F0 m (pc + 3) ls (v.toList ++ rest))) : W p l e R s m args below meth c H locs cells slots Q (F0 m pc ls st0) := by
  subst hCn
  have hFc := va_free (wc := wc) hD hS hA isC hC
  have hDc := hD.sub isC hnC hC
  have hPc : va_P D vwCl wc H := by
    intro k x hk
    have h1 : (isC.map (fun i => ws[i]?))[k]? = some (some x) := by rw [hC, List.getElem?_map, hk]; rfl
    rw [List.getElem?_map] at h1
    cases hi : isC[k]? with
    | none => rw [hi] at h1; cases h1
    | some i => rw [hi] at h1; exact hP i x (Option.some.inj h1)
  refine ef_call (va_runV (As := As) (rest := rest) F hM cw ⟨eP_blind, va_recv hG.1 hP hc hq, fun U hU hW => ⟨rfl, by rw [hU], by rw [hU]; exact hPc, gk_warm hW hG, hDc.weaken (fun _ _ _ _ => trivial)⟩⟩ rfl hn hls hst (lv_room hrest) hdg hf) hS hFc hFc (fun v u H1 locs1 hp h1 h2 hk h3 => ?_)
  obtain ⟨g1, g2⟩ := va_join (wr := wr) (w1 := mk u) hP hD isC isR hC hR hnR hdis hk hFc h1 h2
  exact kk v u H1 locs1 hp g1 g2 h3
theorem qa_ld {a : Nat} (hx : p.tables.exec = Jvm.exec) (hb : c.code = cc) (hG : gk D cI cB s) (hP : va_P D vwCl ws H) (q0 : Nat) {N : Nat} {f : Nat → Option Nat} (ha : ws[q0]? = some (a, .inl (cB, N, .inr (.inr (.inr (.inr f)))))) {i : Int32} (j : Nat) (hj : i = nI j) (hlt : j < N) (hN : N < 2 ^ 31) {z : Nat} (hz : f j = some z) (hdg : decode cc pc = .ok (.aaload, 1))
    (kk : W p l e R s m args below meth c H locs cells slots Q (F0 m (pc + 1) ls (.ref z :: rest))) : W p l e R s m args below meth c H locs cells slots Q (F0 m pc ls (.int i :: .ref a :: rest)) := by
  subst hj
  refine va_aldq hx hb hG.1 hP q0 1 ha rfl (vp_in_nI hlt hN) hdg ?_
  rw [nI_clamp (Nat.lt_trans hlt hN), hz]
  exact kk
theorem qa_st {a : Nat} (hx : p.tables.exec = Jvm.exec) (hb : c.code = cc) (hG : gk D cI cB s) (hP : va_P D vwCl ws H) (hD : va_D A ws) (hS : va_S A H0 H locs) (q0 : Nat) {N v : Nat} {f : Nat → Option Nat} {vs : List Value} (ha : ws[q0]? = some (a, .inl (cB, N, .inr (.inr (.inr (.inr f)))))) (q1 : Nat) (hv : ws[q1]? = some (v, .inr (4, vs))) {i : Int32} (j : Nat) (hj : i = nI j) (hlt : j < N) (hN : N < 2 ^ 31) (hdg : decode cc pc = .ok (.aastore, 1))
    (kk : ∀ (H1 : Heap) (locs1 : List Loc), va_P D vwCl (ws.set q0 (a, .inl (cB, N, .inr (.inr (.inr (.inr (va_up f j (some v)))))))) H1 → va_D A (ws.set q0 (a, .inl (cB, N, .inr (.inr (.inr (.inr (va_up f j (some v)))))))) → va_S A H0 H1 locs1 → W p l e R s m args below meth c H1 locs1 cells slots Q (F0 m (pc + 1) ls rest)) : W p l e R s m args below meth c H locs cells slots Q (F0 m pc ls (.ref v :: .int i :: .ref a :: rest)) := by
  subst hj
  refine va_astq hx hb hG.1 hP hD hS q0 1 q1 4 (r := (RX4, TX4, 4)) ha rfl hv rfl (vp_in_nI hlt hN) hdg ?_
  rw [nI_clamp (Nat.lt_trans hlt hN)]
  exact kk
end EF
end
section
/-! What the methods answer, as functions. hs, bs: the heads' and bodies' rows; n: how many rules. -/
theorem bI_1 {b : Bool} (h : b = true) : nI 1 = bI b := by rw [h]; rfl
theorem bI_0 {b : Bool} (h : b = false) : nI 0 = bI b := by rw [h]; rfl
def has (x e : Int32) : Bool := decide (¬ (x &&& (nI 1 <<< (e &&& 31))) = 0)
def sbs (a b : Int32) : Bool := decide ((a &&& (b ^^^ (-1))) = 0)
def isA (a : Int32) : Bool := decide (¬ a < 0 ∧ ¬ nI 16 ≤ a)
def hasR (r : Int32) (n : Nat) : Bool := decide (¬ r < 0 ∧ ¬ nI n ≤ r)
theorem hasR_nat {r : Int32} {n : Nat} (hn : n < 2 ^ 31) (h : hasR r n = true) : ∃ j, j < n ∧ r = nI j := by
  have h := of_decide_eq_true h
  obtain ⟨j, hj, rfl⟩ := nI_of h.1
  exact ⟨j, Nat.not_le.mp fun q => h.2 ((nI_leI hn hj).mpr q), rfl⟩
theorem hasR_of {r n : Nat} (h : r < n) (hn : n < 2 ^ 31) : hasR (nI r) n = true := decide_eq_true ⟨nI_pos (Nat.lt_trans h hn), fun q => absurd ((nI_leI hn (Nat.lt_trans h hn)).mp q) (Nat.not_le.mpr h)⟩
def sh1 (e : Int32) : Int32 := nI 1 <<< (e &&& 31)
def pw (f : Int32 → Int32) : Nat → Int32 → Int32
  | 0, x => x
  | k + 1, x => f (pw f k x)
theorem pw_fix {f : Int32 → Int32} {x : Int32} {k : Nat} (h : f (pw f k x) = pw f k x) : ∀ d, pw f (k + d) x = pw f k x
  | 0 => rfl
  | d + 1 => by
    show f (pw f (k + d) x) = _
    rw [pw_fix h d, h]
/-- all rules -/
def evr (n : Nat) : Int32 := (nI 1 <<< (nI n &&& 31)) - nI 1
/-- one round of the rules in R over what is known, up to rule r -/
def rnd (hs bs : Nat → Int32) (R K : Int32) : Nat → Int32
  | 0 => K
  | r + 1 => if has R (nI r) = true ∧ sbs (bs r) K = true then rnd hs bs R K r ||| (nI 1 <<< (hs r &&& 31)) else rnd hs bs R K r
/-- the model of the rules in R with the facts F -/
def clo (hs bs : Nat → Int32) (n : Nat) (R F : Int32) : Int32 := pw (fun K => rnd hs bs R K n) 16 F
theorem nI_m1 (i : Nat) : nI i + Int32.ofInt (-1) = nI i - nI 1 := by
  rw [Int32.sub_eq_add_neg]; rfl
theorem nI_dn {j : Nat} (h : nI j - nI 1 < 0) (hj : j < 2 ^ 31) : j = 0 := by
  cases j with
  | zero => rfl
  | succ i =>
    have e : nI (i + 1) - nI 1 = nI i := nI_pred i
    rw [e] at h
    exact absurd h (nI_pos (by omega))
theorem nI_up {j : Nat} (h : ¬ nI j - nI 1 < 0) : ∃ i, j = i + 1 := by
  cases j with
  | zero => exact absurd (by decide) h
  | succ i => exact ⟨i, rfl⟩
def supF (hs bs : Nat → Int32) (M : Int32) (a : Nat) : Nat → Int32
  | 0 => nI 0
  | r + 1 => if hs r = nI a ∧ sbs (bs r) M = true then supF hs bs M a r ||| (nI 1 <<< (nI r &&& 31)) else supF hs bs M a r
def less (X : Int32) (r : Nat) : Int32 := X &&& ((nI 1 <<< (nI r &&& 31)) ^^^ (-1))
/-- the reason: i rules are still to be looked at -/
def reaF (hs bs : Nat → Int32) (n a : Nat) : Nat → Int32
  | 0 => evr n
  | t + 1 => if has (clo hs bs n (less (reaF hs bs n a t) (n - 1 - t)) (nI 0)) (nI a) = true then less (reaF hs bs n a t) (n - 1 - t) else reaF hs bs n a t
def necF (hs bs : Nat → Int32) (n a : Nat) : Nat → Int32
  | 0 => nI 0
  | r + 1 => if has (clo hs bs n (less (evr n) r) (nI 0)) (nI a) = true then necF hs bs n a r else necF hs bs n a r ||| (nI 1 <<< (nI r &&& 31))
def bunF (hs bs : Nat → Int32) (X : Int32) : Nat → Int32
  | 0 => nI 0
  | r + 1 => if has X (hs r) = true then bunF hs bs X r ||| bs r else bunF hs bs X r
def depS (hs bs : Nat → Int32) (n a : Nat) : Int32 := pw (fun x => x ||| bunF hs bs x n) 16 (bunF hs bs (nI 1 <<< (nI a &&& 31)) n)
def cycF (hs bs : Nat → Int32) (n : Nat) : Nat → Int32
  | 0 => nI 0
  | a + 1 => cycF hs bs n a ||| (depS hs bs n a &&& (nI 1 <<< (nI a &&& 31)))
def ovdF (hs bs : Nat → Int32) (M : Int32) (d : Nat) (x : Int32) : Nat → Int32
  | 0 => x
  | r + 1 => if ¬ r = d ∧ sbs (bs r) M = true ∧ ¬ (bs r &&& ovdF hs bs M d x r) = 0 then ovdF hs bs M d x r ||| (nI 1 <<< (hs r &&& 31)) else ovdF hs bs M d x r
def mdl (hs bs : Nat → Int32) (n : Nat) : Int32 := clo hs bs n (evr n) (nI 0)
def ovd (hs bs : Nat → Int32) (n d : Nat) : Int32 := if sbs (bs d) (mdl hs bs n) = true then pw (fun x => ovdF hs bs (mdl hs bs n) d x n) 16 (nI 1 <<< (hs d &&& 31)) else nI 0
def lst (hs bs : Nat → Int32) (n r : Nat) : Int32 := mdl hs bs n &&& (clo hs bs n (less (evr n) r) (nI 0) ^^^ (-1))
def gnd (hs bs : Nat → Int32) (n : Nat) (h b : Int32) : Int32 := if sbs b (mdl hs bs n) = true then clo hs bs n (evr n) (nI 1 <<< (h &&& 31)) &&& (mdl hs bs n ^^^ (-1)) else nI 0
/-- Integer.bitCount -/
def ush (x : Int32) (k : Nat) : Int32 := (x.toUInt32 >>> ((nI k).toUInt32 &&& Int32.toUInt32 31)).toInt32
def bc (x : Int32) : Int32 :=
  let a := x - (ush x 1 &&& nI 1431655765)
  let b := (a &&& nI 858993459) + (ush a 2 &&& nI 858993459)
  let c := (b + ush b 4) &&& nI 252645135
  let d := c + ush c 8
  (d + ush d 16) &&& nI 63
/-- the search of an explanation: best, its size, the set that comes next -/
def exB (hs bs : Nat → Int32) (n : Nat) (as_ : Int32) (a : Nat) : Nat → Int32 × Int32 × Int32
  | 0 => (-1, nI 9, nI 0)
  | k + 1 =>
    let t := exB hs bs n as_ a k
    if ¬ t.2.1 ≤ bc t.2.2 ∧ has (clo hs bs n (evr n) t.2.2) (nI a) = true then (t.2.2, bc t.2.2, (t.2.2 - as_) &&& as_) else (t.1, t.2.1, (t.2.2 - as_) &&& as_)
end
section
theorem ilX4_size_4 : ∀ w ∈ u_ws RX4 TX4 4, w ∈ wsX4_size := by decide +kernel
theorem ilX4_isFull_4 : ∀ w ∈ u_ws RX4 TX4 4, w ∈ wsX4_isFull := by decide +kernel
theorem ilX4_hasRule_4 : ∀ w ∈ u_ws RX4 TX4 4, w ∈ wsX4_hasRule := by decide +kernel
theorem ilX4_headOf_4 : ∀ w ∈ u_ws RX4 TX4 4, w ∈ wsX4_headOf := by decide +kernel
theorem ilX4_bodyOf_4 : ∀ w ∈ u_ws RX4 TX4 4, w ∈ wsX4_bodyOf := by decide +kernel
theorem ilX4_everyRule_4 : ∀ w ∈ u_ws RX4 TX4 4, w ∈ wsX4_everyRule := by decide +kernel
theorem ilX4_afterOneRound_4 : ∀ w ∈ u_ws RX4 TX4 4, w ∈ wsX4_afterOneRound := by decide +kernel
theorem ilX4_assumableAtoms_4 : ∀ w ∈ u_ws RX4 TX4 4, w ∈ wsX4_assumableAtoms := by decide +kernel
theorem ilX4_supportsOf_4 : ∀ w ∈ u_ws RX4 TX4 4, w ∈ wsX4_supportsOf := by decide +kernel
theorem ilX4_reasonFor_4 : ∀ w ∈ u_ws RX4 TX4 4, w ∈ wsX4_reasonFor := by decide +kernel
theorem ilX4_necessaryFor_4 : ∀ w ∈ u_ws RX4 TX4 4, w ∈ wsX4_necessaryFor := by decide +kernel
theorem ilX4_bodiesUnder_4 : ∀ w ∈ u_ws RX4 TX4 4, w ∈ wsX4_bodiesUnder := by decide +kernel
theorem ilX4_overDeletedBy_4 : ∀ w ∈ u_ws RX4 TX4 4, w ∈ wsX4_overDeletedBy := by decide +kernel
set_option maxHeartbeats 4000000 in
set_option maxRecDepth 100000 in
theorem k_X5_contains (l : Launch) (D : va_G) (cI cB : ClassId) (x : Int32) (e_ : Int32) : Rd l yX5_contains wsX5_contains ({ frames := 0, cells := 0, slots := 0, locals := 0 }) D cI cB [.int x, .int e_] [] (.int (bI (has x e_))) := by
  refine pu_startZ (cc := cX5_contains) (maxL := 2) (by decide) rfl (Nat.le_of_ble_eq_true rfl) ?_
  intro p e s m args below meth c Q hx hb hml hown hts hP hG hret ls hl
  have hown : s.vm.findClass RX5 = some m.cls := hown
  have hl : lv_has ls 2 [(0, .int x), (1, .int e_)] := hl
  refine lv_iload_n hx hb dX5_contains_0 rfl (lv_at hl 0 rfl) ?_
  refine lv_iconst (v := nI 1) hx hb dX5_contains_1 (by decide) ?_
  refine lv_iload_n hx hb dX5_contains_2 rfl (lv_at hl 1 rfl) ?_
  refine lv_ishl hx hb dX5_contains_3 ?_
  refine lv_iand hx hb dX5_contains_4 ?_
  refine lv_if_eq (tgt := 12) hx hb dX5_contains_5 (by decide) (fun c_1 => ?_) (fun c_1 => ?_)
  · skip
    refine lv_iconst (v := nI 0) hx hb dX5_contains_12 (by decide) ?_
    exact hret _ _ _ (bI_0 (decide_eq_false (by simp only [decide_true, decide_false, reduceIte, Bool.false_eq_true, not_true_eq_false, not_false_eq_true, and_self, and_true, true_and, and_false, false_and, c_1]))) dX5_contains_13
  · skip
    refine lv_iconst (v := nI 1) hx hb dX5_contains_8 (by decide) ?_
    refine lv_goto (tgt := 13) hx hb dX5_contains_9 (by decide) ?_
    exact hret _ _ _ (bI_1 (decide_eq_true (by simp only [decide_true, decide_false, reduceIte, Bool.false_eq_true, not_true_eq_false, not_false_eq_true, and_self, and_true, true_and, and_false, false_and, c_1]))) dX5_contains_13
set_option maxHeartbeats 4000000 in
set_option maxRecDepth 100000 in
theorem k_X5_isSubset (l : Launch) (D : va_G) (cI cB : ClassId) (x : Int32) (y : Int32) : Rd l yX5_isSubset wsX5_isSubset ({ frames := 0, cells := 0, slots := 0, locals := 0 }) D cI cB [.int x, .int y] [] (.int (bI (sbs x y))) := by
  refine pu_startZ (cc := cX5_isSubset) (maxL := 2) (by decide) rfl (Nat.le_of_ble_eq_true rfl) ?_
  intro p e s m args below meth c Q hx hb hml hown hts hP hG hret ls hl
  have hown : s.vm.findClass RX5 = some m.cls := hown
  have hl : lv_has ls 2 [(0, .int x), (1, .int y)] := hl
  refine lv_iload_n hx hb dX5_isSubset_0 rfl (lv_at hl 0 rfl) ?_
  refine lv_iload_n hx hb dX5_isSubset_1 rfl (lv_at hl 1 rfl) ?_
  refine lv_iconst (v := (-1)) hx hb dX5_isSubset_2 (by decide) ?_
  refine lv_ixor hx hb dX5_isSubset_3 ?_
  refine lv_iand hx hb dX5_isSubset_4 ?_
  refine lv_if_ne (tgt := 12) hx hb dX5_isSubset_5 (by decide) (fun c_1 => ?_) (fun c_1 => ?_)
  · skip
    refine lv_iconst (v := nI 0) hx hb dX5_isSubset_12 (by decide) ?_
    exact hret _ _ _ (bI_0 (decide_eq_false (by simp only [decide_true, decide_false, reduceIte, Bool.false_eq_true, not_true_eq_false, not_false_eq_true, and_self, and_true, true_and, and_false, false_and, c_1]))) dX5_isSubset_13
  · skip
    refine lv_iconst (v := nI 1) hx hb dX5_isSubset_8 (by decide) ?_
    refine lv_goto (tgt := 13) hx hb dX5_isSubset_9 (by decide) ?_
    exact hret _ _ _ (bI_1 (decide_eq_true (by simp only [decide_true, decide_false, reduceIte, Bool.false_eq_true, not_true_eq_false, not_false_eq_true, and_self, and_true, true_and, and_false, false_and, c_1]))) dX5_isSubset_13
set_option maxHeartbeats 4000000 in
set_option maxRecDepth 100000 in
theorem k_X5_isAtom (l : Launch) (D : va_G) (cI cB : ClassId) (a : Int32) : Rd l yX5_isAtom wsX5_isAtom ({ frames := 0, cells := 0, slots := 0, locals := 0 }) D cI cB [.int a] [] (.int (bI (isA a))) := by
  refine pu_startZ (cc := cX5_isAtom) (maxL := 1) (by decide) rfl (Nat.le_of_ble_eq_true rfl) ?_
  intro p e s m args below meth c Q hx hb hml hown hts hP hG hret ls hl
  have hown : s.vm.findClass RX5 = some m.cls := hown
  have hl : lv_has ls 1 [(0, .int a)] := hl
  refine lv_iload_n hx hb dX5_isAtom_0 rfl (lv_at hl 0 rfl) ?_
  refine lv_if_lt (tgt := 14) hx hb dX5_isAtom_1 (by decide) (fun c_1 => ?_) (fun c_1 => ?_)
  · skip
    refine lv_iconst (v := nI 0) hx hb dX5_isAtom_14 (by decide) ?_
    exact hret _ _ _ (bI_0 (decide_eq_false (by simp only [decide_true, decide_false, reduceIte, Bool.false_eq_true, not_true_eq_false, not_false_eq_true, and_self, and_true, true_and, and_false, false_and, c_1]))) dX5_isAtom_15
  · skip
    refine lv_iload_n hx hb dX5_isAtom_4 rfl (lv_at hl 0 rfl) ?_
    refine lv_bipush (v := nI 16) hx hb dX5_isAtom_5 (by decide) ?_
    refine lv_icmp_ge (tgt := 14) hx hb dX5_isAtom_7 (by decide) (fun c_2 => ?_) (fun c_2 => ?_)
    · skip
      refine lv_iconst (v := nI 0) hx hb dX5_isAtom_14 (by decide) ?_
      exact hret _ _ _ (bI_0 (decide_eq_false (by simp only [decide_true, decide_false, reduceIte, Bool.false_eq_true, not_true_eq_false, not_false_eq_true, and_self, and_true, true_and, and_false, false_and, c_1, c_2]))) dX5_isAtom_15
    · skip
      refine lv_iconst (v := nI 1) hx hb dX5_isAtom_10 (by decide) ?_
      refine lv_goto (tgt := 15) hx hb dX5_isAtom_11 (by decide) ?_
      exact hret _ _ _ (bI_1 (decide_eq_true (by simp only [decide_true, decide_false, reduceIte, Bool.false_eq_true, not_true_eq_false, not_false_eq_true, and_self, and_true, true_and, and_false, false_and, c_1, c_2]))) dX5_isAtom_15
set_option maxHeartbeats 4000000 in
set_option maxRecDepth 100000 in
theorem k_X4_size (l : Launch) (D : va_G) (cI cB : ClassId) (b : Nat) (qh : Nat) (qb : Nat) (hs : Nat → Int32) (bs : Nat → Int32) (n : Nat) (as_ : Int32) (hn : n ≤ 24) : Rd l yX4_size wsX4_size ({ frames := 0, cells := 0, slots := 0, locals := 0 }) D cI cB [.ref b] [(b, .inr (4, [.ref qh, .ref qb, .int (nI n), .int as_])), (qh, .inl (cI, 24, .inl hs)), (qb, .inl (cI, 24, .inl bs))] (.int (nI n)) := by
  refine pu_startI (cc := cX4_size) (maxL := 1) (by decide) rfl (Nat.le_of_ble_eq_true rfl) ?_
  intro p e s m args below meth c Q hx hb hml hown hts hP hG hret ls hl
  have hown : s.vm.findClass RX4 = some m.cls := hown
  have hl : lv_has ls 1 [(0, .ref b)] := hl
  refine lv_aload_n hx hb dX4_size_0 rfl (lv_at hl 0 rfl) ?_
  refine va_get (D := D) (ci := 4) (v := .int (nI n)) (C := RX4) (T := TX4) (N := 4) hx hb hts ilX4_size_4 hown hG.1 hP 0 rfl rfl 2 (by decide) (hts (.fieldLink RX4 18 "HornEngine$Rulebook" "count" "I") (List.mem_of_getElem? (i := 1) rfl)) (fun _ h9 => h9) rfl dX4_size_1 ?_
  exact hret _ _ _ rfl dX4_size_4
set_option maxHeartbeats 4000000 in
set_option maxRecDepth 100000 in
theorem k_X4_isFull (l : Launch) (D : va_G) (cI cB : ClassId) (b : Nat) (qh : Nat) (qb : Nat) (hs : Nat → Int32) (bs : Nat → Int32) (n : Nat) (as_ : Int32) (hn : n ≤ 24) : Rd l yX4_isFull wsX4_isFull ({ frames := 0, cells := 0, slots := 0, locals := 0 }) D cI cB [.ref b] [(b, .inr (4, [.ref qh, .ref qb, .int (nI n), .int as_])), (qh, .inl (cI, 24, .inl hs)), (qb, .inl (cI, 24, .inl bs))] (.int (bI (decide (24 ≤ n)))) := by
  refine pu_startZ (cc := cX4_isFull) (maxL := 1) (by decide) rfl (Nat.le_of_ble_eq_true rfl) ?_
  intro p e s m args below meth c Q hx hb hml hown hts hP hG hret ls hl
  have hown : s.vm.findClass RX4 = some m.cls := hown
  have hl : lv_has ls 1 [(0, .ref b)] := hl
  refine lv_aload_n hx hb dX4_isFull_0 rfl (lv_at hl 0 rfl) ?_
  refine va_get (D := D) (ci := 4) (v := .int (nI n)) (C := RX4) (T := TX4) (N := 4) hx hb hts ilX4_isFull_4 hown hG.1 hP 0 rfl rfl 2 (by decide) (hts (.fieldLink RX4 18 "HornEngine$Rulebook" "count" "I") (List.mem_of_getElem? (i := 1) rfl)) (fun _ h9 => h9) rfl dX4_isFull_1 ?_
  refine lv_bipush (v := nI 24) hx hb dX4_isFull_4 (by decide) ?_
  refine lv_icmp_lt (tgt := 13) hx hb dX4_isFull_6 (by decide) (fun c_1 => ?_) (fun c_1 => ?_)
  · skip
    have c_1 : n < 24 := (nI_ltI (by omega) (by omega)).mp (show nI n < nI 24 from c_1)
    refine lv_iconst (v := nI 0) hx hb dX4_isFull_13 (by decide) ?_
    exact hret _ _ _ (bI_0 (decide_eq_false (by omega))) dX4_isFull_14
  · skip
    have c_1 : ¬ (n < 24) := fun h9 => (show ¬ (nI n < nI 24) from c_1) ((nI_ltI (by omega) (by omega)).mpr h9)
    refine lv_iconst (v := nI 1) hx hb dX4_isFull_9 (by decide) ?_
    refine lv_goto (tgt := 14) hx hb dX4_isFull_10 (by decide) ?_
    exact hret _ _ _ (bI_1 (decide_eq_true (by omega))) dX4_isFull_14
set_option maxHeartbeats 4000000 in
set_option maxRecDepth 100000 in
theorem k_X4_hasRule (l : Launch) (D : va_G) (cI cB : ClassId) (b : Nat) (qh : Nat) (qb : Nat) (hs : Nat → Int32) (bs : Nat → Int32) (n : Nat) (as_ : Int32) (r : Int32) (hn : n ≤ 24) : Rd l yX4_hasRule wsX4_hasRule ({ frames := 0, cells := 0, slots := 0, locals := 0 }) D cI cB [.ref b, .int r] [(b, .inr (4, [.ref qh, .ref qb, .int (nI n), .int as_])), (qh, .inl (cI, 24, .inl hs)), (qb, .inl (cI, 24, .inl bs))] (.int (bI (hasR r n))) := by
  refine pu_startZ (cc := cX4_hasRule) (maxL := 2) (by decide) rfl (Nat.le_of_ble_eq_true rfl) ?_
  intro p e s m args below meth c Q hx hb hml hown hts hP hG hret ls hl
  have hown : s.vm.findClass RX4 = some m.cls := hown
  have hl : lv_has ls 2 [(0, .ref b), (1, .int r)] := hl
  refine lv_iload_n hx hb dX4_hasRule_0 rfl (lv_at hl 1 rfl) ?_
  refine lv_if_lt (tgt := 16) hx hb dX4_hasRule_1 (by decide) (fun c_1 => ?_) (fun c_1 => ?_)
  · skip
    refine lv_iconst (v := nI 0) hx hb dX4_hasRule_16 (by decide) ?_
    exact hret _ _ _ (bI_0 (decide_eq_false (by simp only [decide_true, decide_false, reduceIte, Bool.false_eq_true, not_true_eq_false, not_false_eq_true, and_self, and_true, true_and, and_false, false_and, c_1]))) dX4_hasRule_17
  · skip
    refine lv_iload_n hx hb dX4_hasRule_4 rfl (lv_at hl 1 rfl) ?_
    refine lv_aload_n hx hb dX4_hasRule_5 rfl (lv_at hl 0 rfl) ?_
    refine va_get (D := D) (ci := 4) (v := .int (nI n)) (C := RX4) (T := TX4) (N := 4) hx hb hts ilX4_hasRule_4 hown hG.1 hP 0 rfl rfl 2 (by decide) (hts (.fieldLink RX4 18 "HornEngine$Rulebook" "count" "I") (List.mem_of_getElem? (i := 1) rfl)) (fun _ h9 => h9) rfl dX4_hasRule_6 ?_
    refine lv_icmp_ge (tgt := 16) hx hb dX4_hasRule_9 (by decide) (fun c_2 => ?_) (fun c_2 => ?_)
    · skip
      refine lv_iconst (v := nI 0) hx hb dX4_hasRule_16 (by decide) ?_
      exact hret _ _ _ (bI_0 (decide_eq_false (by simp only [decide_true, decide_false, reduceIte, Bool.false_eq_true, not_true_eq_false, not_false_eq_true, and_self, and_true, true_and, and_false, false_and, c_1, c_2]))) dX4_hasRule_17
    · skip
      refine lv_iconst (v := nI 1) hx hb dX4_hasRule_12 (by decide) ?_
      refine lv_goto (tgt := 17) hx hb dX4_hasRule_13 (by decide) ?_
      exact hret _ _ _ (bI_1 (decide_eq_true (by simp only [decide_true, decide_false, reduceIte, Bool.false_eq_true, not_true_eq_false, not_false_eq_true, and_self, and_true, true_and, and_false, false_and, c_1, c_2]))) dX4_hasRule_17
set_option maxHeartbeats 4000000 in
set_option maxRecDepth 100000 in
theorem k_X4_headOf (l : Launch) (D : va_G) (cI cB : ClassId) (b : Nat) (qh : Nat) (qb : Nat) (hs : Nat → Int32) (bs : Nat → Int32) (n : Nat) (as_ : Int32) (r : Nat) (hn : n ≤ 24) (hr : r < n) : Rd l yX4_headOf wsX4_headOf ({ frames := 1, cells := 0, slots := 0, locals := 21 }) D cI cB [.ref b, .int (nI r)] [(b, .inr (4, [.ref qh, .ref qb, .int (nI n), .int as_])), (qh, .inl (cI, 24, .inl hs)), (qb, .inl (cI, 24, .inl bs))] (.int (hs r)) := by
  refine pu_startI (cc := cX4_headOf) (maxL := 2) (by decide) rfl (Nat.le_of_ble_eq_true rfl) ?_
  intro p e s m args below meth c Q hx hb hml hown hts hP hG hret ls hl
  have hown : s.vm.findClass RX4 = some m.cls := hown
  have hl : lv_has ls 2 [(0, .ref b), (1, .int (nI r))] := hl
  refine lv_aload_n hx hb dX4_headOf_0 rfl (lv_at hl 0 rfl) ?_
  refine lv_iload_n hx hb dX4_headOf_1 rfl (lv_at hl 1 rfl) ?_
  refine pu_V (As := [.int (nI r)]) (rest := []) ⟨hx, hb, hml, hown, hts⟩ hG hP (k_X4_hasRule l D cI cB b qh qb hs bs n as_ (nI r) (by omega)) (cwV 1 hts gX4_headOf_X4_hasRule rfl rfl rfl (by decide +kernel) ⟨(Nat.le_of_ble_eq_true rfl), (Nat.le_of_ble_eq_true rfl)⟩) [0, 1, 2] rfl 0 rfl rfl rfl rfl hl.1 rfl (Nat.le_of_ble_eq_true rfl) dX4_headOf_2 ⟨Nat.zero_le _, Nat.zero_le _⟩ ?_
  refine lv_if_eq (tgt := 17) hx hb dX4_headOf_5 (by decide) (fun c_1 => ?_) (fun c_1 => ?_)
  · skip
    have c_1 : (hasR (nI r) n) = false := bI_f.mp c_1
    exact absurd (hasR_of hr (by omega)) (by rw [c_1]; decide)
  · skip
    have c_1 : (hasR (nI r) n) = true := bI_t.mp c_1
    refine lv_aload_n hx hb dX4_headOf_8 rfl (lv_at hl 0 rfl) ?_
    refine va_get (D := D) (ci := 4) (v := .ref qh) (C := RX4) (T := TX4) (N := 4) hx hb hts ilX4_headOf_4 hown hG.1 hP 0 rfl rfl 0 (by decide) (hts (.fieldLink RX4 9 "HornEngine$Rulebook" "heads" "[I") (List.mem_of_getElem? (i := 1) rfl)) (fun _ h9 => h9) rfl dX4_headOf_9 ?_
    refine lv_iload_n hx hb dX4_headOf_12 rfl (lv_at hl 1 rfl) ?_
    refine ia_ld hx hb hG hP 1 rfl r rfl (by omega) (by decide) dX4_headOf_13 ?_
    refine lv_goto (tgt := 18) hx hb dX4_headOf_14 (by decide) ?_
    exact hret _ _ _ rfl dX4_headOf_18
set_option maxHeartbeats 4000000 in
set_option maxRecDepth 100000 in
theorem k_X4_bodyOf (l : Launch) (D : va_G) (cI cB : ClassId) (b : Nat) (qh : Nat) (qb : Nat) (hs : Nat → Int32) (bs : Nat → Int32) (n : Nat) (as_ : Int32) (r : Nat) (hn : n ≤ 24) (hr : r < n) : Rd l yX4_bodyOf wsX4_bodyOf ({ frames := 1, cells := 0, slots := 0, locals := 21 }) D cI cB [.ref b, .int (nI r)] [(b, .inr (4, [.ref qh, .ref qb, .int (nI n), .int as_])), (qh, .inl (cI, 24, .inl hs)), (qb, .inl (cI, 24, .inl bs))] (.int (bs r)) := by
  refine pu_startI (cc := cX4_bodyOf) (maxL := 2) (by decide) rfl (Nat.le_of_ble_eq_true rfl) ?_
  intro p e s m args below meth c Q hx hb hml hown hts hP hG hret ls hl
  have hown : s.vm.findClass RX4 = some m.cls := hown
  have hl : lv_has ls 2 [(0, .ref b), (1, .int (nI r))] := hl
  refine lv_aload_n hx hb dX4_bodyOf_0 rfl (lv_at hl 0 rfl) ?_
  refine lv_iload_n hx hb dX4_bodyOf_1 rfl (lv_at hl 1 rfl) ?_
  refine pu_V (As := [.int (nI r)]) (rest := []) ⟨hx, hb, hml, hown, hts⟩ hG hP (k_X4_hasRule l D cI cB b qh qb hs bs n as_ (nI r) (by omega)) (cwV 1 hts gX4_bodyOf_X4_hasRule rfl rfl rfl (by decide +kernel) ⟨(Nat.le_of_ble_eq_true rfl), (Nat.le_of_ble_eq_true rfl)⟩) [0, 1, 2] rfl 0 rfl rfl rfl rfl hl.1 rfl (Nat.le_of_ble_eq_true rfl) dX4_bodyOf_2 ⟨Nat.zero_le _, Nat.zero_le _⟩ ?_
  refine lv_if_eq (tgt := 17) hx hb dX4_bodyOf_5 (by decide) (fun c_1 => ?_) (fun c_1 => ?_)
  · skip
    have c_1 : (hasR (nI r) n) = false := bI_f.mp c_1
    exact absurd (hasR_of hr (by omega)) (by rw [c_1]; decide)
  · skip
    have c_1 : (hasR (nI r) n) = true := bI_t.mp c_1
    refine lv_aload_n hx hb dX4_bodyOf_8 rfl (lv_at hl 0 rfl) ?_
    refine va_get (D := D) (ci := 4) (v := .ref qb) (C := RX4) (T := TX4) (N := 4) hx hb hts ilX4_bodyOf_4 hown hG.1 hP 0 rfl rfl 1 (by decide) (hts (.fieldLink RX4 15 "HornEngine$Rulebook" "bodies" "[I") (List.mem_of_getElem? (i := 1) rfl)) (fun _ h9 => h9) rfl dX4_bodyOf_9 ?_
    refine lv_iload_n hx hb dX4_bodyOf_12 rfl (lv_at hl 1 rfl) ?_
    refine ia_ld hx hb hG hP 2 rfl r rfl (by omega) (by decide) dX4_bodyOf_13 ?_
    refine lv_goto (tgt := 18) hx hb dX4_bodyOf_14 (by decide) ?_
    exact hret _ _ _ rfl dX4_bodyOf_18
set_option maxHeartbeats 4000000 in
set_option maxRecDepth 100000 in
theorem k_X4_everyRule (l : Launch) (D : va_G) (cI cB : ClassId) (b : Nat) (qh : Nat) (qb : Nat) (hs : Nat → Int32) (bs : Nat → Int32) (n : Nat) (as_ : Int32) (hn : n ≤ 24) : Rd l yX4_everyRule wsX4_everyRule ({ frames := 0, cells := 0, slots := 0, locals := 0 }) D cI cB [.ref b] [(b, .inr (4, [.ref qh, .ref qb, .int (nI n), .int as_])), (qh, .inl (cI, 24, .inl hs)), (qb, .inl (cI, 24, .inl bs))] (.int (evr n)) := by
  refine pu_startI (cc := cX4_everyRule) (maxL := 1) (by decide) rfl (Nat.le_of_ble_eq_true rfl) ?_
  intro p e s m args below meth c Q hx hb hml hown hts hP hG hret ls hl
  have hown : s.vm.findClass RX4 = some m.cls := hown
  have hl : lv_has ls 1 [(0, .ref b)] := hl
  refine lv_iconst (v := nI 1) hx hb dX4_everyRule_0 (by decide) ?_
  refine lv_aload_n hx hb dX4_everyRule_1 rfl (lv_at hl 0 rfl) ?_
  refine va_get (D := D) (ci := 4) (v := .int (nI n)) (C := RX4) (T := TX4) (N := 4) hx hb hts ilX4_everyRule_4 hown hG.1 hP 0 rfl rfl 2 (by decide) (hts (.fieldLink RX4 18 "HornEngine$Rulebook" "count" "I") (List.mem_of_getElem? (i := 1) rfl)) (fun _ h9 => h9) rfl dX4_everyRule_2 ?_
  refine lv_ishl hx hb dX4_everyRule_5 ?_
  refine lv_iconst (v := nI 1) hx hb dX4_everyRule_6 (by decide) ?_
  refine lv_isub hx hb dX4_everyRule_7 ?_
  exact hret _ _ _ rfl dX4_everyRule_8
set_option maxHeartbeats 4000000 in
set_option maxRecDepth 100000 in
theorem k_X4_afterOneRound (l : Launch) (D : va_G) (cI cB : ClassId) (b : Nat) (qh : Nat) (qb : Nat) (hs : Nat → Int32) (bs : Nat → Int32) (n : Nat) (as_ : Int32) (R : Int32) (K : Int32) (hn : n ≤ 24) : Rd l yX4_afterOneRound wsX4_afterOneRound ({ frames := 1, cells := 0, slots := 0, locals := 21 }) D cI cB [.ref b, .int R, .int K] [(b, .inr (4, [.ref qh, .ref qb, .int (nI n), .int as_])), (qh, .inl (cI, 24, .inl hs)), (qb, .inl (cI, 24, .inl bs))] (.int (rnd hs bs R K n)) := by
  refine pu_startI (cc := cX4_afterOneRound) (maxL := 5) (by decide) rfl (Nat.le_of_ble_eq_true rfl) ?_
  intro p e s m args below meth c Q hx hb hml hown hts hP hG hret ls hl
  have hown : s.vm.findClass RX4 = some m.cls := hown
  have hl : lv_has ls 5 [(0, .ref b), (1, .int R), (2, .int K)] := hl
  refine lv_iload_n hx hb dX4_afterOneRound_0 rfl (lv_at hl 2 rfl) ?_
  refine lv_istore_n (lv' := [(3, .int K), (0, .ref b), (1, .int R), (2, .int K)]) hx hb dX4_afterOneRound_1 rfl hl (by decide) rfl (fun ls hl => ?_)
  refine lv_iconst (v := nI 0) hx hb dX4_afterOneRound_2 (by decide) ?_
  refine lv_istore (lv' := [(4, .int (nI 0)), (3, .int K), (0, .ref b), (1, .int R), (2, .int K)]) hx hb dX4_afterOneRound_3 hl (by decide) rfl (fun ls hl => ?_)
  have lp_5_1 : ∀ (fu_5 : Nat) (r : Nat) (x3 : Int32) (hr : r ≤ n) (e3 : x3 = rnd hs bs R K r) (hfu_5 : n - r < fu_5) (ls : Array Slot) (hl : lv_has ls 5 [(0, .ref b), (1, .int R), (2, .int K), (3, .int x3), (4, .int (nI r))]), W p l e ({ frames := 1, cells := 0, slots := 0, locals := 21 }) s m args below meth c s.heap [] 0 0 Q (F0 m 5 ls []) := by
    intro fu_5
    induction fu_5 with
    | zero => intro r x3 hr e3 hfu; exact absurd hfu (Nat.not_lt_zero _)
    | succ fu_5 ih_5 =>
      intro r x3 hr e3 hfu_5 ls hl
      refine lv_iload hx hb dX4_afterOneRound_5 (lv_at hl 4 rfl) ?_
      refine lv_aload_n hx hb dX4_afterOneRound_7 rfl (lv_at hl 0 rfl) ?_
      refine va_get (D := D) (ci := 4) (v := .int (nI n)) (C := RX4) (T := TX4) (N := 4) hx hb hts ilX4_afterOneRound_4 hown hG.1 hP 0 rfl rfl 2 (by decide) (hts (.fieldLink RX4 18 "HornEngine$Rulebook" "count" "I") (List.mem_of_getElem? (i := 1) rfl)) (fun _ h9 => h9) rfl dX4_afterOneRound_8 ?_
      refine lv_icmp_ge (tgt := 55) hx hb dX4_afterOneRound_11 (by decide) (fun c_2 => ?_) (fun c_2 => ?_)
      · skip
        have c_2 : n ≤ r := (nI_leI (by omega) (by omega)).mp (show nI n ≤ nI r from c_2)
        refine lv_iload_n hx hb dX4_afterOneRound_55 rfl (lv_at hl 3 rfl) ?_
        exact hret _ _ _ (by rw [e3, show r = n from by omega]) dX4_afterOneRound_56
      · skip
        have c_2 : ¬ (n ≤ r) := fun h9 => (show ¬ (nI n ≤ nI r) from c_2) ((nI_leI (by omega) (by omega)).mpr h9)
        refine lv_iload_n hx hb dX4_afterOneRound_14 rfl (lv_at hl 1 rfl) ?_
        refine lv_iload hx hb dX4_afterOneRound_15 (lv_at hl 4 rfl) ?_
        refine pu_SN (As := [.int R, .int (nI r)]) (rest := []) ⟨hx, hb, hml, hown, hts⟩ hG hP (k_X5_contains l D cI cB R (nI r) ) (va_cnB 2 hts gX4_afterOneRound_X5_contains_n44 rfl rfl rfl (hG.2 _ (List.mem_of_getElem? (i := 5) rfl)) (hts (.initialized RX5) (List.mem_of_getElem? (i := 5) rfl)) (by decide +kernel) ⟨(Nat.le_of_ble_eq_true rfl), (Nat.le_of_ble_eq_true rfl)⟩) (hts (.static yX5_contains) (List.mem_of_getElem? (i := 4) rfl)) [] rfl rfl hl.1 rfl (Nat.le_of_ble_eq_true rfl) dX4_afterOneRound_17 ⟨Nat.zero_le _, Nat.zero_le _⟩ ?_
        refine lv_if_eq (tgt := 49) hx hb dX4_afterOneRound_20 (by decide) (fun c_3 => ?_) (fun c_3 => ?_)
        · skip
          have c_3 : (has R (nI r)) = false := bI_f.mp c_3
          refine lv_iinc (v := nI (r + 1)) (lv' := [(4, .int (nI (r + 1))), (0, .ref b), (1, .int R), (2, .int K), (3, .int x3)]) hx hb dX4_afterOneRound_49 hl (k := 4) rfl (nI_s1 r) (by decide) rfl (fun ls hl => ?_)
          refine lv_goto (tgt := 5) hx hb dX4_afterOneRound_52 (by decide) ?_
          exact ih_5 (r + 1) x3 (by omega) (by subst e3; simp [rnd, c_2, c_3]) (by omega) ls (lv_sub hl [1, 2, 3, 4, 0] rfl)
        · skip
          have c_3 : (has R (nI r)) = true := bI_t.mp c_3
          refine lv_aload_n hx hb dX4_afterOneRound_23 rfl (lv_at hl 0 rfl) ?_
          refine va_get (D := D) (ci := 4) (v := .ref qb) (C := RX4) (T := TX4) (N := 4) hx hb hts ilX4_afterOneRound_4 hown hG.1 hP 0 rfl rfl 1 (by decide) (hts (.fieldLink RX4 15 "HornEngine$Rulebook" "bodies" "[I") (List.mem_of_getElem? (i := 2) rfl)) (fun _ h9 => h9) rfl dX4_afterOneRound_24 ?_
          refine lv_iload hx hb dX4_afterOneRound_27 (lv_at hl 4 rfl) ?_
          refine ia_ld hx hb hG hP 2 rfl r rfl (by omega) (by decide) dX4_afterOneRound_29 ?_
          refine lv_iload_n hx hb dX4_afterOneRound_30 rfl (lv_at hl 2 rfl) ?_
          refine pu_SN (As := [.int (bs r), .int K]) (rest := []) ⟨hx, hb, hml, hown, hts⟩ hG hP (k_X5_isSubset l D cI cB (bs r) K ) (va_cnB 2 hts gX4_afterOneRound_X5_isSubset_n51 rfl rfl rfl (hG.2 _ (List.mem_of_getElem? (i := 6) rfl)) (hts (.initialized RX5) (List.mem_of_getElem? (i := 5) rfl)) (by decide +kernel) ⟨(Nat.le_of_ble_eq_true rfl), (Nat.le_of_ble_eq_true rfl)⟩) (hts (.static yX5_isSubset) (List.mem_of_getElem? (i := 7) rfl)) [] rfl rfl hl.1 rfl (Nat.le_of_ble_eq_true rfl) dX4_afterOneRound_31 ⟨Nat.zero_le _, Nat.zero_le _⟩ ?_
          refine lv_if_eq (tgt := 49) hx hb dX4_afterOneRound_34 (by decide) (fun c_4 => ?_) (fun c_4 => ?_)
          · skip
            have c_4 : (sbs (bs r) K) = false := bI_f.mp c_4
            refine lv_iinc (v := nI (r + 1)) (lv' := [(4, .int (nI (r + 1))), (0, .ref b), (1, .int R), (2, .int K), (3, .int x3)]) hx hb dX4_afterOneRound_49 hl (k := 4) rfl (nI_s1 r) (by decide) rfl (fun ls hl => ?_)
            refine lv_goto (tgt := 5) hx hb dX4_afterOneRound_52 (by decide) ?_
            exact ih_5 (r + 1) x3 (by omega) (by subst e3; simp [rnd, c_2, c_3, c_4]) (by omega) ls (lv_sub hl [1, 2, 3, 4, 0] rfl)
          · skip
            have c_4 : (sbs (bs r) K) = true := bI_t.mp c_4
            refine lv_iload_n hx hb dX4_afterOneRound_37 rfl (lv_at hl 3 rfl) ?_
            refine lv_iconst (v := nI 1) hx hb dX4_afterOneRound_38 (by decide) ?_
            refine lv_aload_n hx hb dX4_afterOneRound_39 rfl (lv_at hl 0 rfl) ?_
            refine va_get (D := D) (ci := 4) (v := .ref qh) (C := RX4) (T := TX4) (N := 4) hx hb hts ilX4_afterOneRound_4 hown hG.1 hP 0 rfl rfl 0 (by decide) (hts (.fieldLink RX4 9 "HornEngine$Rulebook" "heads" "[I") (List.mem_of_getElem? (i := 3) rfl)) (fun _ h9 => h9) rfl dX4_afterOneRound_40 ?_
            refine lv_iload hx hb dX4_afterOneRound_43 (lv_at hl 4 rfl) ?_
            refine ia_ld hx hb hG hP 1 rfl r rfl (by omega) (by decide) dX4_afterOneRound_45 ?_
            refine lv_ishl hx hb dX4_afterOneRound_46 ?_
            refine lv_ior hx hb dX4_afterOneRound_47 ?_
            refine lv_istore_n (lv' := [(3, .int (x3 ||| ((nI 1) <<< ((hs r) &&& 31)))), (0, .ref b), (1, .int R), (2, .int K), (4, .int (nI r))]) hx hb dX4_afterOneRound_48 rfl hl (by decide) rfl (fun ls hl => ?_)
            refine lv_iinc (v := nI (r + 1)) (lv' := [(4, .int (nI (r + 1))), (3, .int (x3 ||| ((nI 1) <<< ((hs r) &&& 31)))), (0, .ref b), (1, .int R), (2, .int K)]) hx hb dX4_afterOneRound_49 hl (k := 4) rfl (nI_s1 r) (by decide) rfl (fun ls hl => ?_)
            refine lv_goto (tgt := 5) hx hb dX4_afterOneRound_52 (by decide) ?_
            exact ih_5 (r + 1) (x3 ||| ((nI 1) <<< ((hs r) &&& 31))) (by omega) (by subst e3; simp [rnd, c_2, c_3, c_4]) (by omega) ls (lv_sub hl [2, 3, 4, 1, 0] rfl)
  exact lp_5_1 (n - 0 + 1) 0 K (Nat.zero_le _) rfl (Nat.lt_succ_self _) ls (lv_sub hl [2, 3, 4, 1, 0] rfl)
set_option maxHeartbeats 4000000 in
set_option maxRecDepth 100000 in
theorem k_X4_closure (l : Launch) (D : va_G) (cI cB : ClassId) (b : Nat) (qh : Nat) (qb : Nat) (hs : Nat → Int32) (bs : Nat → Int32) (n : Nat) (as_ : Int32) (R : Int32) (F : Int32) (hn : n ≤ 24) : Rd l yX4_closure wsX4_closure ({ frames := 2, cells := 0, slots := 0, locals := 45 }) D cI cB [.ref b, .int R, .int F] [(b, .inr (4, [.ref qh, .ref qb, .int (nI n), .int as_])), (qh, .inl (cI, 24, .inl hs)), (qb, .inl (cI, 24, .inl bs))] (.int (clo hs bs n R F)) := by
  refine pu_startI (cc := cX4_closure) (maxL := 6) (by decide) rfl (Nat.le_of_ble_eq_true rfl) ?_
  intro p e s m args below meth c Q hx hb hml hown hts hP hG hret ls hl
  have hown : s.vm.findClass RX4 = some m.cls := hown
  have hl : lv_has ls 6 [(0, .ref b), (1, .int R), (2, .int F)] := hl
  refine lv_iload_n hx hb dX4_closure_0 rfl (lv_at hl 2 rfl) ?_
  refine lv_istore_n (lv' := [(3, .int F), (0, .ref b), (1, .int R), (2, .int F)]) hx hb dX4_closure_1 rfl hl (by decide) rfl (fun ls hl => ?_)
  refine lv_iconst (v := nI 0) hx hb dX4_closure_2 (by decide) ?_
  refine lv_istore (lv' := [(4, .int (nI 0)), (3, .int F), (0, .ref b), (1, .int R), (2, .int F)]) hx hb dX4_closure_3 hl (by decide) rfl (fun ls hl => ?_)
  have lp_5_1 : ∀ (fu_5 : Nat) (k : Nat) (x3 : Int32) (hk : k ≤ 16) (e3 : x3 = pw (fun K => rnd hs bs R K n) k F) (hfu_5 : 16 - k < fu_5) (ls : Array Slot) (hl : lv_has ls 6 [(0, .ref b), (1, .int R), (2, .int F), (3, .int x3), (4, .int (nI k))]), W p l e ({ frames := 2, cells := 0, slots := 0, locals := 45 }) s m args below meth c s.heap [] 0 0 Q (F0 m 5 ls []) := by
    intro fu_5
    induction fu_5 with
    | zero => intro k x3 hk e3 hfu; exact absurd hfu (Nat.not_lt_zero _)
    | succ fu_5 ih_5 =>
      intro k x3 hk e3 hfu_5 ls hl
      refine lv_iload hx hb dX4_closure_5 (lv_at hl 4 rfl) ?_
      refine lv_bipush (v := nI 16) hx hb dX4_closure_7 (by decide) ?_
      refine lv_icmp_ge (tgt := 37) hx hb dX4_closure_9 (by decide) (fun c_2 => ?_) (fun c_2 => ?_)
      · skip
        have c_2 : 16 ≤ k := (nI_leI (by omega) (by omega)).mp (show nI 16 ≤ nI k from c_2)
        refine lv_iload_n hx hb dX4_closure_37 rfl (lv_at hl 3 rfl) ?_
        exact hret _ _ _ (by rw [e3, show k = 16 from by omega]; rfl) dX4_closure_38
      · skip
        have c_2 : ¬ (16 ≤ k) := fun h9 => (show ¬ (nI 16 ≤ nI k) from c_2) ((nI_leI (by omega) (by omega)).mpr h9)
        refine lv_aload_n hx hb dX4_closure_12 rfl (lv_at hl 0 rfl) ?_
        refine lv_iload_n hx hb dX4_closure_13 rfl (lv_at hl 1 rfl) ?_
        refine lv_iload_n hx hb dX4_closure_14 rfl (lv_at hl 3 rfl) ?_
        refine pu_V (As := [.int R, .int x3]) (rest := []) ⟨hx, hb, hml, hown, hts⟩ hG hP (k_X4_afterOneRound l D cI cB b qh qb hs bs n as_ R x3 (by omega)) (cwV 2 hts gX4_closure_X4_afterOneRound rfl rfl rfl (by decide +kernel) ⟨(Nat.le_of_ble_eq_true rfl), (Nat.le_of_ble_eq_true rfl)⟩) [0, 1, 2] rfl 0 rfl rfl rfl rfl hl.1 rfl (Nat.le_of_ble_eq_true rfl) dX4_closure_15 ⟨Nat.zero_le _, Nat.zero_le _⟩ ?_
        refine lv_istore (lv' := [(5, .int (rnd hs bs R x3 n)), (0, .ref b), (1, .int R), (2, .int F), (3, .int x3), (4, .int (nI k))]) hx hb dX4_closure_18 hl (by decide) rfl (fun ls hl => ?_)
        refine lv_iload hx hb dX4_closure_20 (lv_at hl 0 rfl) ?_
        refine lv_iload_n hx hb dX4_closure_22 rfl (lv_at hl 4 rfl) ?_
        refine lv_icmp_ne (tgt := 28) hx hb dX4_closure_23 (by decide) (fun c_3 => ?_) (fun c_3 => ?_)
        · skip
          refine lv_iload hx hb dX4_closure_28 (lv_at hl 0 rfl) ?_
          refine lv_istore_n (lv' := [(3, .int (rnd hs bs R x3 n)), (5, .int (rnd hs bs R x3 n)), (0, .ref b), (1, .int R), (2, .int F), (4, .int (nI k))]) hx hb dX4_closure_30 rfl hl (by decide) rfl (fun ls hl => ?_)
          refine lv_iinc (v := nI (k + 1)) (lv' := [(4, .int (nI (k + 1))), (3, .int (rnd hs bs R x3 n)), (5, .int (rnd hs bs R x3 n)), (0, .ref b), (1, .int R), (2, .int F)]) hx hb dX4_closure_31 hl (k := 5) rfl (nI_s1 k) (by decide) rfl (fun ls hl => ?_)
          refine lv_goto (tgt := 5) hx hb dX4_closure_34 (by decide) ?_
          exact ih_5 (k + 1) (rnd hs bs R x3 n) (by omega) (by subst e3; rfl) (by omega) ls (lv_sub hl [3, 4, 5, 1, 0] rfl)
        · skip
          refine lv_iload_n hx hb dX4_closure_26 rfl (lv_at hl 4 rfl) ?_
          exact hret _ _ _ (by subst e3; have h9 := pw_fix (f := fun K => rnd hs bs R K n) (k := k) c_3 (16 - k); rw [show k + (16 - k) = 16 from by omega] at h9; exact h9.symm) dX4_closure_27
  exact lp_5_1 (16 - 0 + 1) 0 F (Nat.zero_le _) rfl (Nat.lt_succ_self _) ls (lv_sub hl [2, 3, 4, 1, 0] rfl)
set_option maxHeartbeats 4000000 in
set_option maxRecDepth 100000 in
theorem k_X4_leastModel (l : Launch) (D : va_G) (cI cB : ClassId) (b : Nat) (qh : Nat) (qb : Nat) (hs : Nat → Int32) (bs : Nat → Int32) (n : Nat) (as_ : Int32) (hn : n ≤ 24) : Rd l yX4_leastModel wsX4_leastModel ({ frames := 3, cells := 0, slots := 0, locals := 70 }) D cI cB [.ref b] [(b, .inr (4, [.ref qh, .ref qb, .int (nI n), .int as_])), (qh, .inl (cI, 24, .inl hs)), (qb, .inl (cI, 24, .inl bs))] (.int (mdl hs bs n)) := by
  refine pu_startI (cc := cX4_leastModel) (maxL := 1) (by decide) rfl (Nat.le_of_ble_eq_true rfl) ?_
  intro p e s m args below meth c Q hx hb hml hown hts hP hG hret ls hl
  have hown : s.vm.findClass RX4 = some m.cls := hown
  have hl : lv_has ls 1 [(0, .ref b)] := hl
  refine lv_aload_n hx hb dX4_leastModel_0 rfl (lv_at hl 0 rfl) ?_
  refine lv_aload_n hx hb dX4_leastModel_1 rfl (lv_at hl 0 rfl) ?_
  refine pu_V (As := []) (rest := [.ref b]) ⟨hx, hb, hml, hown, hts⟩ hG hP (k_X4_everyRule l D cI cB b qh qb hs bs n as_ (by omega)) (cwV 0 hts gX4_leastModel_X4_everyRule rfl rfl rfl (by decide +kernel) ⟨(Nat.le_of_ble_eq_true rfl), (Nat.le_of_ble_eq_true rfl)⟩) [0, 1, 2] rfl 0 rfl rfl rfl rfl hl.1 rfl (Nat.le_of_ble_eq_true rfl) dX4_leastModel_2 ⟨Nat.zero_le _, Nat.zero_le _⟩ ?_
  refine lv_iconst (v := nI 0) hx hb dX4_leastModel_5 (by decide) ?_
  refine pu_V (As := [.int (evr n), .int (nI 0)]) (rest := []) ⟨hx, hb, hml, hown, hts⟩ hG hP (k_X4_closure l D cI cB b qh qb hs bs n as_ (evr n) (nI 0) (by omega)) (cwV 2 hts gX4_leastModel_X4_closure rfl rfl rfl (by decide +kernel) ⟨(Nat.le_of_ble_eq_true rfl), (Nat.le_of_ble_eq_true rfl)⟩) [0, 1, 2] rfl 0 rfl rfl rfl rfl hl.1 rfl (Nat.le_of_ble_eq_true rfl) dX4_leastModel_6 ⟨Nat.zero_le _, Nat.zero_le _⟩ ?_
  exact hret _ _ _ rfl dX4_leastModel_9
set_option maxHeartbeats 4000000 in
set_option maxRecDepth 100000 in
theorem k_X4_assumableAtoms (l : Launch) (D : va_G) (cI cB : ClassId) (b : Nat) (qh : Nat) (qb : Nat) (hs : Nat → Int32) (bs : Nat → Int32) (n : Nat) (as_ : Int32) (hn : n ≤ 24) : Rd l yX4_assumableAtoms wsX4_assumableAtoms ({ frames := 0, cells := 0, slots := 0, locals := 0 }) D cI cB [.ref b] [(b, .inr (4, [.ref qh, .ref qb, .int (nI n), .int as_])), (qh, .inl (cI, 24, .inl hs)), (qb, .inl (cI, 24, .inl bs))] (.int as_) := by
  refine pu_startI (cc := cX4_assumableAtoms) (maxL := 1) (by decide) rfl (Nat.le_of_ble_eq_true rfl) ?_
  intro p e s m args below meth c Q hx hb hml hown hts hP hG hret ls hl
  have hown : s.vm.findClass RX4 = some m.cls := hown
  have hl : lv_has ls 1 [(0, .ref b)] := hl
  refine lv_aload_n hx hb dX4_assumableAtoms_0 rfl (lv_at hl 0 rfl) ?_
  refine va_get (D := D) (ci := 4) (v := .int as_) (C := RX4) (T := TX4) (N := 4) hx hb hts ilX4_assumableAtoms_4 hown hG.1 hP 0 rfl rfl 3 (by decide) (hts (.fieldLink RX4 26 "HornEngine$Rulebook" "assumable" "I") (List.mem_of_getElem? (i := 1) rfl)) (fun _ h9 => h9) rfl dX4_assumableAtoms_1 ?_
  exact hret _ _ _ rfl dX4_assumableAtoms_4
set_option maxHeartbeats 4000000 in
set_option maxRecDepth 100000 in
theorem k_X4_modelWithout (l : Launch) (D : va_G) (cI cB : ClassId) (b : Nat) (qh : Nat) (qb : Nat) (hs : Nat → Int32) (bs : Nat → Int32) (n : Nat) (as_ : Int32) (r : Nat) (hn : n ≤ 24) (hr : r < n) : Rd l yX4_modelWithout wsX4_modelWithout ({ frames := 3, cells := 0, slots := 0, locals := 70 }) D cI cB [.ref b, .int (nI r)] [(b, .inr (4, [.ref qh, .ref qb, .int (nI n), .int as_])), (qh, .inl (cI, 24, .inl hs)), (qb, .inl (cI, 24, .inl bs))] (.int (clo hs bs n (less (evr n) r) (nI 0))) := by
  refine pu_startI (cc := cX4_modelWithout) (maxL := 2) (by decide) rfl (Nat.le_of_ble_eq_true rfl) ?_
  intro p e s m args below meth c Q hx hb hml hown hts hP hG hret ls hl
  have hown : s.vm.findClass RX4 = some m.cls := hown
  have hl : lv_has ls 2 [(0, .ref b), (1, .int (nI r))] := hl
  refine lv_aload_n hx hb dX4_modelWithout_0 rfl (lv_at hl 0 rfl) ?_
  refine lv_aload_n hx hb dX4_modelWithout_1 rfl (lv_at hl 0 rfl) ?_
  refine pu_V (As := []) (rest := [.ref b]) ⟨hx, hb, hml, hown, hts⟩ hG hP (k_X4_everyRule l D cI cB b qh qb hs bs n as_ (by omega)) (cwV 0 hts gX4_modelWithout_X4_everyRule rfl rfl rfl (by decide +kernel) ⟨(Nat.le_of_ble_eq_true rfl), (Nat.le_of_ble_eq_true rfl)⟩) [0, 1, 2] rfl 0 rfl rfl rfl rfl hl.1 rfl (Nat.le_of_ble_eq_true rfl) dX4_modelWithout_2 ⟨Nat.zero_le _, Nat.zero_le _⟩ ?_
  refine lv_iconst (v := nI 1) hx hb dX4_modelWithout_5 (by decide) ?_
  refine lv_iload_n hx hb dX4_modelWithout_6 rfl (lv_at hl 1 rfl) ?_
  refine lv_ishl hx hb dX4_modelWithout_7 ?_
  refine lv_iconst (v := (-1)) hx hb dX4_modelWithout_8 (by decide) ?_
  refine lv_ixor hx hb dX4_modelWithout_9 ?_
  refine lv_iand hx hb dX4_modelWithout_10 ?_
  refine lv_iconst (v := nI 0) hx hb dX4_modelWithout_11 (by decide) ?_
  refine pu_V (As := [.int ((evr n) &&& (((nI 1) <<< ((nI r) &&& 31)) ^^^ (-1))), .int (nI 0)]) (rest := []) ⟨hx, hb, hml, hown, hts⟩ hG hP (k_X4_closure l D cI cB b qh qb hs bs n as_ ((evr n) &&& (((nI 1) <<< ((nI r) &&& 31)) ^^^ (-1))) (nI 0) (by omega)) (cwV 2 hts gX4_modelWithout_X4_closure rfl rfl rfl (by decide +kernel) ⟨(Nat.le_of_ble_eq_true rfl), (Nat.le_of_ble_eq_true rfl)⟩) [0, 1, 2] rfl 0 rfl rfl rfl rfl hl.1 rfl (Nat.le_of_ble_eq_true rfl) dX4_modelWithout_12 ⟨Nat.zero_le _, Nat.zero_le _⟩ ?_
  exact hret _ _ _ rfl dX4_modelWithout_15
set_option maxHeartbeats 4000000 in
set_option maxRecDepth 100000 in
theorem k_X4_levelOf (l : Launch) (D : va_G) (cI cB : ClassId) (b : Nat) (qh : Nat) (qb : Nat) (hs : Nat → Int32) (bs : Nat → Int32) (n : Nat) (as_ : Int32) (a : Nat) (lv : Nat) (hn : n ≤ 24) (hlv : lv < 16) (h1 : ∀ i, i < lv → has (pw (fun K => rnd hs bs (evr n) K n) (i + 1) (nI 0)) (nI a) = false) (h2 : has (pw (fun K => rnd hs bs (evr n) K n) (lv + 1) (nI 0)) (nI a) = true) : Rd l yX4_levelOf wsX4_levelOf ({ frames := 2, cells := 0, slots := 0, locals := 45 }) D cI cB [.ref b, .int (nI a)] [(b, .inr (4, [.ref qh, .ref qb, .int (nI n), .int as_])), (qh, .inl (cI, 24, .inl hs)), (qb, .inl (cI, 24, .inl bs))] (.int (nI lv)) := by
  refine pu_startI (cc := cX4_levelOf) (maxL := 4) (by decide) rfl (Nat.le_of_ble_eq_true rfl) ?_
  intro p e s m args below meth c Q hx hb hml hown hts hP hG hret ls hl
  have hown : s.vm.findClass RX4 = some m.cls := hown
  have hl : lv_has ls 4 [(0, .ref b), (1, .int (nI a))] := hl
  refine lv_iconst (v := nI 0) hx hb dX4_levelOf_0 (by decide) ?_
  refine lv_istore_n (lv' := [(2, .int (nI 0)), (0, .ref b), (1, .int (nI a))]) hx hb dX4_levelOf_1 rfl hl (by decide) rfl (fun ls hl => ?_)
  refine lv_iconst (v := nI 0) hx hb dX4_levelOf_2 (by decide) ?_
  refine lv_istore_n (lv' := [(3, .int (nI 0)), (2, .int (nI 0)), (0, .ref b), (1, .int (nI a))]) hx hb dX4_levelOf_3 rfl hl (by decide) rfl (fun ls hl => ?_)
  have lp_4_1 : ∀ (fu_4 : Nat) (k : Nat) (x2 : Int32) (hk : k ≤ lv) (e2 : x2 = pw (fun K => rnd hs bs (evr n) K n) k (nI 0)) (hfu_4 : 16 - k < fu_4) (ls : Array Slot) (hl : lv_has ls 4 [(0, .ref b), (1, .int (nI a)), (2, .int x2), (3, .int (nI k))]), W p l e ({ frames := 2, cells := 0, slots := 0, locals := 45 }) s m args below meth c s.heap [] 0 0 Q (F0 m 4 ls []) := by
    intro fu_4
    induction fu_4 with
    | zero => intro k x2 hk e2 hfu; exact absurd hfu (Nat.not_lt_zero _)
    | succ fu_4 ih_4 =>
      intro k x2 hk e2 hfu_4 ls hl
      refine lv_iload_n hx hb dX4_levelOf_4 rfl (lv_at hl 3 rfl) ?_
      refine lv_bipush (v := nI 16) hx hb dX4_levelOf_5 (by decide) ?_
      refine lv_icmp_ge (tgt := 36) hx hb dX4_levelOf_7 (by decide) (fun c_2 => ?_) (fun c_2 => ?_)
      · skip
        have c_2 : 16 ≤ k := (nI_leI (by omega) (by omega)).mp (show nI 16 ≤ nI k from c_2)
        exact absurd c_2 (by omega)
      · skip
        have c_2 : ¬ (16 ≤ k) := fun h9 => (show ¬ (nI 16 ≤ nI k) from c_2) ((nI_leI (by omega) (by omega)).mpr h9)
        refine lv_aload_n hx hb dX4_levelOf_10 rfl (lv_at hl 0 rfl) ?_
        refine lv_aload_n hx hb dX4_levelOf_11 rfl (lv_at hl 0 rfl) ?_
        refine pu_V (As := []) (rest := [.ref b]) ⟨hx, hb, hml, hown, hts⟩ hG hP (k_X4_everyRule l D cI cB b qh qb hs bs n as_ (by omega)) (cwV 0 hts gX4_levelOf_X4_everyRule rfl rfl rfl (by decide +kernel) ⟨(Nat.le_of_ble_eq_true rfl), (Nat.le_of_ble_eq_true rfl)⟩) [0, 1, 2] rfl 0 rfl rfl rfl rfl hl.1 rfl (Nat.le_of_ble_eq_true rfl) dX4_levelOf_12 ⟨Nat.zero_le _, Nat.zero_le _⟩ ?_
        refine lv_iload_n hx hb dX4_levelOf_15 rfl (lv_at hl 2 rfl) ?_
        refine pu_V (As := [.int (evr n), .int x2]) (rest := []) ⟨hx, hb, hml, hown, hts⟩ hG hP (k_X4_afterOneRound l D cI cB b qh qb hs bs n as_ (evr n) x2 (by omega)) (cwV 2 hts gX4_levelOf_X4_afterOneRound rfl rfl rfl (by decide +kernel) ⟨(Nat.le_of_ble_eq_true rfl), (Nat.le_of_ble_eq_true rfl)⟩) [0, 1, 2] rfl 0 rfl rfl rfl rfl hl.1 rfl (Nat.le_of_ble_eq_true rfl) dX4_levelOf_16 ⟨Nat.zero_le _, Nat.zero_le _⟩ ?_
        refine lv_istore_n (lv' := [(2, .int (rnd hs bs (evr n) x2 n)), (0, .ref b), (1, .int (nI a)), (3, .int (nI k))]) hx hb dX4_levelOf_19 rfl hl (by decide) rfl (fun ls hl => ?_)
        refine lv_iload_n hx hb dX4_levelOf_20 rfl (lv_at hl 0 rfl) ?_
        refine lv_iload_n hx hb dX4_levelOf_21 rfl (lv_at hl 2 rfl) ?_
        refine pu_SN (As := [.int (rnd hs bs (evr n) x2 n), .int (nI a)]) (rest := []) ⟨hx, hb, hml, hown, hts⟩ hG hP (k_X5_contains l D cI cB (rnd hs bs (evr n) x2 n) (nI a) ) (va_cnB 2 hts gX4_levelOf_X5_contains_n44 rfl rfl rfl (hG.2 _ (List.mem_of_getElem? (i := 5) rfl)) (hts (.initialized RX5) (List.mem_of_getElem? (i := 14) rfl)) (by decide +kernel) ⟨(Nat.le_of_ble_eq_true rfl), (Nat.le_of_ble_eq_true rfl)⟩) (hts (.static yX5_contains) (List.mem_of_getElem? (i := 13) rfl)) [] rfl rfl hl.1 rfl (Nat.le_of_ble_eq_true rfl) dX4_levelOf_22 ⟨Nat.zero_le _, Nat.zero_le _⟩ ?_
        refine lv_if_eq (tgt := 30) hx hb dX4_levelOf_25 (by decide) (fun c_3 => ?_) (fun c_3 => ?_)
        · skip
          have c_3 : (has (rnd hs bs (evr n) x2 n) (nI a)) = false := bI_f.mp c_3
          refine lv_iinc (v := nI (k + 1)) (lv' := [(3, .int (nI (k + 1))), (2, .int (rnd hs bs (evr n) x2 n)), (0, .ref b), (1, .int (nI a))]) hx hb dX4_levelOf_30 hl (k := 3) rfl (nI_s1 k) (by decide) rfl (fun ls hl => ?_)
          refine lv_goto (tgt := 4) hx hb dX4_levelOf_33 (by decide) ?_
          exact ih_4 (k + 1) (rnd hs bs (evr n) x2 n) (by have h9 : k ≠ lv := fun h9 => (by subst h9; subst e2; exact absurd h2 (by rw [show pw (fun K => rnd hs bs (evr n) K n) (k + 1) (nI 0) = rnd hs bs (evr n) (pw (fun K => rnd hs bs (evr n) K n) k (nI 0)) n from rfl, c_3]; decide)); omega) (by subst e2; rfl) (by omega) ls (lv_sub hl [2, 3, 1, 0] rfl)
        · skip
          have c_3 : (has (rnd hs bs (evr n) x2 n) (nI a)) = true := bI_t.mp c_3
          refine lv_iload_n hx hb dX4_levelOf_28 rfl (lv_at hl 3 rfl) ?_
          exact hret _ _ _ (by have h9 : ¬ k < lv := fun h9 => (by have h8 := h1 k h9; subst e2; rw [show pw (fun K => rnd hs bs (evr n) K n) (k + 1) (nI 0) = rnd hs bs (evr n) (pw (fun K => rnd hs bs (evr n) K n) k (nI 0)) n from rfl, c_3] at h8; cases h8); rw [show k = lv from by omega]) dX4_levelOf_29
  exact lp_4_1 (16 - 0 + 1) 0 (nI 0) (Nat.zero_le _) rfl (Nat.lt_succ_self _) ls (lv_sub hl [2, 3, 1, 0] rfl)
set_option maxHeartbeats 4000000 in
set_option maxRecDepth 100000 in
theorem k_X4_supportsOf (l : Launch) (D : va_G) (cI cB : ClassId) (b : Nat) (qh : Nat) (qb : Nat) (hs : Nat → Int32) (bs : Nat → Int32) (n : Nat) (as_ : Int32) (a : Nat) (hn : n ≤ 24) (ha : a < 16) : Rd l yX4_supportsOf wsX4_supportsOf ({ frames := 4, cells := 0, slots := 0, locals := 90 }) D cI cB [.ref b, .int (nI a)] [(b, .inr (4, [.ref qh, .ref qb, .int (nI n), .int as_])), (qh, .inl (cI, 24, .inl hs)), (qb, .inl (cI, 24, .inl bs))] (.int (supF hs bs (mdl hs bs n) a n)) := by
  refine pu_startI (cc := cX4_supportsOf) (maxL := 5) (by decide) rfl (Nat.le_of_ble_eq_true rfl) ?_
  intro p e s m args below meth c Q hx hb hml hown hts hP hG hret ls hl
  have hown : s.vm.findClass RX4 = some m.cls := hown
  have hl : lv_has ls 5 [(0, .ref b), (1, .int (nI a))] := hl
  refine lv_aload_n hx hb dX4_supportsOf_0 rfl (lv_at hl 0 rfl) ?_
  refine pu_V (As := []) (rest := []) ⟨hx, hb, hml, hown, hts⟩ hG hP (k_X4_leastModel l D cI cB b qh qb hs bs n as_ (by omega)) (cwV 0 hts gX4_supportsOf_X4_leastModel rfl rfl rfl (by decide +kernel) ⟨(Nat.le_of_ble_eq_true rfl), (Nat.le_of_ble_eq_true rfl)⟩) [0, 1, 2] rfl 0 rfl rfl rfl rfl hl.1 rfl (Nat.le_of_ble_eq_true rfl) dX4_supportsOf_1 ⟨Nat.zero_le _, Nat.zero_le _⟩ ?_
  refine lv_istore_n (lv' := [(2, .int (mdl hs bs n)), (0, .ref b), (1, .int (nI a))]) hx hb dX4_supportsOf_4 rfl hl (by decide) rfl (fun ls hl => ?_)
  refine lv_iconst (v := nI 0) hx hb dX4_supportsOf_5 (by decide) ?_
  refine lv_istore_n (lv' := [(3, .int (nI 0)), (2, .int (mdl hs bs n)), (0, .ref b), (1, .int (nI a))]) hx hb dX4_supportsOf_6 rfl hl (by decide) rfl (fun ls hl => ?_)
  refine lv_iconst (v := nI 0) hx hb dX4_supportsOf_7 (by decide) ?_
  refine lv_istore (lv' := [(4, .int (nI 0)), (3, .int (nI 0)), (2, .int (mdl hs bs n)), (0, .ref b), (1, .int (nI a))]) hx hb dX4_supportsOf_8 hl (by decide) rfl (fun ls hl => ?_)
  have lp_10_1 : ∀ (fu_10 : Nat) (r : Nat) (x3 : Int32) (hr : r ≤ n) (e3 : x3 = supF hs bs (mdl hs bs n) a r) (hfu_10 : n - r < fu_10) (ls : Array Slot) (hl : lv_has ls 5 [(0, .ref b), (1, .int (nI a)), (2, .int (mdl hs bs n)), (3, .int x3), (4, .int (nI r))]), W p l e ({ frames := 4, cells := 0, slots := 0, locals := 90 }) s m args below meth c s.heap [] 0 0 Q (F0 m 10 ls []) := by
    intro fu_10
    induction fu_10 with
    | zero => intro r x3 hr e3 hfu; exact absurd hfu (Nat.not_lt_zero _)
    | succ fu_10 ih_10 =>
      intro r x3 hr e3 hfu_10 ls hl
      refine lv_iload hx hb dX4_supportsOf_10 (lv_at hl 4 rfl) ?_
      refine lv_aload_n hx hb dX4_supportsOf_12 rfl (lv_at hl 0 rfl) ?_
      refine va_get (D := D) (ci := 4) (v := .int (nI n)) (C := RX4) (T := TX4) (N := 4) hx hb hts ilX4_supportsOf_4 hown hG.1 hP 0 rfl rfl 2 (by decide) (hts (.fieldLink RX4 18 "HornEngine$Rulebook" "count" "I") (List.mem_of_getElem? (i := 1) rfl)) (fun _ h9 => h9) rfl dX4_supportsOf_13 ?_
      refine lv_icmp_ge (tgt := 57) hx hb dX4_supportsOf_16 (by decide) (fun c_2 => ?_) (fun c_2 => ?_)
      · skip
        have c_2 : n ≤ r := (nI_leI (by omega) (by omega)).mp (show nI n ≤ nI r from c_2)
        refine lv_iload_n hx hb dX4_supportsOf_57 rfl (lv_at hl 3 rfl) ?_
        exact hret _ _ _ (by rw [e3, show r = n from by omega]) dX4_supportsOf_58
      · skip
        have c_2 : ¬ (n ≤ r) := fun h9 => (show ¬ (nI n ≤ nI r) from c_2) ((nI_leI (by omega) (by omega)).mpr h9)
        refine lv_aload_n hx hb dX4_supportsOf_19 rfl (lv_at hl 0 rfl) ?_
        refine va_get (D := D) (ci := 4) (v := .ref qh) (C := RX4) (T := TX4) (N := 4) hx hb hts ilX4_supportsOf_4 hown hG.1 hP 0 rfl rfl 0 (by decide) (hts (.fieldLink RX4 9 "HornEngine$Rulebook" "heads" "[I") (List.mem_of_getElem? (i := 2) rfl)) (fun _ h9 => h9) rfl dX4_supportsOf_20 ?_
        refine lv_iload hx hb dX4_supportsOf_23 (lv_at hl 4 rfl) ?_
        refine ia_ld hx hb hG hP 1 rfl r rfl (by omega) (by decide) dX4_supportsOf_25 ?_
        refine lv_iload_n hx hb dX4_supportsOf_26 rfl (lv_at hl 1 rfl) ?_
        refine lv_icmp_ne (tgt := 51) hx hb dX4_supportsOf_27 (by decide) (fun c_3 => ?_) (fun c_3 => ?_)
        · skip
          refine lv_iinc (v := nI (r + 1)) (lv' := [(4, .int (nI (r + 1))), (0, .ref b), (1, .int (nI a)), (2, .int (mdl hs bs n)), (3, .int x3)]) hx hb dX4_supportsOf_51 hl (k := 4) rfl (nI_s1 r) (by decide) rfl (fun ls hl => ?_)
          refine lv_goto (tgt := 10) hx hb dX4_supportsOf_54 (by decide) ?_
          exact ih_10 (r + 1) x3 (by omega) (by subst e3; simp only [supF, decide_true, decide_false, reduceIte, Bool.false_eq_true, not_true_eq_false, not_false_eq_true, and_self, and_true, true_and, and_false, false_and, c_2, c_3]) (by omega) ls (lv_sub hl [1, 2, 3, 4, 0] rfl)
        · skip
          refine lv_aload_n hx hb dX4_supportsOf_30 rfl (lv_at hl 0 rfl) ?_
          refine va_get (D := D) (ci := 4) (v := .ref qb) (C := RX4) (T := TX4) (N := 4) hx hb hts ilX4_supportsOf_4 hown hG.1 hP 0 rfl rfl 1 (by decide) (hts (.fieldLink RX4 15 "HornEngine$Rulebook" "bodies" "[I") (List.mem_of_getElem? (i := 3) rfl)) (fun _ h9 => h9) rfl dX4_supportsOf_31 ?_
          refine lv_iload hx hb dX4_supportsOf_34 (lv_at hl 4 rfl) ?_
          refine ia_ld hx hb hG hP 2 rfl r rfl (by omega) (by decide) dX4_supportsOf_36 ?_
          refine lv_iload_n hx hb dX4_supportsOf_37 rfl (lv_at hl 2 rfl) ?_
          refine pu_SN (As := [.int (bs r), .int (mdl hs bs n)]) (rest := []) ⟨hx, hb, hml, hown, hts⟩ hG hP (k_X5_isSubset l D cI cB (bs r) (mdl hs bs n) ) (va_cnB 2 hts gX4_supportsOf_X5_isSubset_n51 rfl rfl rfl (hG.2 _ (List.mem_of_getElem? (i := 6) rfl)) (hts (.initialized RX5) (List.mem_of_getElem? (i := 22) rfl)) (by decide +kernel) ⟨(Nat.le_of_ble_eq_true rfl), (Nat.le_of_ble_eq_true rfl)⟩) (hts (.static yX5_isSubset) (List.mem_of_getElem? (i := 24) rfl)) [] rfl rfl hl.1 rfl (Nat.le_of_ble_eq_true rfl) dX4_supportsOf_38 ⟨Nat.zero_le _, Nat.zero_le _⟩ ?_
          refine lv_if_eq (tgt := 51) hx hb dX4_supportsOf_41 (by decide) (fun c_4 => ?_) (fun c_4 => ?_)
          · skip
            have c_4 : (sbs (bs r) (mdl hs bs n)) = false := bI_f.mp c_4
            refine lv_iinc (v := nI (r + 1)) (lv' := [(4, .int (nI (r + 1))), (0, .ref b), (1, .int (nI a)), (2, .int (mdl hs bs n)), (3, .int x3)]) hx hb dX4_supportsOf_51 hl (k := 4) rfl (nI_s1 r) (by decide) rfl (fun ls hl => ?_)
            refine lv_goto (tgt := 10) hx hb dX4_supportsOf_54 (by decide) ?_
            exact ih_10 (r + 1) x3 (by omega) (by subst e3; simp only [supF, decide_true, decide_false, reduceIte, Bool.false_eq_true, not_true_eq_false, not_false_eq_true, and_self, and_true, true_and, and_false, false_and, c_2, c_3, c_4]) (by omega) ls (lv_sub hl [1, 2, 3, 4, 0] rfl)
          · skip
            have c_4 : (sbs (bs r) (mdl hs bs n)) = true := bI_t.mp c_4
            refine lv_iload_n hx hb dX4_supportsOf_44 rfl (lv_at hl 3 rfl) ?_
            refine lv_iconst (v := nI 1) hx hb dX4_supportsOf_45 (by decide) ?_
            refine lv_iload hx hb dX4_supportsOf_46 (lv_at hl 4 rfl) ?_
            refine lv_ishl hx hb dX4_supportsOf_48 ?_
            refine lv_ior hx hb dX4_supportsOf_49 ?_
            refine lv_istore_n (lv' := [(3, .int (x3 ||| ((nI 1) <<< ((nI r) &&& 31)))), (0, .ref b), (1, .int (nI a)), (2, .int (mdl hs bs n)), (4, .int (nI r))]) hx hb dX4_supportsOf_50 rfl hl (by decide) rfl (fun ls hl => ?_)
            refine lv_iinc (v := nI (r + 1)) (lv' := [(4, .int (nI (r + 1))), (3, .int (x3 ||| ((nI 1) <<< ((nI r) &&& 31)))), (0, .ref b), (1, .int (nI a)), (2, .int (mdl hs bs n))]) hx hb dX4_supportsOf_51 hl (k := 4) rfl (nI_s1 r) (by decide) rfl (fun ls hl => ?_)
            refine lv_goto (tgt := 10) hx hb dX4_supportsOf_54 (by decide) ?_
            exact ih_10 (r + 1) (x3 ||| ((nI 1) <<< ((nI r) &&& 31))) (by omega) (by subst e3; simp only [supF, decide_true, decide_false, reduceIte, Bool.false_eq_true, not_true_eq_false, not_false_eq_true, and_self, and_true, true_and, and_false, false_and, c_2, c_3, c_4]) (by omega) ls (lv_sub hl [2, 3, 4, 1, 0] rfl)
  exact lp_10_1 (n - 0 + 1) 0 (nI 0) (by omega) rfl (Nat.lt_succ_self _) ls (lv_sub hl [3, 4, 2, 1, 0] rfl)
set_option maxHeartbeats 4000000 in
set_option maxRecDepth 100000 in
theorem k_X4_reasonFor (l : Launch) (D : va_G) (cI cB : ClassId) (b : Nat) (qh : Nat) (qb : Nat) (hs : Nat → Int32) (bs : Nat → Int32) (n : Nat) (as_ : Int32) (a : Nat) (hn : n ≤ 24) (ha : a < 16) : Rd l yX4_reasonFor wsX4_reasonFor ({ frames := 3, cells := 0, slots := 0, locals := 70 }) D cI cB [.ref b, .int (nI a)] [(b, .inr (4, [.ref qh, .ref qb, .int (nI n), .int as_])), (qh, .inl (cI, 24, .inl hs)), (qb, .inl (cI, 24, .inl bs))] (.int (reaF hs bs n a n)) := by
  refine pu_startI (cc := cX4_reasonFor) (maxL := 5) (by decide) rfl (Nat.le_of_ble_eq_true rfl) ?_
  intro p e s m args below meth c Q hx hb hml hown hts hP hG hret ls hl
  have hown : s.vm.findClass RX4 = some m.cls := hown
  have hl : lv_has ls 5 [(0, .ref b), (1, .int (nI a))] := hl
  refine lv_aload_n hx hb dX4_reasonFor_0 rfl (lv_at hl 0 rfl) ?_
  refine pu_V (As := []) (rest := []) ⟨hx, hb, hml, hown, hts⟩ hG hP (k_X4_everyRule l D cI cB b qh qb hs bs n as_ (by omega)) (cwV 0 hts gX4_reasonFor_X4_everyRule rfl rfl rfl (by decide +kernel) ⟨(Nat.le_of_ble_eq_true rfl), (Nat.le_of_ble_eq_true rfl)⟩) [0, 1, 2] rfl 0 rfl rfl rfl rfl hl.1 rfl (Nat.le_of_ble_eq_true rfl) dX4_reasonFor_1 ⟨Nat.zero_le _, Nat.zero_le _⟩ ?_
  refine lv_istore_n (lv' := [(2, .int (evr n)), (0, .ref b), (1, .int (nI a))]) hx hb dX4_reasonFor_4 rfl hl (by decide) rfl (fun ls hl => ?_)
  refine lv_aload_n hx hb dX4_reasonFor_5 rfl (lv_at hl 1 rfl) ?_
  refine va_get (D := D) (ci := 4) (v := .int (nI n)) (C := RX4) (T := TX4) (N := 4) hx hb hts ilX4_reasonFor_4 hown hG.1 hP 0 rfl rfl 2 (by decide) (hts (.fieldLink RX4 18 "HornEngine$Rulebook" "count" "I") (List.mem_of_getElem? (i := 1) rfl)) (fun _ h9 => h9) rfl dX4_reasonFor_6 ?_
  refine lv_iconst (v := nI 1) hx hb dX4_reasonFor_9 (by decide) ?_
  refine lv_isub hx hb dX4_reasonFor_10 ?_
  refine lv_istore_n (lv' := [(3, .int ((nI n) - (nI 1))), (2, .int (evr n)), (0, .ref b), (1, .int (nI a))]) hx hb dX4_reasonFor_11 rfl hl (by decide) rfl (fun ls hl => ?_)
  have lp_12_1 : ∀ (fu_12 : Nat) (j : Nat) (x2 : Int32) (hj : j ≤ n) (e2 : x2 = reaF hs bs n a (n - j)) (hfu_12 : j < fu_12) (ls : Array Slot) (hl : lv_has ls 5 [(0, .ref b), (1, .int (nI a)), (2, .int x2), (3, .int (nI j - nI 1))]), W p l e ({ frames := 3, cells := 0, slots := 0, locals := 70 }) s m args below meth c s.heap [] 0 0 Q (F0 m 12 ls []) := by
    intro fu_12
    induction fu_12 with
    | zero => intro j x2 hj e2 hfu; exact absurd hfu (Nat.not_lt_zero _)
    | succ fu_12 ih_12 =>
      intro j x2 hj e2 hfu_12 ls hl
      refine lv_iload_n hx hb dX4_reasonFor_12 rfl (lv_at hl 3 rfl) ?_
      refine lv_if_lt (tgt := 48) hx hb dX4_reasonFor_13 (by decide) (fun c_2 => ?_) (fun c_2 => ?_)
      · skip
        have hj0 := nI_dn c_2 (by omega)
        refine lv_iload_n hx hb dX4_reasonFor_48 rfl (lv_at hl 2 rfl) ?_
        exact hret _ _ _ (by rw [e2, hj0]; rfl) dX4_reasonFor_49
      · skip
        obtain ⟨i, rfl⟩ := nI_up c_2
        have hl : lv_has ls 5 [(0, .ref b), (1, .int (nI a)), (2, .int x2), (3, .int (nI i))] := by rw [← nI_pred i]; exact hl
        refine lv_iload_n hx hb dX4_reasonFor_16 rfl (lv_at hl 2 rfl) ?_
        refine lv_iconst (v := nI 1) hx hb dX4_reasonFor_17 (by decide) ?_
        refine lv_iload_n hx hb dX4_reasonFor_18 rfl (lv_at hl 3 rfl) ?_
        refine lv_ishl hx hb dX4_reasonFor_19 ?_
        refine lv_iconst (v := (-1)) hx hb dX4_reasonFor_20 (by decide) ?_
        refine lv_ixor hx hb dX4_reasonFor_21 ?_
        refine lv_iand hx hb dX4_reasonFor_22 ?_
        refine lv_istore (lv' := [(4, .int (x2 &&& (((nI 1) <<< ((nI i) &&& 31)) ^^^ (-1)))), (0, .ref b), (1, .int (nI a)), (2, .int x2), (3, .int (nI i))]) hx hb dX4_reasonFor_23 hl (by decide) rfl (fun ls hl => ?_)
        refine lv_aload_n hx hb dX4_reasonFor_25 rfl (lv_at hl 1 rfl) ?_
        refine lv_iload hx hb dX4_reasonFor_26 (lv_at hl 0 rfl) ?_
        refine lv_iconst (v := nI 0) hx hb dX4_reasonFor_28 (by decide) ?_
        refine pu_V (As := [.int (x2 &&& (((nI 1) <<< ((nI i) &&& 31)) ^^^ (-1))), .int (nI 0)]) (rest := []) ⟨hx, hb, hml, hown, hts⟩ hG hP (k_X4_closure l D cI cB b qh qb hs bs n as_ (x2 &&& (((nI 1) <<< ((nI i) &&& 31)) ^^^ (-1))) (nI 0) (by omega)) (cwV 2 hts gX4_reasonFor_X4_closure rfl rfl rfl (by decide +kernel) ⟨(Nat.le_of_ble_eq_true rfl), (Nat.le_of_ble_eq_true rfl)⟩) [0, 1, 2] rfl 0 rfl rfl rfl rfl hl.1 rfl (Nat.le_of_ble_eq_true rfl) dX4_reasonFor_29 ⟨Nat.zero_le _, Nat.zero_le _⟩ ?_
        refine lv_iload_n hx hb dX4_reasonFor_32 rfl (lv_at hl 2 rfl) ?_
        refine pu_SN (As := [.int (clo hs bs n (x2 &&& (((nI 1) <<< ((nI i) &&& 31)) ^^^ (-1))) (nI 0)), .int (nI a)]) (rest := []) ⟨hx, hb, hml, hown, hts⟩ hG hP (k_X5_contains l D cI cB (clo hs bs n (x2 &&& (((nI 1) <<< ((nI i) &&& 31)) ^^^ (-1))) (nI 0)) (nI a) ) (va_cnB 2 hts gX4_reasonFor_X5_contains_n44 rfl rfl rfl (hG.2 _ (List.mem_of_getElem? (i := 5) rfl)) (hts (.initialized RX5) (List.mem_of_getElem? (i := 18) rfl)) (by decide +kernel) ⟨(Nat.le_of_ble_eq_true rfl), (Nat.le_of_ble_eq_true rfl)⟩) (hts (.static yX5_contains) (List.mem_of_getElem? (i := 17) rfl)) [] rfl rfl hl.1 rfl (Nat.le_of_ble_eq_true rfl) dX4_reasonFor_33 ⟨Nat.zero_le _, Nat.zero_le _⟩ ?_
        refine lv_if_eq (tgt := 42) hx hb dX4_reasonFor_36 (by decide) (fun c_3 => ?_) (fun c_3 => ?_)
        · skip
          have c_3 : (has (clo hs bs n (x2 &&& (((nI 1) <<< ((nI i) &&& 31)) ^^^ (-1))) (nI 0)) (nI a)) = false := bI_f.mp c_3
          refine lv_iinc (v := nI i - nI 1) (lv' := [(3, .int (nI i - nI 1)), (4, .int (x2 &&& (((nI 1) <<< ((nI i) &&& 31)) ^^^ (-1)))), (0, .ref b), (1, .int (nI a)), (2, .int x2)]) hx hb dX4_reasonFor_42 hl (k := 4) rfl (nI_m1 i) (by decide) rfl (fun ls hl => ?_)
          refine lv_goto (tgt := 12) hx hb dX4_reasonFor_45 (by decide) ?_
          exact ih_12 i x2 (by omega) (by subst e2; rw [show n - i = (n - (i + 1)) + 1 from by omega]; simp only [reaF, less, show n - 1 - (n - (i + 1)) = i from by omega, decide_true, decide_false, reduceIte, Bool.false_eq_true, not_true_eq_false, not_false_eq_true, and_self, and_true, true_and, and_false, false_and, c_3]; try rfl) (by omega) ls (lv_sub hl [2, 3, 4, 0] rfl)
        · skip
          have c_3 : (has (clo hs bs n (x2 &&& (((nI 1) <<< ((nI i) &&& 31)) ^^^ (-1))) (nI 0)) (nI a)) = true := bI_t.mp c_3
          refine lv_iload hx hb dX4_reasonFor_39 (lv_at hl 0 rfl) ?_
          refine lv_istore_n (lv' := [(2, .int (x2 &&& (((nI 1) <<< ((nI i) &&& 31)) ^^^ (-1)))), (4, .int (x2 &&& (((nI 1) <<< ((nI i) &&& 31)) ^^^ (-1)))), (0, .ref b), (1, .int (nI a)), (3, .int (nI i))]) hx hb dX4_reasonFor_41 rfl hl (by decide) rfl (fun ls hl => ?_)
          refine lv_iinc (v := nI i - nI 1) (lv' := [(3, .int (nI i - nI 1)), (2, .int (x2 &&& (((nI 1) <<< ((nI i) &&& 31)) ^^^ (-1)))), (4, .int (x2 &&& (((nI 1) <<< ((nI i) &&& 31)) ^^^ (-1)))), (0, .ref b), (1, .int (nI a))]) hx hb dX4_reasonFor_42 hl (k := 4) rfl (nI_m1 i) (by decide) rfl (fun ls hl => ?_)
          refine lv_goto (tgt := 12) hx hb dX4_reasonFor_45 (by decide) ?_
          exact ih_12 i (x2 &&& (((nI 1) <<< ((nI i) &&& 31)) ^^^ (-1))) (by omega) (by subst e2; rw [show n - i = (n - (i + 1)) + 1 from by omega]; simp only [reaF, less, show n - 1 - (n - (i + 1)) = i from by omega, decide_true, decide_false, reduceIte, Bool.false_eq_true, not_true_eq_false, not_false_eq_true, and_self, and_true, true_and, and_false, false_and, c_3]; try rfl) (by omega) ls (lv_sub hl [3, 4, 1, 0] rfl)
  exact lp_12_1 (n + 1) n (evr n) (Nat.le_refl _) (by rw [Nat.sub_self]; rfl) (Nat.lt_succ_self _) ls (lv_sub hl [2, 3, 1, 0] rfl)
set_option maxHeartbeats 4000000 in
set_option maxRecDepth 100000 in
theorem k_X4_necessaryFor (l : Launch) (D : va_G) (cI cB : ClassId) (b : Nat) (qh : Nat) (qb : Nat) (hs : Nat → Int32) (bs : Nat → Int32) (n : Nat) (as_ : Int32) (a : Nat) (hn : n ≤ 24) (ha : a < 16) : Rd l yX4_necessaryFor wsX4_necessaryFor ({ frames := 4, cells := 0, slots := 0, locals := 91 }) D cI cB [.ref b, .int (nI a)] [(b, .inr (4, [.ref qh, .ref qb, .int (nI n), .int as_])), (qh, .inl (cI, 24, .inl hs)), (qb, .inl (cI, 24, .inl bs))] (.int (necF hs bs n a n)) := by
  refine pu_startI (cc := cX4_necessaryFor) (maxL := 4) (by decide) rfl (Nat.le_of_ble_eq_true rfl) ?_
  intro p e s m args below meth c Q hx hb hml hown hts hP hG hret ls hl
  have hown : s.vm.findClass RX4 = some m.cls := hown
  have hl : lv_has ls 4 [(0, .ref b), (1, .int (nI a))] := hl
  refine lv_iconst (v := nI 0) hx hb dX4_necessaryFor_0 (by decide) ?_
  refine lv_istore_n (lv' := [(2, .int (nI 0)), (0, .ref b), (1, .int (nI a))]) hx hb dX4_necessaryFor_1 rfl hl (by decide) rfl (fun ls hl => ?_)
  refine lv_iconst (v := nI 0) hx hb dX4_necessaryFor_2 (by decide) ?_
  refine lv_istore_n (lv' := [(3, .int (nI 0)), (2, .int (nI 0)), (0, .ref b), (1, .int (nI a))]) hx hb dX4_necessaryFor_3 rfl hl (by decide) rfl (fun ls hl => ?_)
  have lp_4_1 : ∀ (fu_4 : Nat) (r : Nat) (x2 : Int32) (hr : r ≤ n) (e2 : x2 = necF hs bs n a r) (hfu_4 : n - r < fu_4) (ls : Array Slot) (hl : lv_has ls 4 [(0, .ref b), (1, .int (nI a)), (2, .int x2), (3, .int (nI r))]), W p l e ({ frames := 4, cells := 0, slots := 0, locals := 91 }) s m args below meth c s.heap [] 0 0 Q (F0 m 4 ls []) := by
    intro fu_4
    induction fu_4 with
    | zero => intro r x2 hr e2 hfu; exact absurd hfu (Nat.not_lt_zero _)
    | succ fu_4 ih_4 =>
      intro r x2 hr e2 hfu_4 ls hl
      refine lv_iload_n hx hb dX4_necessaryFor_4 rfl (lv_at hl 3 rfl) ?_
      refine lv_aload_n hx hb dX4_necessaryFor_5 rfl (lv_at hl 0 rfl) ?_
      refine va_get (D := D) (ci := 4) (v := .int (nI n)) (C := RX4) (T := TX4) (N := 4) hx hb hts ilX4_necessaryFor_4 hown hG.1 hP 0 rfl rfl 2 (by decide) (hts (.fieldLink RX4 18 "HornEngine$Rulebook" "count" "I") (List.mem_of_getElem? (i := 1) rfl)) (fun _ h9 => h9) rfl dX4_necessaryFor_6 ?_
      refine lv_icmp_ge (tgt := 36) hx hb dX4_necessaryFor_9 (by decide) (fun c_2 => ?_) (fun c_2 => ?_)
      · skip
        have c_2 : n ≤ r := (nI_leI (by omega) (by omega)).mp (show nI n ≤ nI r from c_2)
        refine lv_iload_n hx hb dX4_necessaryFor_36 rfl (lv_at hl 2 rfl) ?_
        exact hret _ _ _ (by rw [e2, show r = n from by omega]) dX4_necessaryFor_37
      · skip
        have c_2 : ¬ (n ≤ r) := fun h9 => (show ¬ (nI n ≤ nI r) from c_2) ((nI_leI (by omega) (by omega)).mpr h9)
        refine lv_aload_n hx hb dX4_necessaryFor_12 rfl (lv_at hl 0 rfl) ?_
        refine lv_iload_n hx hb dX4_necessaryFor_13 rfl (lv_at hl 3 rfl) ?_
        refine pu_V (As := [.int (nI r)]) (rest := []) ⟨hx, hb, hml, hown, hts⟩ hG hP (k_X4_modelWithout l D cI cB b qh qb hs bs n as_ r (by omega) (by omega)) (cwV 1 hts gX4_necessaryFor_X4_modelWithout rfl rfl rfl (by decide +kernel) ⟨(Nat.le_of_ble_eq_true rfl), (Nat.le_of_ble_eq_true rfl)⟩) [0, 1, 2] rfl 0 rfl rfl rfl rfl hl.1 rfl (Nat.le_of_ble_eq_true rfl) dX4_necessaryFor_14 ⟨Nat.zero_le _, Nat.zero_le _⟩ ?_
        refine lv_iload_n hx hb dX4_necessaryFor_17 rfl (lv_at hl 1 rfl) ?_
        refine pu_SN (As := [.int (clo hs bs n (less (evr n) r) (nI 0)), .int (nI a)]) (rest := []) ⟨hx, hb, hml, hown, hts⟩ hG hP (k_X5_contains l D cI cB (clo hs bs n (less (evr n) r) (nI 0)) (nI a) ) (va_cnB 2 hts gX4_necessaryFor_X5_contains_n44 rfl rfl rfl (hG.2 _ (List.mem_of_getElem? (i := 5) rfl)) (hts (.initialized RX5) (List.mem_of_getElem? (i := 22) rfl)) (by decide +kernel) ⟨(Nat.le_of_ble_eq_true rfl), (Nat.le_of_ble_eq_true rfl)⟩) (hts (.static yX5_contains) (List.mem_of_getElem? (i := 21) rfl)) [] rfl rfl hl.1 rfl (Nat.le_of_ble_eq_true rfl) dX4_necessaryFor_18 ⟨Nat.zero_le _, Nat.zero_le _⟩ ?_
        refine lv_if_ne (tgt := 30) hx hb dX4_necessaryFor_21 (by decide) (fun c_3 => ?_) (fun c_3 => ?_)
        · skip
          have c_3 : (has (clo hs bs n (less (evr n) r) (nI 0)) (nI a)) = true := bI_t.mp c_3
          refine lv_iinc (v := nI (r + 1)) (lv' := [(3, .int (nI (r + 1))), (0, .ref b), (1, .int (nI a)), (2, .int x2)]) hx hb dX4_necessaryFor_30 hl (k := 3) rfl (nI_s1 r) (by decide) rfl (fun ls hl => ?_)
          refine lv_goto (tgt := 4) hx hb dX4_necessaryFor_33 (by decide) ?_
          exact ih_4 (r + 1) x2 (by omega) (by subst e2; simp only [necF, decide_true, decide_false, reduceIte, Bool.false_eq_true, not_true_eq_false, not_false_eq_true, and_self, and_true, true_and, and_false, false_and, c_3]) (by omega) ls (lv_sub hl [1, 2, 3, 0] rfl)
        · skip
          have c_3 : (has (clo hs bs n (less (evr n) r) (nI 0)) (nI a)) = false := bI_f.mp c_3
          refine lv_iload_n hx hb dX4_necessaryFor_24 rfl (lv_at hl 2 rfl) ?_
          refine lv_iconst (v := nI 1) hx hb dX4_necessaryFor_25 (by decide) ?_
          refine lv_iload_n hx hb dX4_necessaryFor_26 rfl (lv_at hl 3 rfl) ?_
          refine lv_ishl hx hb dX4_necessaryFor_27 ?_
          refine lv_ior hx hb dX4_necessaryFor_28 ?_
          refine lv_istore_n (lv' := [(2, .int (x2 ||| ((nI 1) <<< ((nI r) &&& 31)))), (0, .ref b), (1, .int (nI a)), (3, .int (nI r))]) hx hb dX4_necessaryFor_29 rfl hl (by decide) rfl (fun ls hl => ?_)
          refine lv_iinc (v := nI (r + 1)) (lv' := [(3, .int (nI (r + 1))), (2, .int (x2 ||| ((nI 1) <<< ((nI r) &&& 31)))), (0, .ref b), (1, .int (nI a))]) hx hb dX4_necessaryFor_30 hl (k := 3) rfl (nI_s1 r) (by decide) rfl (fun ls hl => ?_)
          refine lv_goto (tgt := 4) hx hb dX4_necessaryFor_33 (by decide) ?_
          exact ih_4 (r + 1) (x2 ||| ((nI 1) <<< ((nI r) &&& 31))) (by omega) (by subst e2; simp only [necF, decide_true, decide_false, reduceIte, Bool.false_eq_true, not_true_eq_false, not_false_eq_true, and_self, and_true, true_and, and_false, false_and, c_3]) (by omega) ls (lv_sub hl [2, 3, 1, 0] rfl)
  exact lp_4_1 (n - 0 + 1) 0 (nI 0) (by omega) rfl (Nat.lt_succ_self _) ls (lv_sub hl [2, 3, 1, 0] rfl)
set_option maxHeartbeats 4000000 in
set_option maxRecDepth 100000 in
theorem k_X4_bodiesUnder (l : Launch) (D : va_G) (cI cB : ClassId) (b : Nat) (qh : Nat) (qb : Nat) (hs : Nat → Int32) (bs : Nat → Int32) (n : Nat) (as_ : Int32) (X : Int32) (hn : n ≤ 24) : Rd l yX4_bodiesUnder wsX4_bodiesUnder ({ frames := 1, cells := 0, slots := 0, locals := 21 }) D cI cB [.ref b, .int X] [(b, .inr (4, [.ref qh, .ref qb, .int (nI n), .int as_])), (qh, .inl (cI, 24, .inl hs)), (qb, .inl (cI, 24, .inl bs))] (.int (bunF hs bs X n)) := by
  refine pu_startI (cc := cX4_bodiesUnder) (maxL := 4) (by decide) rfl (Nat.le_of_ble_eq_true rfl) ?_
  intro p e s m args below meth c Q hx hb hml hown hts hP hG hret ls hl
  have hown : s.vm.findClass RX4 = some m.cls := hown
  have hl : lv_has ls 4 [(0, .ref b), (1, .int X)] := hl
  refine lv_iconst (v := nI 0) hx hb dX4_bodiesUnder_0 (by decide) ?_
  refine lv_istore_n (lv' := [(2, .int (nI 0)), (0, .ref b), (1, .int X)]) hx hb dX4_bodiesUnder_1 rfl hl (by decide) rfl (fun ls hl => ?_)
  refine lv_iconst (v := nI 0) hx hb dX4_bodiesUnder_2 (by decide) ?_
  refine lv_istore_n (lv' := [(3, .int (nI 0)), (2, .int (nI 0)), (0, .ref b), (1, .int X)]) hx hb dX4_bodiesUnder_3 rfl hl (by decide) rfl (fun ls hl => ?_)
  have lp_4_1 : ∀ (fu_4 : Nat) (r : Nat) (x2 : Int32) (hr : r ≤ n) (e2 : x2 = bunF hs bs X r) (hfu_4 : n - r < fu_4) (ls : Array Slot) (hl : lv_has ls 4 [(0, .ref b), (1, .int X), (2, .int x2), (3, .int (nI r))]), W p l e ({ frames := 1, cells := 0, slots := 0, locals := 21 }) s m args below meth c s.heap [] 0 0 Q (F0 m 4 ls []) := by
    intro fu_4
    induction fu_4 with
    | zero => intro r x2 hr e2 hfu; exact absurd hfu (Nat.not_lt_zero _)
    | succ fu_4 ih_4 =>
      intro r x2 hr e2 hfu_4 ls hl
      refine lv_iload_n hx hb dX4_bodiesUnder_4 rfl (lv_at hl 3 rfl) ?_
      refine lv_aload_n hx hb dX4_bodiesUnder_5 rfl (lv_at hl 0 rfl) ?_
      refine va_get (D := D) (ci := 4) (v := .int (nI n)) (C := RX4) (T := TX4) (N := 4) hx hb hts ilX4_bodiesUnder_4 hown hG.1 hP 0 rfl rfl 2 (by decide) (hts (.fieldLink RX4 18 "HornEngine$Rulebook" "count" "I") (List.mem_of_getElem? (i := 1) rfl)) (fun _ h9 => h9) rfl dX4_bodiesUnder_6 ?_
      refine lv_icmp_ge (tgt := 40) hx hb dX4_bodiesUnder_9 (by decide) (fun c_2 => ?_) (fun c_2 => ?_)
      · skip
        have c_2 : n ≤ r := (nI_leI (by omega) (by omega)).mp (show nI n ≤ nI r from c_2)
        refine lv_iload_n hx hb dX4_bodiesUnder_40 rfl (lv_at hl 2 rfl) ?_
        exact hret _ _ _ (by rw [e2, show r = n from by omega]) dX4_bodiesUnder_41
      · skip
        have c_2 : ¬ (n ≤ r) := fun h9 => (show ¬ (nI n ≤ nI r) from c_2) ((nI_leI (by omega) (by omega)).mpr h9)
        refine lv_iload_n hx hb dX4_bodiesUnder_12 rfl (lv_at hl 1 rfl) ?_
        refine lv_aload_n hx hb dX4_bodiesUnder_13 rfl (lv_at hl 0 rfl) ?_
        refine va_get (D := D) (ci := 4) (v := .ref qh) (C := RX4) (T := TX4) (N := 4) hx hb hts ilX4_bodiesUnder_4 hown hG.1 hP 0 rfl rfl 0 (by decide) (hts (.fieldLink RX4 9 "HornEngine$Rulebook" "heads" "[I") (List.mem_of_getElem? (i := 2) rfl)) (fun _ h9 => h9) rfl dX4_bodiesUnder_14 ?_
        refine lv_iload_n hx hb dX4_bodiesUnder_17 rfl (lv_at hl 3 rfl) ?_
        refine ia_ld hx hb hG hP 1 rfl r rfl (by omega) (by decide) dX4_bodiesUnder_18 ?_
        refine pu_SN (As := [.int X, .int (hs r)]) (rest := []) ⟨hx, hb, hml, hown, hts⟩ hG hP (k_X5_contains l D cI cB X (hs r) ) (va_cnB 2 hts gX4_bodiesUnder_X5_contains_n44 rfl rfl rfl (hG.2 _ (List.mem_of_getElem? (i := 5) rfl)) (hts (.initialized RX5) (List.mem_of_getElem? (i := 5) rfl)) (by decide +kernel) ⟨(Nat.le_of_ble_eq_true rfl), (Nat.le_of_ble_eq_true rfl)⟩) (hts (.static yX5_contains) (List.mem_of_getElem? (i := 4) rfl)) [] rfl rfl hl.1 rfl (Nat.le_of_ble_eq_true rfl) dX4_bodiesUnder_19 ⟨Nat.zero_le _, Nat.zero_le _⟩ ?_
        refine lv_if_eq (tgt := 34) hx hb dX4_bodiesUnder_22 (by decide) (fun c_3 => ?_) (fun c_3 => ?_)
        · skip
          have c_3 : (has X (hs r)) = false := bI_f.mp c_3
          refine lv_iinc (v := nI (r + 1)) (lv' := [(3, .int (nI (r + 1))), (0, .ref b), (1, .int X), (2, .int x2)]) hx hb dX4_bodiesUnder_34 hl (k := 3) rfl (nI_s1 r) (by decide) rfl (fun ls hl => ?_)
          refine lv_goto (tgt := 4) hx hb dX4_bodiesUnder_37 (by decide) ?_
          exact ih_4 (r + 1) x2 (by omega) (by subst e2; simp only [bunF, decide_true, decide_false, reduceIte, Bool.false_eq_true, not_true_eq_false, not_false_eq_true, and_self, and_true, true_and, and_false, false_and, c_3]) (by omega) ls (lv_sub hl [1, 2, 3, 0] rfl)
        · skip
          have c_3 : (has X (hs r)) = true := bI_t.mp c_3
          refine lv_iload_n hx hb dX4_bodiesUnder_25 rfl (lv_at hl 2 rfl) ?_
          refine lv_aload_n hx hb dX4_bodiesUnder_26 rfl (lv_at hl 0 rfl) ?_
          refine va_get (D := D) (ci := 4) (v := .ref qb) (C := RX4) (T := TX4) (N := 4) hx hb hts ilX4_bodiesUnder_4 hown hG.1 hP 0 rfl rfl 1 (by decide) (hts (.fieldLink RX4 15 "HornEngine$Rulebook" "bodies" "[I") (List.mem_of_getElem? (i := 3) rfl)) (fun _ h9 => h9) rfl dX4_bodiesUnder_27 ?_
          refine lv_iload_n hx hb dX4_bodiesUnder_30 rfl (lv_at hl 3 rfl) ?_
          refine ia_ld hx hb hG hP 2 rfl r rfl (by omega) (by decide) dX4_bodiesUnder_31 ?_
          refine lv_ior hx hb dX4_bodiesUnder_32 ?_
          refine lv_istore_n (lv' := [(2, .int (x2 ||| (bs r))), (0, .ref b), (1, .int X), (3, .int (nI r))]) hx hb dX4_bodiesUnder_33 rfl hl (by decide) rfl (fun ls hl => ?_)
          refine lv_iinc (v := nI (r + 1)) (lv' := [(3, .int (nI (r + 1))), (2, .int (x2 ||| (bs r))), (0, .ref b), (1, .int X)]) hx hb dX4_bodiesUnder_34 hl (k := 3) rfl (nI_s1 r) (by decide) rfl (fun ls hl => ?_)
          refine lv_goto (tgt := 4) hx hb dX4_bodiesUnder_37 (by decide) ?_
          exact ih_4 (r + 1) (x2 ||| (bs r)) (by omega) (by subst e2; simp only [bunF, decide_true, decide_false, reduceIte, Bool.false_eq_true, not_true_eq_false, not_false_eq_true, and_self, and_true, true_and, and_false, false_and, c_3]) (by omega) ls (lv_sub hl [2, 3, 1, 0] rfl)
  exact lp_4_1 (n - 0 + 1) 0 (nI 0) (by omega) rfl (Nat.lt_succ_self _) ls (lv_sub hl [2, 3, 1, 0] rfl)
set_option maxHeartbeats 4000000 in
set_option maxRecDepth 100000 in
theorem k_X4_dependenciesOf (l : Launch) (D : va_G) (cI cB : ClassId) (b : Nat) (qh : Nat) (qb : Nat) (hs : Nat → Int32) (bs : Nat → Int32) (n : Nat) (as_ : Int32) (a : Nat) (hn : n ≤ 24) (ha : a < 16) : Rd l yX4_dependenciesOf wsX4_dependenciesOf ({ frames := 2, cells := 0, slots := 0, locals := 44 }) D cI cB [.ref b, .int (nI a)] [(b, .inr (4, [.ref qh, .ref qb, .int (nI n), .int as_])), (qh, .inl (cI, 24, .inl hs)), (qb, .inl (cI, 24, .inl bs))] (.int (depS hs bs n a)) := by
  refine pu_startI (cc := cX4_dependenciesOf) (maxL := 4) (by decide) rfl (Nat.le_of_ble_eq_true rfl) ?_
  intro p e s m args below meth c Q hx hb hml hown hts hP hG hret ls hl
  have hown : s.vm.findClass RX4 = some m.cls := hown
  have hl : lv_has ls 4 [(0, .ref b), (1, .int (nI a))] := hl
  refine lv_aload_n hx hb dX4_dependenciesOf_0 rfl (lv_at hl 0 rfl) ?_
  refine lv_iconst (v := nI 1) hx hb dX4_dependenciesOf_1 (by decide) ?_
  refine lv_iload_n hx hb dX4_dependenciesOf_2 rfl (lv_at hl 1 rfl) ?_
  refine lv_ishl hx hb dX4_dependenciesOf_3 ?_
  refine pu_V (As := [.int ((nI 1) <<< ((nI a) &&& 31))]) (rest := []) ⟨hx, hb, hml, hown, hts⟩ hG hP (k_X4_bodiesUnder l D cI cB b qh qb hs bs n as_ ((nI 1) <<< ((nI a) &&& 31)) (by omega)) (cwV 1 hts gX4_dependenciesOf_X4_bodiesUnder rfl rfl rfl (by decide +kernel) ⟨(Nat.le_of_ble_eq_true rfl), (Nat.le_of_ble_eq_true rfl)⟩) [0, 1, 2] rfl 0 rfl rfl rfl rfl hl.1 rfl (Nat.le_of_ble_eq_true rfl) dX4_dependenciesOf_4 ⟨Nat.zero_le _, Nat.zero_le _⟩ ?_
  refine lv_istore_n (lv' := [(2, .int (bunF hs bs ((nI 1) <<< ((nI a) &&& 31)) n)), (0, .ref b), (1, .int (nI a))]) hx hb dX4_dependenciesOf_7 rfl hl (by decide) rfl (fun ls hl => ?_)
  refine lv_iconst (v := nI 0) hx hb dX4_dependenciesOf_8 (by decide) ?_
  refine lv_istore_n (lv' := [(3, .int (nI 0)), (2, .int (bunF hs bs ((nI 1) <<< ((nI a) &&& 31)) n)), (0, .ref b), (1, .int (nI a))]) hx hb dX4_dependenciesOf_9 rfl hl (by decide) rfl (fun ls hl => ?_)
  have lp_10_1 : ∀ (fu_10 : Nat) (k : Nat) (x2 : Int32) (hk : k ≤ 16) (e2 : x2 = pw (fun x => x ||| bunF hs bs x n) k (bunF hs bs (nI 1 <<< (nI a &&& 31)) n)) (hfu_10 : 16 - k < fu_10) (ls : Array Slot) (hl : lv_has ls 4 [(0, .ref b), (1, .int (nI a)), (2, .int x2), (3, .int (nI k))]), W p l e ({ frames := 2, cells := 0, slots := 0, locals := 44 }) s m args below meth c s.heap [] 0 0 Q (F0 m 10 ls []) := by
    intro fu_10
    induction fu_10 with
    | zero => intro k x2 hk e2 hfu; exact absurd hfu (Nat.not_lt_zero _)
    | succ fu_10 ih_10 =>
      intro k x2 hk e2 hfu_10 ls hl
      refine lv_iload_n hx hb dX4_dependenciesOf_10 rfl (lv_at hl 3 rfl) ?_
      refine lv_bipush (v := nI 16) hx hb dX4_dependenciesOf_11 (by decide) ?_
      refine lv_icmp_ge (tgt := 30) hx hb dX4_dependenciesOf_13 (by decide) (fun c_2 => ?_) (fun c_2 => ?_)
      · skip
        have c_2 : 16 ≤ k := (nI_leI (by omega) (by omega)).mp (show nI 16 ≤ nI k from c_2)
        refine lv_iload_n hx hb dX4_dependenciesOf_30 rfl (lv_at hl 2 rfl) ?_
        exact hret _ _ _ (by rw [e2, show k = 16 from by omega]; rfl) dX4_dependenciesOf_31
      · skip
        have c_2 : ¬ (16 ≤ k) := fun h9 => (show ¬ (nI 16 ≤ nI k) from c_2) ((nI_leI (by omega) (by omega)).mpr h9)
        refine lv_iload_n hx hb dX4_dependenciesOf_16 rfl (lv_at hl 2 rfl) ?_
        refine lv_aload_n hx hb dX4_dependenciesOf_17 rfl (lv_at hl 0 rfl) ?_
        refine lv_iload_n hx hb dX4_dependenciesOf_18 rfl (lv_at hl 2 rfl) ?_
        refine pu_V (As := [.int x2]) (rest := [.int x2]) ⟨hx, hb, hml, hown, hts⟩ hG hP (k_X4_bodiesUnder l D cI cB b qh qb hs bs n as_ x2 (by omega)) (cwV 1 hts gX4_dependenciesOf_X4_bodiesUnder rfl rfl rfl (by decide +kernel) ⟨(Nat.le_of_ble_eq_true rfl), (Nat.le_of_ble_eq_true rfl)⟩) [0, 1, 2] rfl 0 rfl rfl rfl rfl hl.1 rfl (Nat.le_of_ble_eq_true rfl) dX4_dependenciesOf_19 ⟨Nat.zero_le _, Nat.zero_le _⟩ ?_
        refine lv_ior hx hb dX4_dependenciesOf_22 ?_
        refine lv_istore_n (lv' := [(2, .int (x2 ||| (bunF hs bs x2 n))), (0, .ref b), (1, .int (nI a)), (3, .int (nI k))]) hx hb dX4_dependenciesOf_23 rfl hl (by decide) rfl (fun ls hl => ?_)
        refine lv_iinc (v := nI (k + 1)) (lv' := [(3, .int (nI (k + 1))), (2, .int (x2 ||| (bunF hs bs x2 n))), (0, .ref b), (1, .int (nI a))]) hx hb dX4_dependenciesOf_24 hl (k := 3) rfl (nI_s1 k) (by decide) rfl (fun ls hl => ?_)
        refine lv_goto (tgt := 10) hx hb dX4_dependenciesOf_27 (by decide) ?_
        exact ih_10 (k + 1) (x2 ||| (bunF hs bs x2 n)) (by omega) (by subst e2; rfl) (by omega) ls (lv_sub hl [2, 3, 1, 0] rfl)
  exact lp_10_1 (16 - 0 + 1) 0 (bunF hs bs ((nI 1) <<< ((nI a) &&& 31)) n) (by omega) rfl (Nat.lt_succ_self _) ls (lv_sub hl [2, 3, 1, 0] rfl)
set_option maxHeartbeats 4000000 in
set_option maxRecDepth 100000 in
theorem k_X4_atomsOnCycles (l : Launch) (D : va_G) (cI cB : ClassId) (b : Nat) (qh : Nat) (qb : Nat) (hs : Nat → Int32) (bs : Nat → Int32) (n : Nat) (as_ : Int32) (hn : n ≤ 24) : Rd l yX4_atomsOnCycles wsX4_atomsOnCycles ({ frames := 3, cells := 0, slots := 0, locals := 67 }) D cI cB [.ref b] [(b, .inr (4, [.ref qh, .ref qb, .int (nI n), .int as_])), (qh, .inl (cI, 24, .inl hs)), (qb, .inl (cI, 24, .inl bs))] (.int (cycF hs bs n 16)) := by
  refine pu_startI (cc := cX4_atomsOnCycles) (maxL := 3) (by decide) rfl (Nat.le_of_ble_eq_true rfl) ?_
  intro p e s m args below meth c Q hx hb hml hown hts hP hG hret ls hl
  have hown : s.vm.findClass RX4 = some m.cls := hown
  have hl : lv_has ls 3 [(0, .ref b)] := hl
  refine lv_iconst (v := nI 0) hx hb dX4_atomsOnCycles_0 (by decide) ?_
  refine lv_istore_n (lv' := [(1, .int (nI 0)), (0, .ref b)]) hx hb dX4_atomsOnCycles_1 rfl hl (by decide) rfl (fun ls hl => ?_)
  refine lv_iconst (v := nI 0) hx hb dX4_atomsOnCycles_2 (by decide) ?_
  refine lv_istore_n (lv' := [(2, .int (nI 0)), (1, .int (nI 0)), (0, .ref b)]) hx hb dX4_atomsOnCycles_3 rfl hl (by decide) rfl (fun ls hl => ?_)
  have lp_4_1 : ∀ (fu_4 : Nat) (k : Nat) (x1 : Int32) (hk : k ≤ 16) (e1 : x1 = cycF hs bs n k) (hfu_4 : 16 - k < fu_4) (ls : Array Slot) (hl : lv_has ls 3 [(0, .ref b), (1, .int x1), (2, .int (nI k))]), W p l e ({ frames := 3, cells := 0, slots := 0, locals := 67 }) s m args below meth c s.heap [] 0 0 Q (F0 m 4 ls []) := by
    intro fu_4
    induction fu_4 with
    | zero => intro k x1 hk e1 hfu; exact absurd hfu (Nat.not_lt_zero _)
    | succ fu_4 ih_4 =>
      intro k x1 hk e1 hfu_4 ls hl
      refine lv_iload_n hx hb dX4_atomsOnCycles_4 rfl (lv_at hl 2 rfl) ?_
      refine lv_bipush (v := nI 16) hx hb dX4_atomsOnCycles_5 (by decide) ?_
      refine lv_icmp_ge (tgt := 28) hx hb dX4_atomsOnCycles_7 (by decide) (fun c_2 => ?_) (fun c_2 => ?_)
      · skip
        have c_2 : 16 ≤ k := (nI_leI (by omega) (by omega)).mp (show nI 16 ≤ nI k from c_2)
        refine lv_iload_n hx hb dX4_atomsOnCycles_28 rfl (lv_at hl 1 rfl) ?_
        exact hret _ _ _ (by rw [e1, show k = 16 from by omega]) dX4_atomsOnCycles_29
      · skip
        have c_2 : ¬ (16 ≤ k) := fun h9 => (show ¬ (nI 16 ≤ nI k) from c_2) ((nI_leI (by omega) (by omega)).mpr h9)
        refine lv_iload_n hx hb dX4_atomsOnCycles_10 rfl (lv_at hl 1 rfl) ?_
        refine lv_aload_n hx hb dX4_atomsOnCycles_11 rfl (lv_at hl 0 rfl) ?_
        refine lv_iload_n hx hb dX4_atomsOnCycles_12 rfl (lv_at hl 2 rfl) ?_
        refine pu_V (As := [.int (nI k)]) (rest := [.int x1]) ⟨hx, hb, hml, hown, hts⟩ hG hP (k_X4_dependenciesOf l D cI cB b qh qb hs bs n as_ k (by omega) (by omega)) (cwV 1 hts gX4_atomsOnCycles_X4_dependenciesOf rfl rfl rfl (by decide +kernel) ⟨(Nat.le_of_ble_eq_true rfl), (Nat.le_of_ble_eq_true rfl)⟩) [0, 1, 2] rfl 0 rfl rfl rfl rfl hl.1 rfl (Nat.le_of_ble_eq_true rfl) dX4_atomsOnCycles_13 ⟨Nat.zero_le _, Nat.zero_le _⟩ ?_
        refine lv_iconst (v := nI 1) hx hb dX4_atomsOnCycles_16 (by decide) ?_
        refine lv_iload_n hx hb dX4_atomsOnCycles_17 rfl (lv_at hl 2 rfl) ?_
        refine lv_ishl hx hb dX4_atomsOnCycles_18 ?_
        refine lv_iand hx hb dX4_atomsOnCycles_19 ?_
        refine lv_ior hx hb dX4_atomsOnCycles_20 ?_
        refine lv_istore_n (lv' := [(1, .int (x1 ||| ((depS hs bs n k) &&& ((nI 1) <<< ((nI k) &&& 31))))), (0, .ref b), (2, .int (nI k))]) hx hb dX4_atomsOnCycles_21 rfl hl (by decide) rfl (fun ls hl => ?_)
        refine lv_iinc (v := nI (k + 1)) (lv' := [(2, .int (nI (k + 1))), (1, .int (x1 ||| ((depS hs bs n k) &&& ((nI 1) <<< ((nI k) &&& 31))))), (0, .ref b)]) hx hb dX4_atomsOnCycles_22 hl (k := 2) rfl (nI_s1 k) (by decide) rfl (fun ls hl => ?_)
        refine lv_goto (tgt := 4) hx hb dX4_atomsOnCycles_25 (by decide) ?_
        exact ih_4 (k + 1) (x1 ||| ((depS hs bs n k) &&& ((nI 1) <<< ((nI k) &&& 31)))) (by omega) (by subst e1; rfl) (by omega) ls (lv_sub hl [2, 1, 0] rfl)
  exact lp_4_1 (16 - 0 + 1) 0 (nI 0) (by omega) rfl (Nat.lt_succ_self _) ls (lv_sub hl [2, 1, 0] rfl)
set_option maxHeartbeats 4000000 in
set_option maxRecDepth 100000 in
theorem k_X4_overDeletedBy (l : Launch) (D : va_G) (cI cB : ClassId) (b : Nat) (qh : Nat) (qb : Nat) (hs : Nat → Int32) (bs : Nat → Int32) (n : Nat) (as_ : Int32) (d : Nat) (hn : n ≤ 24) (hd : d < n) : Rd l yX4_overDeletedBy wsX4_overDeletedBy ({ frames := 4, cells := 0, slots := 0, locals := 90 }) D cI cB [.ref b, .int (nI d)] [(b, .inr (4, [.ref qh, .ref qb, .int (nI n), .int as_])), (qh, .inl (cI, 24, .inl hs)), (qb, .inl (cI, 24, .inl bs))] (.int (ovd hs bs n d)) := by
  refine pu_startI (cc := cX4_overDeletedBy) (maxL := 6) (by decide) rfl (Nat.le_of_ble_eq_true rfl) ?_
  intro p e s m args below meth c Q hx hb hml hown hts hP hG hret ls hl
  have hown : s.vm.findClass RX4 = some m.cls := hown
  have hl : lv_has ls 6 [(0, .ref b), (1, .int (nI d))] := hl
  refine lv_aload_n hx hb dX4_overDeletedBy_0 rfl (lv_at hl 0 rfl) ?_
  refine pu_V (As := []) (rest := []) ⟨hx, hb, hml, hown, hts⟩ hG hP (k_X4_leastModel l D cI cB b qh qb hs bs n as_ (by omega)) (cwV 0 hts gX4_overDeletedBy_X4_leastModel rfl rfl rfl (by decide +kernel) ⟨(Nat.le_of_ble_eq_true rfl), (Nat.le_of_ble_eq_true rfl)⟩) [0, 1, 2] rfl 0 rfl rfl rfl rfl hl.1 rfl (Nat.le_of_ble_eq_true rfl) dX4_overDeletedBy_1 ⟨Nat.zero_le _, Nat.zero_le _⟩ ?_
  refine lv_istore_n (lv' := [(2, .int (mdl hs bs n)), (0, .ref b), (1, .int (nI d))]) hx hb dX4_overDeletedBy_4 rfl hl (by decide) rfl (fun ls hl => ?_)
  refine lv_aload_n hx hb dX4_overDeletedBy_5 rfl (lv_at hl 1 rfl) ?_
  refine lv_iload_n hx hb dX4_overDeletedBy_6 rfl (lv_at hl 2 rfl) ?_
  refine pu_V (As := [.int (nI d)]) (rest := []) ⟨hx, hb, hml, hown, hts⟩ hG hP (k_X4_hasRule l D cI cB b qh qb hs bs n as_ (nI d) (by omega)) (cwV 1 hts gX4_overDeletedBy_X4_hasRule rfl rfl rfl (by decide +kernel) ⟨(Nat.le_of_ble_eq_true rfl), (Nat.le_of_ble_eq_true rfl)⟩) [0, 1, 2] rfl 0 rfl rfl rfl rfl hl.1 rfl (Nat.le_of_ble_eq_true rfl) dX4_overDeletedBy_7 ⟨Nat.zero_le _, Nat.zero_le _⟩ ?_
  refine lv_if_eq (tgt := 26) hx hb dX4_overDeletedBy_10 (by decide) (fun c_1 => ?_) (fun c_1 => ?_)
  · skip
    have c_1 : (hasR (nI d) n) = false := bI_f.mp c_1
    exact absurd (hasR_of hd (by omega)) (by rw [c_1]; decide)
  · skip
    have c_1 : (hasR (nI d) n) = true := bI_t.mp c_1
    refine lv_aload_n hx hb dX4_overDeletedBy_13 rfl (lv_at hl 1 rfl) ?_
    refine va_get (D := D) (ci := 4) (v := .ref qb) (C := RX4) (T := TX4) (N := 4) hx hb hts ilX4_overDeletedBy_4 hown hG.1 hP 0 rfl rfl 1 (by decide) (hts (.fieldLink RX4 15 "HornEngine$Rulebook" "bodies" "[I") (List.mem_of_getElem? (i := 1) rfl)) (fun _ h9 => h9) rfl dX4_overDeletedBy_14 ?_
    refine lv_iload_n hx hb dX4_overDeletedBy_17 rfl (lv_at hl 2 rfl) ?_
    refine ia_ld hx hb hG hP 2 rfl d rfl (by omega) (by decide) dX4_overDeletedBy_18 ?_
    refine lv_iload_n hx hb dX4_overDeletedBy_19 rfl (lv_at hl 0 rfl) ?_
    refine pu_SN (As := [.int (bs d), .int (mdl hs bs n)]) (rest := []) ⟨hx, hb, hml, hown, hts⟩ hG hP (k_X5_isSubset l D cI cB (bs d) (mdl hs bs n) ) (va_cnB 2 hts gX4_overDeletedBy_X5_isSubset_n51 rfl rfl rfl (hG.2 _ (List.mem_of_getElem? (i := 6) rfl)) (hts (.initialized RX5) (List.mem_of_getElem? (i := 22) rfl)) (by decide +kernel) ⟨(Nat.le_of_ble_eq_true rfl), (Nat.le_of_ble_eq_true rfl)⟩) (hts (.static yX5_isSubset) (List.mem_of_getElem? (i := 24) rfl)) [] rfl rfl hl.1 rfl (Nat.le_of_ble_eq_true rfl) dX4_overDeletedBy_20 ⟨Nat.zero_le _, Nat.zero_le _⟩ ?_
    refine lv_if_ne (tgt := 28) hx hb dX4_overDeletedBy_23 (by decide) (fun c_2 => ?_) (fun c_2 => ?_)
    · skip
      have c_2 : (sbs (bs d) (mdl hs bs n)) = true := bI_t.mp c_2
      have hsb : sbs (bs d) (mdl hs bs n) = true := c_2
      refine lv_iconst (v := nI 1) hx hb dX4_overDeletedBy_28 (by decide) ?_
      refine lv_aload_n hx hb dX4_overDeletedBy_29 rfl (lv_at hl 1 rfl) ?_
      refine va_get (D := D) (ci := 4) (v := .ref qh) (C := RX4) (T := TX4) (N := 4) hx hb hts ilX4_overDeletedBy_4 hown hG.1 hP 0 rfl rfl 0 (by decide) (hts (.fieldLink RX4 9 "HornEngine$Rulebook" "heads" "[I") (List.mem_of_getElem? (i := 2) rfl)) (fun _ h9 => h9) rfl dX4_overDeletedBy_30 ?_
      refine lv_iload_n hx hb dX4_overDeletedBy_33 rfl (lv_at hl 2 rfl) ?_
      refine ia_ld hx hb hG hP 1 rfl d rfl (by omega) (by decide) dX4_overDeletedBy_34 ?_
      refine lv_ishl hx hb dX4_overDeletedBy_35 ?_
      refine lv_istore_n (lv' := [(3, .int ((nI 1) <<< ((hs d) &&& 31))), (2, .int (mdl hs bs n)), (0, .ref b), (1, .int (nI d))]) hx hb dX4_overDeletedBy_36 rfl hl (by decide) rfl (fun ls hl => ?_)
      refine lv_iconst (v := nI 0) hx hb dX4_overDeletedBy_37 (by decide) ?_
      refine lv_istore (lv' := [(4, .int (nI 0)), (3, .int ((nI 1) <<< ((hs d) &&& 31))), (2, .int (mdl hs bs n)), (0, .ref b), (1, .int (nI d))]) hx hb dX4_overDeletedBy_38 hl (by decide) rfl (fun ls hl => ?_)
      have lp_40_3 : ∀ (fu_40 : Nat) (k : Nat) (x3 : Int32) (hk : k ≤ 16) (e3 : x3 = pw (fun x => ovdF hs bs (mdl hs bs n) d x n) k (nI 1 <<< (hs d &&& 31))) (hfu_40 : 16 - k < fu_40) (ls : Array Slot) (hl : lv_has ls 6 [(0, .ref b), (1, .int (nI d)), (2, .int (mdl hs bs n)), (3, .int x3), (4, .int (nI k))]), W p l e ({ frames := 4, cells := 0, slots := 0, locals := 90 }) s m args below meth c s.heap [] 0 0 Q (F0 m 40 ls []) := by
        intro fu_40
        induction fu_40 with
        | zero => intro k x3 hk e3 hfu; exact absurd hfu (Nat.not_lt_zero _)
        | succ fu_40 ih_40 =>
          intro k x3 hk e3 hfu_40 ls hl
          refine lv_iload hx hb dX4_overDeletedBy_40 (lv_at hl 4 rfl) ?_
          refine lv_bipush (v := nI 16) hx hb dX4_overDeletedBy_42 (by decide) ?_
          refine lv_icmp_ge (tgt := 115) hx hb dX4_overDeletedBy_44 (by decide) (fun c_4 => ?_) (fun c_4 => ?_)
          · skip
            have c_4 : 16 ≤ k := (nI_leI (by omega) (by omega)).mp (show nI 16 ≤ nI k from c_4)
            refine lv_iload_n hx hb dX4_overDeletedBy_115 rfl (lv_at hl 3 rfl) ?_
            exact hret _ _ _ (by unfold ovd; rw [if_pos hsb, e3, show k = 16 from by omega]) dX4_overDeletedBy_116
          · skip
            have c_4 : ¬ (16 ≤ k) := fun h9 => (show ¬ (nI 16 ≤ nI k) from c_4) ((nI_leI (by omega) (by omega)).mpr h9)
            refine lv_iconst (v := nI 0) hx hb dX4_overDeletedBy_47 (by decide) ?_
            refine lv_istore (lv' := [(5, .int (nI 0)), (0, .ref b), (1, .int (nI d)), (2, .int (mdl hs bs n)), (3, .int x3), (4, .int (nI k))]) hx hb dX4_overDeletedBy_48 hl (by decide) rfl (fun ls hl => ?_)
            have lp_50_5 : ∀ (fu_50 : Nat) (r : Nat) (x5 : Int32) (hr : r ≤ n) (e5 : x5 = ovdF hs bs (mdl hs bs n) d x3 r) (hfu_50 : n - r < fu_50) (ls : Array Slot) (hl : lv_has ls 6 [(0, .ref b), (1, .int (nI d)), (2, .int (mdl hs bs n)), (3, .int x5), (4, .int (nI k)), (5, .int (nI r))]), W p l e ({ frames := 4, cells := 0, slots := 0, locals := 90 }) s m args below meth c s.heap [] 0 0 Q (F0 m 50 ls []) := by
              intro fu_50
              induction fu_50 with
              | zero => intro r x5 hr e5 hfu; exact absurd hfu (Nat.not_lt_zero _)
              | succ fu_50 ih_50 =>
                intro r x5 hr e5 hfu_50 ls hl
                refine lv_iload hx hb dX4_overDeletedBy_50 (lv_at hl 5 rfl) ?_
                refine lv_aload_n hx hb dX4_overDeletedBy_52 rfl (lv_at hl 0 rfl) ?_
                refine va_get (D := D) (ci := 4) (v := .int (nI n)) (C := RX4) (T := TX4) (N := 4) hx hb hts ilX4_overDeletedBy_4 hown hG.1 hP 0 rfl rfl 2 (by decide) (hts (.fieldLink RX4 18 "HornEngine$Rulebook" "count" "I") (List.mem_of_getElem? (i := 3) rfl)) (fun _ h9 => h9) rfl dX4_overDeletedBy_53 ?_
                refine lv_icmp_ge (tgt := 109) hx hb dX4_overDeletedBy_56 (by decide) (fun c_6 => ?_) (fun c_6 => ?_)
                · skip
                  have c_6 : n ≤ r := (nI_leI (by omega) (by omega)).mp (show nI n ≤ nI r from c_6)
                  refine lv_iinc (v := nI (k + 1)) (lv' := [(4, .int (nI (k + 1))), (0, .ref b), (1, .int (nI d)), (2, .int (mdl hs bs n)), (3, .int x5), (5, .int (nI r))]) hx hb dX4_overDeletedBy_109 hl (k := 4) rfl (nI_s1 k) (by decide) rfl (fun ls hl => ?_)
                  refine lv_goto (tgt := 40) hx hb dX4_overDeletedBy_112 (by decide) ?_
                  exact ih_40 (k + 1) x5 (by omega) (by rw [e5, show r = n from by omega, e3]; rfl) (by omega) ls (lv_sub hl [1, 2, 3, 4, 0] rfl)
                · skip
                  have c_6 : ¬ (n ≤ r) := fun h9 => (show ¬ (nI n ≤ nI r) from c_6) ((nI_leI (by omega) (by omega)).mpr h9)
                  refine lv_iload hx hb dX4_overDeletedBy_59 (lv_at hl 5 rfl) ?_
                  refine lv_iload_n hx hb dX4_overDeletedBy_61 rfl (lv_at hl 1 rfl) ?_
                  refine lv_icmp_eq (tgt := 103) hx hb dX4_overDeletedBy_62 (by decide) (fun c_7 => ?_) (fun c_7 => ?_)
                  · skip
                    have c_7 : r = d := (nI_eq (by omega) (by omega)).mp (show nI r = nI d from c_7)
                    refine lv_iinc (v := nI (r + 1)) (lv' := [(5, .int (nI (r + 1))), (0, .ref b), (1, .int (nI d)), (2, .int (mdl hs bs n)), (3, .int x5), (4, .int (nI k))]) hx hb dX4_overDeletedBy_103 hl (k := 5) rfl (nI_s1 r) (by decide) rfl (fun ls hl => ?_)
                    refine lv_goto (tgt := 50) hx hb dX4_overDeletedBy_106 (by decide) ?_
                    exact ih_50 (r + 1) x5 (by omega) (by subst e5; simp only [ovdF, decide_true, decide_false, reduceIte, Bool.false_eq_true, not_true_eq_false, not_false_eq_true, and_self, and_true, true_and, and_false, false_and, c_6, c_7]) (by omega) ls (lv_sub hl [1, 2, 3, 4, 5, 0] rfl)
                  · skip
                    have c_7 : ¬ (r = d) := fun h9 => (show ¬ (nI r = nI d) from c_7) ((nI_eq (by omega) (by omega)).mpr h9)
                    refine lv_aload_n hx hb dX4_overDeletedBy_65 rfl (lv_at hl 0 rfl) ?_
                    refine va_get (D := D) (ci := 4) (v := .ref qb) (C := RX4) (T := TX4) (N := 4) hx hb hts ilX4_overDeletedBy_4 hown hG.1 hP 0 rfl rfl 1 (by decide) (hts (.fieldLink RX4 15 "HornEngine$Rulebook" "bodies" "[I") (List.mem_of_getElem? (i := 1) rfl)) (fun _ h9 => h9) rfl dX4_overDeletedBy_66 ?_
                    refine lv_iload hx hb dX4_overDeletedBy_69 (lv_at hl 5 rfl) ?_
                    refine ia_ld hx hb hG hP 2 rfl r rfl (by omega) (by decide) dX4_overDeletedBy_71 ?_
                    refine lv_iload_n hx hb dX4_overDeletedBy_72 rfl (lv_at hl 2 rfl) ?_
                    refine pu_SN (As := [.int (bs r), .int (mdl hs bs n)]) (rest := []) ⟨hx, hb, hml, hown, hts⟩ hG hP (k_X5_isSubset l D cI cB (bs r) (mdl hs bs n) ) (va_cnB 2 hts gX4_overDeletedBy_X5_isSubset_n51 rfl rfl rfl (hG.2 _ (List.mem_of_getElem? (i := 6) rfl)) (hts (.initialized RX5) (List.mem_of_getElem? (i := 22) rfl)) (by decide +kernel) ⟨(Nat.le_of_ble_eq_true rfl), (Nat.le_of_ble_eq_true rfl)⟩) (hts (.static yX5_isSubset) (List.mem_of_getElem? (i := 24) rfl)) [] rfl rfl hl.1 rfl (Nat.le_of_ble_eq_true rfl) dX4_overDeletedBy_73 ⟨Nat.zero_le _, Nat.zero_le _⟩ ?_
                    refine lv_if_eq (tgt := 103) hx hb dX4_overDeletedBy_76 (by decide) (fun c_8 => ?_) (fun c_8 => ?_)
                    · skip
                      have c_8 : (sbs (bs r) (mdl hs bs n)) = false := bI_f.mp c_8
                      refine lv_iinc (v := nI (r + 1)) (lv' := [(5, .int (nI (r + 1))), (0, .ref b), (1, .int (nI d)), (2, .int (mdl hs bs n)), (3, .int x5), (4, .int (nI k))]) hx hb dX4_overDeletedBy_103 hl (k := 5) rfl (nI_s1 r) (by decide) rfl (fun ls hl => ?_)
                      refine lv_goto (tgt := 50) hx hb dX4_overDeletedBy_106 (by decide) ?_
                      exact ih_50 (r + 1) x5 (by omega) (by subst e5; simp only [ovdF, decide_true, decide_false, reduceIte, Bool.false_eq_true, not_true_eq_false, not_false_eq_true, and_self, and_true, true_and, and_false, false_and, c_6, c_7, c_8]) (by omega) ls (lv_sub hl [1, 2, 3, 4, 5, 0] rfl)
                    · skip
                      have c_8 : (sbs (bs r) (mdl hs bs n)) = true := bI_t.mp c_8
                      refine lv_aload_n hx hb dX4_overDeletedBy_79 rfl (lv_at hl 0 rfl) ?_
                      refine va_get (D := D) (ci := 4) (v := .ref qb) (C := RX4) (T := TX4) (N := 4) hx hb hts ilX4_overDeletedBy_4 hown hG.1 hP 0 rfl rfl 1 (by decide) (hts (.fieldLink RX4 15 "HornEngine$Rulebook" "bodies" "[I") (List.mem_of_getElem? (i := 1) rfl)) (fun _ h9 => h9) rfl dX4_overDeletedBy_80 ?_
                      refine lv_iload hx hb dX4_overDeletedBy_83 (lv_at hl 5 rfl) ?_
                      refine ia_ld hx hb hG hP 2 rfl r rfl (by omega) (by decide) dX4_overDeletedBy_85 ?_
                      refine lv_iload_n hx hb dX4_overDeletedBy_86 rfl (lv_at hl 3 rfl) ?_
                      refine lv_iand hx hb dX4_overDeletedBy_87 ?_
                      refine lv_if_eq (tgt := 103) hx hb dX4_overDeletedBy_88 (by decide) (fun c_9 => ?_) (fun c_9 => ?_)
                      · skip
                        refine lv_iinc (v := nI (r + 1)) (lv' := [(5, .int (nI (r + 1))), (0, .ref b), (1, .int (nI d)), (2, .int (mdl hs bs n)), (3, .int x5), (4, .int (nI k))]) hx hb dX4_overDeletedBy_103 hl (k := 5) rfl (nI_s1 r) (by decide) rfl (fun ls hl => ?_)
                        refine lv_goto (tgt := 50) hx hb dX4_overDeletedBy_106 (by decide) ?_
                        exact ih_50 (r + 1) x5 (by omega) (by subst e5; simp only [ovdF, decide_true, decide_false, reduceIte, Bool.false_eq_true, not_true_eq_false, not_false_eq_true, and_self, and_true, true_and, and_false, false_and, c_6, c_7, c_8, c_9]) (by omega) ls (lv_sub hl [1, 2, 3, 4, 5, 0] rfl)
                      · skip
                        refine lv_iload_n hx hb dX4_overDeletedBy_91 rfl (lv_at hl 3 rfl) ?_
                        refine lv_iconst (v := nI 1) hx hb dX4_overDeletedBy_92 (by decide) ?_
                        refine lv_aload_n hx hb dX4_overDeletedBy_93 rfl (lv_at hl 0 rfl) ?_
                        refine va_get (D := D) (ci := 4) (v := .ref qh) (C := RX4) (T := TX4) (N := 4) hx hb hts ilX4_overDeletedBy_4 hown hG.1 hP 0 rfl rfl 0 (by decide) (hts (.fieldLink RX4 9 "HornEngine$Rulebook" "heads" "[I") (List.mem_of_getElem? (i := 2) rfl)) (fun _ h9 => h9) rfl dX4_overDeletedBy_94 ?_
                        refine lv_iload hx hb dX4_overDeletedBy_97 (lv_at hl 5 rfl) ?_
                        refine ia_ld hx hb hG hP 1 rfl r rfl (by omega) (by decide) dX4_overDeletedBy_99 ?_
                        refine lv_ishl hx hb dX4_overDeletedBy_100 ?_
                        refine lv_ior hx hb dX4_overDeletedBy_101 ?_
                        refine lv_istore_n (lv' := [(3, .int (x5 ||| ((nI 1) <<< ((hs r) &&& 31)))), (0, .ref b), (1, .int (nI d)), (2, .int (mdl hs bs n)), (4, .int (nI k)), (5, .int (nI r))]) hx hb dX4_overDeletedBy_102 rfl hl (by decide) rfl (fun ls hl => ?_)
                        refine lv_iinc (v := nI (r + 1)) (lv' := [(5, .int (nI (r + 1))), (3, .int (x5 ||| ((nI 1) <<< ((hs r) &&& 31)))), (0, .ref b), (1, .int (nI d)), (2, .int (mdl hs bs n)), (4, .int (nI k))]) hx hb dX4_overDeletedBy_103 hl (k := 5) rfl (nI_s1 r) (by decide) rfl (fun ls hl => ?_)
                        refine lv_goto (tgt := 50) hx hb dX4_overDeletedBy_106 (by decide) ?_
                        exact ih_50 (r + 1) (x5 ||| ((nI 1) <<< ((hs r) &&& 31))) (by omega) (by subst e5; simp only [ovdF, decide_true, decide_false, reduceIte, Bool.false_eq_true, not_true_eq_false, not_false_eq_true, and_self, and_true, true_and, and_false, false_and, c_6, c_7, c_8, c_9]) (by omega) ls (lv_sub hl [2, 3, 4, 1, 5, 0] rfl)
            exact lp_50_5 (n - 0 + 1) 0 x3 (by omega) rfl (Nat.lt_succ_self _) ls (lv_sub hl [1, 2, 3, 4, 5, 0] rfl)
      exact lp_40_3 (16 - 0 + 1) 0 ((nI 1) <<< ((hs d) &&& 31)) (by omega) rfl (Nat.lt_succ_self _) ls (lv_sub hl [3, 4, 2, 1, 0] rfl)
    · skip
      have c_2 : (sbs (bs d) (mdl hs bs n)) = false := bI_f.mp c_2
      refine lv_iconst (v := nI 0) hx hb dX4_overDeletedBy_26 (by decide) ?_
      exact hret _ _ _ (by unfold ovd; rw [if_neg (by rw [show sbs (bs d) (mdl hs bs n) = false from c_2]; decide)]) dX4_overDeletedBy_27
set_option maxHeartbeats 4000000 in
set_option maxRecDepth 100000 in
theorem k_X4_lostWithout (l : Launch) (D : va_G) (cI cB : ClassId) (b : Nat) (qh : Nat) (qb : Nat) (hs : Nat → Int32) (bs : Nat → Int32) (n : Nat) (as_ : Int32) (r : Nat) (hn : n ≤ 24) (hr : r < n) : Rd l yX4_lostWithout wsX4_lostWithout ({ frames := 4, cells := 0, slots := 0, locals := 91 }) D cI cB [.ref b, .int (nI r)] [(b, .inr (4, [.ref qh, .ref qb, .int (nI n), .int as_])), (qh, .inl (cI, 24, .inl hs)), (qb, .inl (cI, 24, .inl bs))] (.int (lst hs bs n r)) := by
  refine pu_startI (cc := cX4_lostWithout) (maxL := 2) (by decide) rfl (Nat.le_of_ble_eq_true rfl) ?_
  intro p e s m args below meth c Q hx hb hml hown hts hP hG hret ls hl
  have hown : s.vm.findClass RX4 = some m.cls := hown
  have hl : lv_has ls 2 [(0, .ref b), (1, .int (nI r))] := hl
  refine lv_aload_n hx hb dX4_lostWithout_0 rfl (lv_at hl 0 rfl) ?_
  refine pu_V (As := []) (rest := []) ⟨hx, hb, hml, hown, hts⟩ hG hP (k_X4_leastModel l D cI cB b qh qb hs bs n as_ (by omega)) (cwV 0 hts gX4_lostWithout_X4_leastModel rfl rfl rfl (by decide +kernel) ⟨(Nat.le_of_ble_eq_true rfl), (Nat.le_of_ble_eq_true rfl)⟩) [0, 1, 2] rfl 0 rfl rfl rfl rfl hl.1 rfl (Nat.le_of_ble_eq_true rfl) dX4_lostWithout_1 ⟨Nat.zero_le _, Nat.zero_le _⟩ ?_
  refine lv_aload_n hx hb dX4_lostWithout_4 rfl (lv_at hl 0 rfl) ?_
  refine lv_iload_n hx hb dX4_lostWithout_5 rfl (lv_at hl 1 rfl) ?_
  refine pu_V (As := [.int (nI r)]) (rest := [.int (mdl hs bs n)]) ⟨hx, hb, hml, hown, hts⟩ hG hP (k_X4_modelWithout l D cI cB b qh qb hs bs n as_ r (by omega) (by omega)) (cwV 1 hts gX4_lostWithout_X4_modelWithout rfl rfl rfl (by decide +kernel) ⟨(Nat.le_of_ble_eq_true rfl), (Nat.le_of_ble_eq_true rfl)⟩) [0, 1, 2] rfl 0 rfl rfl rfl rfl hl.1 rfl (Nat.le_of_ble_eq_true rfl) dX4_lostWithout_6 ⟨Nat.zero_le _, Nat.zero_le _⟩ ?_
  refine lv_iconst (v := (-1)) hx hb dX4_lostWithout_9 (by decide) ?_
  refine lv_ixor hx hb dX4_lostWithout_10 ?_
  refine lv_iand hx hb dX4_lostWithout_11 ?_
  exact hret _ _ _ rfl dX4_lostWithout_12
set_option maxHeartbeats 4000000 in
set_option maxRecDepth 100000 in
theorem k_X4_gainedWith (l : Launch) (D : va_G) (cI cB : ClassId) (b : Nat) (qh : Nat) (qb : Nat) (hs : Nat → Int32) (bs : Nat → Int32) (n : Nat) (as_ : Int32) (h : Int32) (y : Int32) (hn : n ≤ 24) : Rd l yX4_gainedWith wsX4_gainedWith ({ frames := 4, cells := 0, slots := 0, locals := 90 }) D cI cB [.ref b, .int h, .int y] [(b, .inr (4, [.ref qh, .ref qb, .int (nI n), .int as_])), (qh, .inl (cI, 24, .inl hs)), (qb, .inl (cI, 24, .inl bs))] (.int (gnd hs bs n h y)) := by
  refine pu_startI (cc := cX4_gainedWith) (maxL := 4) (by decide) rfl (Nat.le_of_ble_eq_true rfl) ?_
  intro p e s m args below meth c Q hx hb hml hown hts hP hG hret ls hl
  have hown : s.vm.findClass RX4 = some m.cls := hown
  have hl : lv_has ls 4 [(0, .ref b), (1, .int h), (2, .int y)] := hl
  refine lv_aload_n hx hb dX4_gainedWith_0 rfl (lv_at hl 0 rfl) ?_
  refine pu_V (As := []) (rest := []) ⟨hx, hb, hml, hown, hts⟩ hG hP (k_X4_leastModel l D cI cB b qh qb hs bs n as_ (by omega)) (cwV 0 hts gX4_gainedWith_X4_leastModel rfl rfl rfl (by decide +kernel) ⟨(Nat.le_of_ble_eq_true rfl), (Nat.le_of_ble_eq_true rfl)⟩) [0, 1, 2] rfl 0 rfl rfl rfl rfl hl.1 rfl (Nat.le_of_ble_eq_true rfl) dX4_gainedWith_1 ⟨Nat.zero_le _, Nat.zero_le _⟩ ?_
  refine lv_istore_n (lv' := [(3, .int (mdl hs bs n)), (0, .ref b), (1, .int h), (2, .int y)]) hx hb dX4_gainedWith_4 rfl hl (by decide) rfl (fun ls hl => ?_)
  refine lv_iload_n hx hb dX4_gainedWith_5 rfl (lv_at hl 3 rfl) ?_
  refine lv_iload_n hx hb dX4_gainedWith_6 rfl (lv_at hl 0 rfl) ?_
  refine pu_SN (As := [.int y, .int (mdl hs bs n)]) (rest := []) ⟨hx, hb, hml, hown, hts⟩ hG hP (k_X5_isSubset l D cI cB y (mdl hs bs n) ) (va_cnB 2 hts gX4_gainedWith_X5_isSubset_n51 rfl rfl rfl (hG.2 _ (List.mem_of_getElem? (i := 6) rfl)) (hts (.initialized RX5) (List.mem_of_getElem? (i := 22) rfl)) (by decide +kernel) ⟨(Nat.le_of_ble_eq_true rfl), (Nat.le_of_ble_eq_true rfl)⟩) (hts (.static yX5_isSubset) (List.mem_of_getElem? (i := 24) rfl)) [] rfl rfl hl.1 rfl (Nat.le_of_ble_eq_true rfl) dX4_gainedWith_7 ⟨Nat.zero_le _, Nat.zero_le _⟩ ?_
  refine lv_if_ne (tgt := 15) hx hb dX4_gainedWith_10 (by decide) (fun c_1 => ?_) (fun c_1 => ?_)
  · skip
    have c_1 : (sbs y (mdl hs bs n)) = true := bI_t.mp c_1
    refine lv_aload_n hx hb dX4_gainedWith_15 rfl (lv_at hl 1 rfl) ?_
    refine lv_aload_n hx hb dX4_gainedWith_16 rfl (lv_at hl 1 rfl) ?_
    refine pu_V (As := []) (rest := [.ref b]) ⟨hx, hb, hml, hown, hts⟩ hG hP (k_X4_everyRule l D cI cB b qh qb hs bs n as_ (by omega)) (cwV 0 hts gX4_gainedWith_X4_everyRule rfl rfl rfl (by decide +kernel) ⟨(Nat.le_of_ble_eq_true rfl), (Nat.le_of_ble_eq_true rfl)⟩) [0, 1, 2] rfl 0 rfl rfl rfl rfl hl.1 rfl (Nat.le_of_ble_eq_true rfl) dX4_gainedWith_17 ⟨Nat.zero_le _, Nat.zero_le _⟩ ?_
    refine lv_iconst (v := nI 1) hx hb dX4_gainedWith_20 (by decide) ?_
    refine lv_iload_n hx hb dX4_gainedWith_21 rfl (lv_at hl 2 rfl) ?_
    refine lv_ishl hx hb dX4_gainedWith_22 ?_
    refine pu_V (As := [.int (evr n), .int ((nI 1) <<< (h &&& 31))]) (rest := []) ⟨hx, hb, hml, hown, hts⟩ hG hP (k_X4_closure l D cI cB b qh qb hs bs n as_ (evr n) ((nI 1) <<< (h &&& 31)) (by omega)) (cwV 2 hts gX4_gainedWith_X4_closure rfl rfl rfl (by decide +kernel) ⟨(Nat.le_of_ble_eq_true rfl), (Nat.le_of_ble_eq_true rfl)⟩) [0, 1, 2] rfl 0 rfl rfl rfl rfl hl.1 rfl (Nat.le_of_ble_eq_true rfl) dX4_gainedWith_23 ⟨Nat.zero_le _, Nat.zero_le _⟩ ?_
    refine lv_iload_n hx hb dX4_gainedWith_26 rfl (lv_at hl 0 rfl) ?_
    refine lv_iconst (v := (-1)) hx hb dX4_gainedWith_27 (by decide) ?_
    refine lv_ixor hx hb dX4_gainedWith_28 ?_
    refine lv_iand hx hb dX4_gainedWith_29 ?_
    exact hret _ _ _ (by unfold gnd; rw [if_pos (show sbs y (mdl hs bs n) = true from c_1)]) dX4_gainedWith_30
  · skip
    have c_1 : (sbs y (mdl hs bs n)) = false := bI_f.mp c_1
    refine lv_iconst (v := nI 0) hx hb dX4_gainedWith_13 (by decide) ?_
    exact hret _ _ _ (by unfold gnd; rw [if_neg (by rw [show sbs y (mdl hs bs n) = false from c_1]; decide)]) dX4_gainedWith_14
end
section
theorem sh_ct {x y : Int32} {c : Nat} (h : x = y) (h2 : nI 1 <<< (y &&& 31) = nI c) : nI 1 <<< (x &&& 31) = nI c := by rw [h]; exact h2
def isS (x lim : Int32) : Bool := decide (¬ x < 0 ∧ ¬ nI 65535 < x ∧ ¬ lim < bc x)
/-- a row's item, -1 behind its end -/
def itm (f : Nat → Int32) (c : Nat) (i : Int32) : Int32 := if hasR i c = true then f i.toNatClampNeg else -1
theorem itm_ix {i : Int32} {c : Nat} (h1 : ¬ i < 0) (h2 : ¬ nI c ≤ i) (hc : c < 2 ^ 31) : i = nI i.toNatClampNeg ∧ i.toNatClampNeg < c := by
  obtain ⟨j, hj, rfl⟩ := nI_of h1
  rw [nI_clamp hj]
  exact ⟨rfl, Nat.not_le.mp fun q => h2 ((nI_leI hc hj).mpr q)⟩
theorem nI_sub1 {k : Nat} (h : 0 < k) : nI k - nI 1 = nI (k - 1) := by
  obtain ⟨i, rfl⟩ : ∃ i, k = i + 1 := ⟨k - 1, by omega⟩
  exact nI_pred i
/-- row f with the places from r on moved down by one, as far as place k has been read -/
def rmF (f : Nat → Int32) (r k : Nat) : Nat → Int32 := fun j => if r ≤ j ∧ j + 1 < k then f (j + 1) else f j
theorem rmF_0 (f : Nat → Int32) (r : Nat) : rmF f r (r + 1) = f := by
  funext j
  unfold rmF
  rw [if_neg (by omega)]
theorem rmF_at (f : Nat → Int32) (r k : Nat) : rmF f r k k = f k := by
  unfold rmF
  rw [if_neg (by omega)]
theorem rmF_st (f : Nat → Int32) {r k : Nat} (h : r < k) : upd (rmF f r k) (k - 1) (f k) = rmF f r (k + 1) := by
  funext j
  unfold upd rmF
  by_cases hj : j = k - 1
  · subst hj
    rw [if_pos rfl, if_pos (by omega), show k - 1 + 1 = k from by omega]
  · rw [if_neg hj]
    by_cases h2 : r ≤ j ∧ j + 1 < k
    · rw [if_pos h2, if_pos (by omega)]
    · rw [if_neg h2, if_neg (by omega)]
/-- f's first k places over g -/
def cpF (f g : Nat → Int32) (k : Nat) : Nat → Int32 := fun j => if j < k then f j else g j
theorem cpF_0 (f g : Nat → Int32) : cpF f g 0 = g := by
  funext j
  unfold cpF
  rw [if_neg (by omega)]
theorem cpF_st (f g : Nat → Int32) (k : Nat) : upd (cpF f g k) k (f k) = cpF f g (k + 1) := by
  funext j
  unfold upd cpF
  by_cases hj : j = k
  · subst hj
    rw [if_pos rfl, if_pos (by omega)]
  · rw [if_neg hj]
    by_cases h2 : j < k
    · rw [if_pos h2, if_pos (by omega)]
    · rw [if_neg h2, if_neg (by omega)]
def bosF (x : Int32) : Nat → Int32
  | 0 => nI 0
  | j + 1 => if has x (nI j) = true then ((nI 127 + nI j - nI 4) <<< (nI 23 &&& 31)) ||| ((x <<< ((nI 23 - nI j) &&& 31)) &&& nI 8388607) else bosF x j
end
section
theorem ilX4_bestExplanation_4 : ∀ w ∈ u_ws RX4 TX4 4, w ∈ wsX4_bestExplanation := by decide +kernel
theorem ilX2_size_2 : ∀ w ∈ u_ws RX2 TX2 2, w ∈ wsX2_size := by decide +kernel
theorem ilX2_isFull_2 : ∀ w ∈ u_ws RX2 TX2 2, w ∈ wsX2_isFull := by decide +kernel
theorem ilX2_itemAt_2 : ∀ w ∈ u_ws RX2 TX2 2, w ∈ wsX2_itemAt := by decide +kernel
theorem ilX2_empty_2 : ∀ w ∈ u_ws RX2 TX2 2, w ∈ wsX2_empty := by decide +kernel
theorem ilX2_addLast_2 : ∀ w ∈ u_ws RX2 TX2 2, w ∈ wsX2_addLast := by decide +kernel
theorem ilX4_addLast_4 : ∀ w ∈ u_ws RX4 TX4 4, w ∈ wsX4_addLast := by decide +kernel
theorem ilX4_removeAt_4 : ∀ w ∈ u_ws RX4 TX4 4, w ∈ wsX4_removeAt := by decide +kernel
theorem ilX4_replaceAssumable_4 : ∀ w ∈ u_ws RX4 TX4 4, w ∈ wsX4_replaceAssumable := by decide +kernel
theorem ilX4_copyFrom_4 : ∀ w ∈ u_ws RX4 TX4 4, w ∈ wsX4_copyFrom := by decide +kernel
set_option maxHeartbeats 4000000 in
set_option maxRecDepth 100000 in
theorem k_J6_bitCount_0f7a4 (l : Launch) (D : va_G) (cI cB : ClassId) (x : Int32) : Rd l yJ6_bitCount_0f7a4 wsJ6_bitCount_0f7a4 ({ frames := 0, cells := 0, slots := 0, locals := 0 }) D cI cB [.int x] [] (.int (bc x)) := by
  refine pu_startI (cc := cJ6_bitCount_0f7a4) (maxL := 1) (by decide) rfl (Nat.le_of_ble_eq_true rfl) ?_
  intro p e s m args below meth c Q hx hb hml hown hts hP hG hret ls hl
  have hown : s.vm.findClass RJ6 = some m.cls := hown
  have hl : lv_has ls 1 [(0, .int x)] := hl
  refine lv_iload_n hx hb dJ6_bitCount_0f7a4_0 rfl (lv_at hl 0 rfl) ?_
  refine lv_iload_n hx hb dJ6_bitCount_0f7a4_1 rfl (lv_at hl 0 rfl) ?_
  refine lv_iconst (v := nI 1) hx hb dJ6_bitCount_0f7a4_2 (by decide) ?_
  refine lv_iushr (v := (x.toUInt32 >>> ((nI 1).toUInt32 &&& Int32.toUInt32 31)).toInt32) hx hb dJ6_bitCount_0f7a4_3 rfl ?_
  refine lv_ldcw (v := nI 1431655765) hx hb hown (hts (.constant RJ6 265 (1431655765)) (List.mem_of_getElem? (i := 1) rfl)) dJ6_bitCount_0f7a4_4 ?_
  refine lv_iand hx hb dJ6_bitCount_0f7a4_7 ?_
  refine lv_isub hx hb dJ6_bitCount_0f7a4_8 ?_
  refine lv_istore_n (lv' := [(0, .int (x - (((x.toUInt32 >>> ((nI 1).toUInt32 &&& Int32.toUInt32 31)).toInt32) &&& (nI 1431655765))))]) hx hb dJ6_bitCount_0f7a4_9 rfl hl (by decide) rfl (fun ls hl => ?_)
  refine lv_iload_n hx hb dJ6_bitCount_0f7a4_10 rfl (lv_at hl 0 rfl) ?_
  refine lv_ldcw (v := nI 858993459) hx hb hown (hts (.constant RJ6 266 (858993459)) (List.mem_of_getElem? (i := 2) rfl)) dJ6_bitCount_0f7a4_11 ?_
  refine lv_iand hx hb dJ6_bitCount_0f7a4_14 ?_
  refine lv_iload_n hx hb dJ6_bitCount_0f7a4_15 rfl (lv_at hl 0 rfl) ?_
  refine lv_iconst (v := nI 2) hx hb dJ6_bitCount_0f7a4_16 (by decide) ?_
  refine lv_iushr (v := ((x - (((x.toUInt32 >>> ((nI 1).toUInt32 &&& Int32.toUInt32 31)).toInt32) &&& (nI 1431655765))).toUInt32 >>> ((nI 2).toUInt32 &&& Int32.toUInt32 31)).toInt32) hx hb dJ6_bitCount_0f7a4_17 rfl ?_
  refine lv_ldcw (v := nI 858993459) hx hb hown (hts (.constant RJ6 266 (858993459)) (List.mem_of_getElem? (i := 2) rfl)) dJ6_bitCount_0f7a4_18 ?_
  refine lv_iand hx hb dJ6_bitCount_0f7a4_21 ?_
  refine lv_iadd hx hb dJ6_bitCount_0f7a4_22 ?_
  refine lv_istore_n (lv' := [(0, .int (((x - (((x.toUInt32 >>> ((nI 1).toUInt32 &&& Int32.toUInt32 31)).toInt32) &&& (nI 1431655765))) &&& (nI 858993459)) + ((((x - (((x.toUInt32 >>> ((nI 1).toUInt32 &&& Int32.toUInt32 31)).toInt32) &&& (nI 1431655765))).toUInt32 >>> ((nI 2).toUInt32 &&& Int32.toUInt32 31)).toInt32) &&& (nI 858993459))))]) hx hb dJ6_bitCount_0f7a4_23 rfl hl (by decide) rfl (fun ls hl => ?_)
  refine lv_iload_n hx hb dJ6_bitCount_0f7a4_24 rfl (lv_at hl 0 rfl) ?_
  refine lv_iload_n hx hb dJ6_bitCount_0f7a4_25 rfl (lv_at hl 0 rfl) ?_
  refine lv_iconst (v := nI 4) hx hb dJ6_bitCount_0f7a4_26 (by decide) ?_
  refine lv_iushr (v := ((((x - (((x.toUInt32 >>> ((nI 1).toUInt32 &&& Int32.toUInt32 31)).toInt32) &&& (nI 1431655765))) &&& (nI 858993459)) + ((((x - (((x.toUInt32 >>> ((nI 1).toUInt32 &&& Int32.toUInt32 31)).toInt32) &&& (nI 1431655765))).toUInt32 >>> ((nI 2).toUInt32 &&& Int32.toUInt32 31)).toInt32) &&& (nI 858993459))).toUInt32 >>> ((nI 4).toUInt32 &&& Int32.toUInt32 31)).toInt32) hx hb dJ6_bitCount_0f7a4_27 rfl ?_
  refine lv_iadd hx hb dJ6_bitCount_0f7a4_28 ?_
  refine lv_ldcw (v := nI 252645135) hx hb hown (hts (.constant RJ6 267 (252645135)) (List.mem_of_getElem? (i := 3) rfl)) dJ6_bitCount_0f7a4_29 ?_
  refine lv_iand hx hb dJ6_bitCount_0f7a4_32 ?_
  refine lv_istore_n (lv' := [(0, .int (((((x - (((x.toUInt32 >>> ((nI 1).toUInt32 &&& Int32.toUInt32 31)).toInt32) &&& (nI 1431655765))) &&& (nI 858993459)) + ((((x - (((x.toUInt32 >>> ((nI 1).toUInt32 &&& Int32.toUInt32 31)).toInt32) &&& (nI 1431655765))).toUInt32 >>> ((nI 2).toUInt32 &&& Int32.toUInt32 31)).toInt32) &&& (nI 858993459))) + (((((x - (((x.toUInt32 >>> ((nI 1).toUInt32 &&& Int32.toUInt32 31)).toInt32) &&& (nI 1431655765))) &&& (nI 858993459)) + ((((x - (((x.toUInt32 >>> ((nI 1).toUInt32 &&& Int32.toUInt32 31)).toInt32) &&& (nI 1431655765))).toUInt32 >>> ((nI 2).toUInt32 &&& Int32.toUInt32 31)).toInt32) &&& (nI 858993459))).toUInt32 >>> ((nI 4).toUInt32 &&& Int32.toUInt32 31)).toInt32)) &&& (nI 252645135)))]) hx hb dJ6_bitCount_0f7a4_33 rfl hl (by decide) rfl (fun ls hl => ?_)
  refine lv_iload_n hx hb dJ6_bitCount_0f7a4_34 rfl (lv_at hl 0 rfl) ?_
  refine lv_iload_n hx hb dJ6_bitCount_0f7a4_35 rfl (lv_at hl 0 rfl) ?_
  refine lv_bipush (v := nI 8) hx hb dJ6_bitCount_0f7a4_36 (by decide) ?_
  refine lv_iushr (v := ((((((x - (((x.toUInt32 >>> ((nI 1).toUInt32 &&& Int32.toUInt32 31)).toInt32) &&& (nI 1431655765))) &&& (nI 858993459)) + ((((x - (((x.toUInt32 >>> ((nI 1).toUInt32 &&& Int32.toUInt32 31)).toInt32) &&& (nI 1431655765))).toUInt32 >>> ((nI 2).toUInt32 &&& Int32.toUInt32 31)).toInt32) &&& (nI 858993459))) + (((((x - (((x.toUInt32 >>> ((nI 1).toUInt32 &&& Int32.toUInt32 31)).toInt32) &&& (nI 1431655765))) &&& (nI 858993459)) + ((((x - (((x.toUInt32 >>> ((nI 1).toUInt32 &&& Int32.toUInt32 31)).toInt32) &&& (nI 1431655765))).toUInt32 >>> ((nI 2).toUInt32 &&& Int32.toUInt32 31)).toInt32) &&& (nI 858993459))).toUInt32 >>> ((nI 4).toUInt32 &&& Int32.toUInt32 31)).toInt32)) &&& (nI 252645135)).toUInt32 >>> ((nI 8).toUInt32 &&& Int32.toUInt32 31)).toInt32) hx hb dJ6_bitCount_0f7a4_38 rfl ?_
  refine lv_iadd hx hb dJ6_bitCount_0f7a4_39 ?_
  refine lv_istore_n (lv' := [(0, .int ((((((x - (((x.toUInt32 >>> ((nI 1).toUInt32 &&& Int32.toUInt32 31)).toInt32) &&& (nI 1431655765))) &&& (nI 858993459)) + ((((x - (((x.toUInt32 >>> ((nI 1).toUInt32 &&& Int32.toUInt32 31)).toInt32) &&& (nI 1431655765))).toUInt32 >>> ((nI 2).toUInt32 &&& Int32.toUInt32 31)).toInt32) &&& (nI 858993459))) + (((((x - (((x.toUInt32 >>> ((nI 1).toUInt32 &&& Int32.toUInt32 31)).toInt32) &&& (nI 1431655765))) &&& (nI 858993459)) + ((((x - (((x.toUInt32 >>> ((nI 1).toUInt32 &&& Int32.toUInt32 31)).toInt32) &&& (nI 1431655765))).toUInt32 >>> ((nI 2).toUInt32 &&& Int32.toUInt32 31)).toInt32) &&& (nI 858993459))).toUInt32 >>> ((nI 4).toUInt32 &&& Int32.toUInt32 31)).toInt32)) &&& (nI 252645135)) + (((((((x - (((x.toUInt32 >>> ((nI 1).toUInt32 &&& Int32.toUInt32 31)).toInt32) &&& (nI 1431655765))) &&& (nI 858993459)) + ((((x - (((x.toUInt32 >>> ((nI 1).toUInt32 &&& Int32.toUInt32 31)).toInt32) &&& (nI 1431655765))).toUInt32 >>> ((nI 2).toUInt32 &&& Int32.toUInt32 31)).toInt32) &&& (nI 858993459))) + (((((x - (((x.toUInt32 >>> ((nI 1).toUInt32 &&& Int32.toUInt32 31)).toInt32) &&& (nI 1431655765))) &&& (nI 858993459)) + ((((x - (((x.toUInt32 >>> ((nI 1).toUInt32 &&& Int32.toUInt32 31)).toInt32) &&& (nI 1431655765))).toUInt32 >>> ((nI 2).toUInt32 &&& Int32.toUInt32 31)).toInt32) &&& (nI 858993459))).toUInt32 >>> ((nI 4).toUInt32 &&& Int32.toUInt32 31)).toInt32)) &&& (nI 252645135)).toUInt32 >>> ((nI 8).toUInt32 &&& Int32.toUInt32 31)).toInt32)))]) hx hb dJ6_bitCount_0f7a4_40 rfl hl (by decide) rfl (fun ls hl => ?_)
  refine lv_iload_n hx hb dJ6_bitCount_0f7a4_41 rfl (lv_at hl 0 rfl) ?_
  refine lv_iload_n hx hb dJ6_bitCount_0f7a4_42 rfl (lv_at hl 0 rfl) ?_
  refine lv_bipush (v := nI 16) hx hb dJ6_bitCount_0f7a4_43 (by decide) ?_
  refine lv_iushr (v := (((((((x - (((x.toUInt32 >>> ((nI 1).toUInt32 &&& Int32.toUInt32 31)).toInt32) &&& (nI 1431655765))) &&& (nI 858993459)) + ((((x - (((x.toUInt32 >>> ((nI 1).toUInt32 &&& Int32.toUInt32 31)).toInt32) &&& (nI 1431655765))).toUInt32 >>> ((nI 2).toUInt32 &&& Int32.toUInt32 31)).toInt32) &&& (nI 858993459))) + (((((x - (((x.toUInt32 >>> ((nI 1).toUInt32 &&& Int32.toUInt32 31)).toInt32) &&& (nI 1431655765))) &&& (nI 858993459)) + ((((x - (((x.toUInt32 >>> ((nI 1).toUInt32 &&& Int32.toUInt32 31)).toInt32) &&& (nI 1431655765))).toUInt32 >>> ((nI 2).toUInt32 &&& Int32.toUInt32 31)).toInt32) &&& (nI 858993459))).toUInt32 >>> ((nI 4).toUInt32 &&& Int32.toUInt32 31)).toInt32)) &&& (nI 252645135)) + (((((((x - (((x.toUInt32 >>> ((nI 1).toUInt32 &&& Int32.toUInt32 31)).toInt32) &&& (nI 1431655765))) &&& (nI 858993459)) + ((((x - (((x.toUInt32 >>> ((nI 1).toUInt32 &&& Int32.toUInt32 31)).toInt32) &&& (nI 1431655765))).toUInt32 >>> ((nI 2).toUInt32 &&& Int32.toUInt32 31)).toInt32) &&& (nI 858993459))) + (((((x - (((x.toUInt32 >>> ((nI 1).toUInt32 &&& Int32.toUInt32 31)).toInt32) &&& (nI 1431655765))) &&& (nI 858993459)) + ((((x - (((x.toUInt32 >>> ((nI 1).toUInt32 &&& Int32.toUInt32 31)).toInt32) &&& (nI 1431655765))).toUInt32 >>> ((nI 2).toUInt32 &&& Int32.toUInt32 31)).toInt32) &&& (nI 858993459))).toUInt32 >>> ((nI 4).toUInt32 &&& Int32.toUInt32 31)).toInt32)) &&& (nI 252645135)).toUInt32 >>> ((nI 8).toUInt32 &&& Int32.toUInt32 31)).toInt32)).toUInt32 >>> ((nI 16).toUInt32 &&& Int32.toUInt32 31)).toInt32) hx hb dJ6_bitCount_0f7a4_45 rfl ?_
  refine lv_iadd hx hb dJ6_bitCount_0f7a4_46 ?_
  refine lv_istore_n (lv' := [(0, .int (((((((x - (((x.toUInt32 >>> ((nI 1).toUInt32 &&& Int32.toUInt32 31)).toInt32) &&& (nI 1431655765))) &&& (nI 858993459)) + ((((x - (((x.toUInt32 >>> ((nI 1).toUInt32 &&& Int32.toUInt32 31)).toInt32) &&& (nI 1431655765))).toUInt32 >>> ((nI 2).toUInt32 &&& Int32.toUInt32 31)).toInt32) &&& (nI 858993459))) + (((((x - (((x.toUInt32 >>> ((nI 1).toUInt32 &&& Int32.toUInt32 31)).toInt32) &&& (nI 1431655765))) &&& (nI 858993459)) + ((((x - (((x.toUInt32 >>> ((nI 1).toUInt32 &&& Int32.toUInt32 31)).toInt32) &&& (nI 1431655765))).toUInt32 >>> ((nI 2).toUInt32 &&& Int32.toUInt32 31)).toInt32) &&& (nI 858993459))).toUInt32 >>> ((nI 4).toUInt32 &&& Int32.toUInt32 31)).toInt32)) &&& (nI 252645135)) + (((((((x - (((x.toUInt32 >>> ((nI 1).toUInt32 &&& Int32.toUInt32 31)).toInt32) &&& (nI 1431655765))) &&& (nI 858993459)) + ((((x - (((x.toUInt32 >>> ((nI 1).toUInt32 &&& Int32.toUInt32 31)).toInt32) &&& (nI 1431655765))).toUInt32 >>> ((nI 2).toUInt32 &&& Int32.toUInt32 31)).toInt32) &&& (nI 858993459))) + (((((x - (((x.toUInt32 >>> ((nI 1).toUInt32 &&& Int32.toUInt32 31)).toInt32) &&& (nI 1431655765))) &&& (nI 858993459)) + ((((x - (((x.toUInt32 >>> ((nI 1).toUInt32 &&& Int32.toUInt32 31)).toInt32) &&& (nI 1431655765))).toUInt32 >>> ((nI 2).toUInt32 &&& Int32.toUInt32 31)).toInt32) &&& (nI 858993459))).toUInt32 >>> ((nI 4).toUInt32 &&& Int32.toUInt32 31)).toInt32)) &&& (nI 252645135)).toUInt32 >>> ((nI 8).toUInt32 &&& Int32.toUInt32 31)).toInt32)) + ((((((((x - (((x.toUInt32 >>> ((nI 1).toUInt32 &&& Int32.toUInt32 31)).toInt32) &&& (nI 1431655765))) &&& (nI 858993459)) + ((((x - (((x.toUInt32 >>> ((nI 1).toUInt32 &&& Int32.toUInt32 31)).toInt32) &&& (nI 1431655765))).toUInt32 >>> ((nI 2).toUInt32 &&& Int32.toUInt32 31)).toInt32) &&& (nI 858993459))) + (((((x - (((x.toUInt32 >>> ((nI 1).toUInt32 &&& Int32.toUInt32 31)).toInt32) &&& (nI 1431655765))) &&& (nI 858993459)) + ((((x - (((x.toUInt32 >>> ((nI 1).toUInt32 &&& Int32.toUInt32 31)).toInt32) &&& (nI 1431655765))).toUInt32 >>> ((nI 2).toUInt32 &&& Int32.toUInt32 31)).toInt32) &&& (nI 858993459))).toUInt32 >>> ((nI 4).toUInt32 &&& Int32.toUInt32 31)).toInt32)) &&& (nI 252645135)) + (((((((x - (((x.toUInt32 >>> ((nI 1).toUInt32 &&& Int32.toUInt32 31)).toInt32) &&& (nI 1431655765))) &&& (nI 858993459)) + ((((x - (((x.toUInt32 >>> ((nI 1).toUInt32 &&& Int32.toUInt32 31)).toInt32) &&& (nI 1431655765))).toUInt32 >>> ((nI 2).toUInt32 &&& Int32.toUInt32 31)).toInt32) &&& (nI 858993459))) + (((((x - (((x.toUInt32 >>> ((nI 1).toUInt32 &&& Int32.toUInt32 31)).toInt32) &&& (nI 1431655765))) &&& (nI 858993459)) + ((((x - (((x.toUInt32 >>> ((nI 1).toUInt32 &&& Int32.toUInt32 31)).toInt32) &&& (nI 1431655765))).toUInt32 >>> ((nI 2).toUInt32 &&& Int32.toUInt32 31)).toInt32) &&& (nI 858993459))).toUInt32 >>> ((nI 4).toUInt32 &&& Int32.toUInt32 31)).toInt32)) &&& (nI 252645135)).toUInt32 >>> ((nI 8).toUInt32 &&& Int32.toUInt32 31)).toInt32)).toUInt32 >>> ((nI 16).toUInt32 &&& Int32.toUInt32 31)).toInt32)))]) hx hb dJ6_bitCount_0f7a4_47 rfl hl (by decide) rfl (fun ls hl => ?_)
  refine lv_iload_n hx hb dJ6_bitCount_0f7a4_48 rfl (lv_at hl 0 rfl) ?_
  refine lv_bipush (v := nI 63) hx hb dJ6_bitCount_0f7a4_49 (by decide) ?_
  refine lv_iand hx hb dJ6_bitCount_0f7a4_51 ?_
  exact hret _ _ _ rfl dJ6_bitCount_0f7a4_52
set_option maxHeartbeats 4000000 in
set_option maxRecDepth 100000 in
theorem k_X5_isAtomSet (l : Launch) (D : va_G) (cI cB : ClassId) (x : Int32) (lim : Int32) : Rd l yX5_isAtomSet wsX5_isAtomSet ({ frames := 1, cells := 0, slots := 0, locals := 20 }) D cI cB [.int x, .int lim] [] (.int (bI (isS x lim))) := by
  refine pu_startZ (cc := cX5_isAtomSet) (maxL := 2) (by decide) rfl (Nat.le_of_ble_eq_true rfl) ?_
  intro p e s m args below meth c Q hx hb hml hown hts hP hG hret ls hl
  have hown : s.vm.findClass RX5 = some m.cls := hown
  have hl : lv_has ls 2 [(0, .int x), (1, .int lim)] := hl
  refine lv_iload_n hx hb dX5_isAtomSet_0 rfl (lv_at hl 0 rfl) ?_
  refine lv_if_lt (tgt := 22) hx hb dX5_isAtomSet_1 (by decide) (fun c_1 => ?_) (fun c_1 => ?_)
  · skip
    refine lv_iconst (v := nI 0) hx hb dX5_isAtomSet_22 (by decide) ?_
    exact hret _ _ _ (bI_0 (decide_eq_false (by simp only [decide_true, decide_false, reduceIte, Bool.false_eq_true, not_true_eq_false, not_false_eq_true, and_self, and_true, true_and, and_false, false_and, c_1]))) dX5_isAtomSet_23
  · skip
    refine lv_iload_n hx hb dX5_isAtomSet_4 rfl (lv_at hl 0 rfl) ?_
    refine lv_ldc (v := nI 65535) hx hb hown (hts (.constant RX5 204 (65535)) (List.mem_of_getElem? (i := 1) rfl)) dX5_isAtomSet_5 ?_
    refine lv_icmp_gt (tgt := 22) hx hb dX5_isAtomSet_7 (by decide) (fun c_2 => ?_) (fun c_2 => ?_)
    · skip
      refine lv_iconst (v := nI 0) hx hb dX5_isAtomSet_22 (by decide) ?_
      exact hret _ _ _ (bI_0 (decide_eq_false (by simp only [decide_true, decide_false, reduceIte, Bool.false_eq_true, not_true_eq_false, not_false_eq_true, and_self, and_true, true_and, and_false, false_and, c_1, c_2]))) dX5_isAtomSet_23
    · skip
      refine lv_iload_n hx hb dX5_isAtomSet_10 rfl (lv_at hl 0 rfl) ?_
      refine pu_S (As := [.int x]) (rest := []) ⟨hx, hb, hml, hown, hts⟩ hG hP (k_J6_bitCount_0f7a4 l D cI cB x ) (va_cwS 1 hts gX5_isAtomSet_J6_bitCount_0f7a4 rfl rfl rfl (by decide +kernel) ⟨(Nat.le_of_ble_eq_true rfl), (Nat.le_of_ble_eq_true rfl)⟩) [] rfl rfl hl.1 rfl (Nat.le_of_ble_eq_true rfl) dX5_isAtomSet_11 ⟨Nat.zero_le _, Nat.zero_le _⟩ ?_
      refine lv_iload_n hx hb dX5_isAtomSet_14 rfl (lv_at hl 1 rfl) ?_
      refine lv_icmp_gt (tgt := 22) hx hb dX5_isAtomSet_15 (by decide) (fun c_3 => ?_) (fun c_3 => ?_)
      · skip
        refine lv_iconst (v := nI 0) hx hb dX5_isAtomSet_22 (by decide) ?_
        exact hret _ _ _ (bI_0 (decide_eq_false (by simp only [decide_true, decide_false, reduceIte, Bool.false_eq_true, not_true_eq_false, not_false_eq_true, and_self, and_true, true_and, and_false, false_and, c_1, c_2, c_3]))) dX5_isAtomSet_23
      · skip
        refine lv_iconst (v := nI 1) hx hb dX5_isAtomSet_18 (by decide) ?_
        refine lv_goto (tgt := 23) hx hb dX5_isAtomSet_19 (by decide) ?_
        exact hret _ _ _ (bI_1 (decide_eq_true (by simp only [decide_true, decide_false, reduceIte, Bool.false_eq_true, not_true_eq_false, not_false_eq_true, and_self, and_true, true_and, and_false, false_and, c_1, c_2, c_3]))) dX5_isAtomSet_23
set_option maxHeartbeats 4000000 in
set_option maxRecDepth 100000 in
theorem k_X5_bitsOfSixteenths (l : Launch) (D : va_G) (cI cB : ClassId) (x : Int32) : Rd l yX5_bitsOfSixteenths wsX5_bitsOfSixteenths ({ frames := 1, cells := 0, slots := 0, locals := 21 }) D cI cB [.int x] [] (.int (bosF x 5)) := by
  refine pu_startI (cc := cX5_bitsOfSixteenths) (maxL := 4) (by decide) rfl (Nat.le_of_ble_eq_true rfl) ?_
  intro p e s m args below meth c Q hx hb hml hown hts hP hG hret ls hl
  have hown : s.vm.findClass RX5 = some m.cls := hown
  have hl : lv_has ls 4 [(0, .int x)] := hl
  refine lv_iconst (v := nI 4) hx hb dX5_bitsOfSixteenths_0 (by decide) ?_
  refine lv_istore_n (lv' := [(1, .int (nI 4)), (0, .int x)]) hx hb dX5_bitsOfSixteenths_1 rfl hl (by decide) rfl (fun ls hl => ?_)
  have lp_2_1 : ∀ (fu_2 : Nat) (j : Nat) (hj : j ≤ 5) (ej : bosF x j = bosF x 5) (hfu_2 : j < fu_2) (ls : Array Slot) (hl : lv_has ls 4 [(0, .int x), (1, .int (nI j - nI 1))]), W p l e ({ frames := 1, cells := 0, slots := 0, locals := 21 }) s m args below meth c s.heap [] 0 0 Q (F0 m 2 ls []) := by
    intro fu_2
    induction fu_2 with
    | zero => intro j hj ej hfu; exact absurd hfu (Nat.not_lt_zero _)
    | succ fu_2 ih_2 =>
      intro j hj ej hfu_2 ls hl
      refine lv_iload_n hx hb dX5_bitsOfSixteenths_2 rfl (lv_at hl 1 rfl) ?_
      refine lv_if_lt (tgt := 44) hx hb dX5_bitsOfSixteenths_3 (by decide) (fun c_2 => ?_) (fun c_2 => ?_)
      · skip
        have hj0 := nI_dn c_2 (by omega)
        refine lv_iconst (v := nI 0) hx hb dX5_bitsOfSixteenths_44 (by decide) ?_
        exact hret _ _ _ (by rw [← ej, hj0]; rfl) dX5_bitsOfSixteenths_45
      · skip
        obtain ⟨i, rfl⟩ := nI_up c_2
        have hl : lv_has ls 4 [(0, .int x), (1, .int (nI i))] := by rw [← nI_pred i]; exact hl
        refine lv_iload_n hx hb dX5_bitsOfSixteenths_6 rfl (lv_at hl 0 rfl) ?_
        refine lv_iload_n hx hb dX5_bitsOfSixteenths_7 rfl (lv_at hl 1 rfl) ?_
        refine pu_S (As := [.int x, .int (nI i)]) (rest := []) ⟨hx, hb, hml, hown, hts⟩ hG hP (k_X5_contains l D cI cB x (nI i) ) (cwS 2 hts gX5_bitsOfSixteenths_X5_contains rfl rfl rfl (by decide +kernel) ⟨(Nat.le_of_ble_eq_true rfl), (Nat.le_of_ble_eq_true rfl)⟩) [] rfl rfl hl.1 rfl (Nat.le_of_ble_eq_true rfl) dX5_bitsOfSixteenths_8 ⟨Nat.zero_le _, Nat.zero_le _⟩ ?_
        refine lv_if_eq (tgt := 38) hx hb dX5_bitsOfSixteenths_11 (by decide) (fun c_3 => ?_) (fun c_3 => ?_)
        · skip
          have c_3 : (has x (nI i)) = false := bI_f.mp c_3
          refine lv_iinc (v := nI i - nI 1) (lv' := [(1, .int (nI i - nI 1)), (0, .int x)]) hx hb dX5_bitsOfSixteenths_38 hl (k := 1) rfl (nI_m1 i) (by decide) rfl (fun ls hl => ?_)
          refine lv_goto (tgt := 2) hx hb dX5_bitsOfSixteenths_41 (by decide) ?_
          exact ih_2 i (by omega) (by rw [← ej, bosF, if_neg (by rw [c_3]; decide)]) (by omega) ls (lv_sub hl [1, 0] rfl)
        · skip
          have c_3 : (has x (nI i)) = true := bI_t.mp c_3
          refine lv_bipush (v := nI 127) hx hb dX5_bitsOfSixteenths_14 (by decide) ?_
          refine lv_iload_n hx hb dX5_bitsOfSixteenths_16 rfl (lv_at hl 1 rfl) ?_
          refine lv_iadd hx hb dX5_bitsOfSixteenths_17 ?_
          refine lv_eqi rfl ?_
          refine lv_iconst (v := nI 4) hx hb dX5_bitsOfSixteenths_18 (by decide) ?_
          refine lv_isub hx hb dX5_bitsOfSixteenths_19 ?_
          refine lv_istore_n (lv' := [(2, .int ((nI 127 + nI i) - (nI 4))), (0, .int x), (1, .int (nI i))]) hx hb dX5_bitsOfSixteenths_20 rfl hl (by decide) rfl (fun ls hl => ?_)
          refine lv_iload_n hx hb dX5_bitsOfSixteenths_21 rfl (lv_at hl 1 rfl) ?_
          refine lv_bipush (v := nI 23) hx hb dX5_bitsOfSixteenths_22 (by decide) ?_
          refine lv_iload_n hx hb dX5_bitsOfSixteenths_24 rfl (lv_at hl 2 rfl) ?_
          refine lv_isub hx hb dX5_bitsOfSixteenths_25 ?_
          refine lv_ishl hx hb dX5_bitsOfSixteenths_26 ?_
          refine lv_ldc (v := nI 8388607) hx hb hown (hts (.constant RX5 205 (8388607)) (List.mem_of_getElem? (i := 1) rfl)) dX5_bitsOfSixteenths_27 ?_
          refine lv_iand hx hb dX5_bitsOfSixteenths_29 ?_
          refine lv_istore_n (lv' := [(3, .int ((x <<< (((nI 23) - (nI i)) &&& 31)) &&& (nI 8388607))), (2, .int ((nI 127 + nI i) - (nI 4))), (0, .int x), (1, .int (nI i))]) hx hb dX5_bitsOfSixteenths_30 rfl hl (by decide) rfl (fun ls hl => ?_)
          refine lv_iload_n hx hb dX5_bitsOfSixteenths_31 rfl (lv_at hl 1 rfl) ?_
          refine lv_bipush (v := nI 23) hx hb dX5_bitsOfSixteenths_32 (by decide) ?_
          refine lv_ishl hx hb dX5_bitsOfSixteenths_34 ?_
          refine lv_iload_n hx hb dX5_bitsOfSixteenths_35 rfl (lv_at hl 0 rfl) ?_
          refine lv_ior hx hb dX5_bitsOfSixteenths_36 ?_
          exact hret _ _ _ (by rw [← ej, bosF, if_pos c_3]) dX5_bitsOfSixteenths_37
  exact lp_2_1 (5 + 1) 5 (by omega) rfl (Nat.lt_succ_self _) ls (lv_sub hl [1, 0] rfl)
set_option maxHeartbeats 4000000 in
set_option maxRecDepth 100000 in
theorem k_X5_mix (l : Launch) (D : va_G) (cI cB : ClassId) (h : Int64) (v : Int32) : Rd l yX5_mix wsX5_mix ({ frames := 0, cells := 0, slots := 0, locals := 0 }) D cI cB [.long h, .int v] [] (.long (31 * h + v.toInt64)) := by
  refine pu_startJ (cc := cX5_mix) (maxL := 3) (by decide) rfl (Nat.le_of_ble_eq_true rfl) ?_
  intro p e s m args below meth c Q hx hb hml hown hts hP hG hret ls hl
  have hown : s.vm.findClass RX5 = some m.cls := hown
  have hl : lv_has ls 3 [(0, .long h), (2, .int v)] := hl
  refine lv_ldc2 (v := 31) hx hb hown (hts (.constantLong RX5 202 (31)) (List.mem_of_getElem? (i := 1) rfl)) dX5_mix_0 ?_
  refine lv_lload_n hx hb dX5_mix_3 rfl (lv_at hl 0 rfl) ?_
  refine lv_lmul hx hb dX5_mix_4 ?_
  refine lv_iload_n hx hb dX5_mix_5 rfl (lv_at hl 1 rfl) ?_
  refine lv_i2l (v := v.toInt64) hx hb dX5_mix_6 rfl ?_
  refine lv_ladd hx hb dX5_mix_7 ?_
  exact hret _ _ _ rfl dX5_mix_8
set_option maxHeartbeats 4000000 in
set_option maxRecDepth 100000 in
theorem k_X4_bestExplanation (l : Launch) (D : va_G) (cI cB : ClassId) (b : Nat) (qh : Nat) (qb : Nat) (hs : Nat → Int32) (bs : Nat → Int32) (n : Nat) (as_ : Int32) (a : Nat) (ct : Nat) (hn : n ≤ 24) (ha : a < 16) (hct : nI 1 <<< (bc as_ &&& 31) = nI ct) (hc2 : ct ≤ 256) : Rd l yX4_bestExplanation wsX4_bestExplanation ({ frames := 3, cells := 0, slots := 0, locals := 70 }) D cI cB [.ref b, .int (nI a)] [(b, .inr (4, [.ref qh, .ref qb, .int (nI n), .int as_])), (qh, .inl (cI, 24, .inl hs)), (qb, .inl (cI, 24, .inl bs))] (.int ((exB hs bs n as_ a ct).1)) := by
  refine pu_startI (cc := cX4_bestExplanation) (maxL := 8) (by decide) rfl (Nat.le_of_ble_eq_true rfl) ?_
  intro p e s m args below meth c Q hx hb hml hown hts hP hG hret ls hl
  have hown : s.vm.findClass RX4 = some m.cls := hown
  have hl : lv_has ls 8 [(0, .ref b), (1, .int (nI a))] := hl
  refine lv_iconst (v := (-1)) hx hb dX4_bestExplanation_0 (by decide) ?_
  refine lv_istore_n (lv' := [(2, .int (-1)), (0, .ref b), (1, .int (nI a))]) hx hb dX4_bestExplanation_1 rfl hl (by decide) rfl (fun ls hl => ?_)
  refine lv_bipush (v := nI 9) hx hb dX4_bestExplanation_2 (by decide) ?_
  refine lv_istore_n (lv' := [(3, .int (nI 9)), (2, .int (-1)), (0, .ref b), (1, .int (nI a))]) hx hb dX4_bestExplanation_4 rfl hl (by decide) rfl (fun ls hl => ?_)
  refine lv_iconst (v := nI 0) hx hb dX4_bestExplanation_5 (by decide) ?_
  refine lv_istore (lv' := [(4, .int (nI 0)), (3, .int (nI 9)), (2, .int (-1)), (0, .ref b), (1, .int (nI a))]) hx hb dX4_bestExplanation_6 hl (by decide) rfl (fun ls hl => ?_)
  refine lv_iconst (v := nI 1) hx hb dX4_bestExplanation_8 (by decide) ?_
  refine lv_aload_n hx hb dX4_bestExplanation_9 rfl (lv_at hl 3 rfl) ?_
  refine va_get (D := D) (ci := 4) (v := .int as_) (C := RX4) (T := TX4) (N := 4) hx hb hts ilX4_bestExplanation_4 hown hG.1 hP 0 rfl rfl 3 (by decide) (hts (.fieldLink RX4 26 "HornEngine$Rulebook" "assumable" "I") (List.mem_of_getElem? (i := 1) rfl)) (fun _ h9 => h9) rfl dX4_bestExplanation_10 ?_
  refine pu_S (As := [.int as_]) (rest := [.int (nI 1)]) ⟨hx, hb, hml, hown, hts⟩ hG hP (k_J6_bitCount_0f7a4 l D cI cB as_ ) (va_cwS 1 hts gX4_bestExplanation_J6_bitCount_0f7a4 rfl rfl rfl (by decide +kernel) ⟨(Nat.le_of_ble_eq_true rfl), (Nat.le_of_ble_eq_true rfl)⟩) [] rfl rfl hl.1 rfl (Nat.le_of_ble_eq_true rfl) dX4_bestExplanation_13 ⟨Nat.zero_le _, Nat.zero_le _⟩ ?_
  refine lv_ishl hx hb dX4_bestExplanation_16 ?_
  refine lv_eqi hct ?_
  refine lv_istore (lv' := [(5, .int (nI ct)), (4, .int (nI 0)), (3, .int (nI 9)), (2, .int (-1)), (0, .ref b), (1, .int (nI a))]) hx hb dX4_bestExplanation_17 hl (by decide) rfl (fun ls hl => ?_)
  refine lv_iconst (v := nI 0) hx hb dX4_bestExplanation_19 (by decide) ?_
  refine lv_istore (lv' := [(6, .int (nI 0)), (5, .int (nI ct)), (4, .int (nI 0)), (3, .int (nI 9)), (2, .int (-1)), (0, .ref b), (1, .int (nI a))]) hx hb dX4_bestExplanation_20 hl (by decide) rfl (fun ls hl => ?_)
  have lp_22_1 : ∀ (fu_22 : Nat) (k : Nat) (x2 : Int32) (x3 : Int32) (x4 : Int32) (hk : k ≤ ct) (et : exB hs bs n as_ a k = (x2, x3, x4)) (hfu_22 : ct - k < fu_22) (ls : Array Slot) (hl : lv_has ls 8 [(0, .ref b), (1, .int (nI a)), (2, .int x2), (3, .int x3), (4, .int x4), (5, .int (nI ct)), (6, .int (nI k))]), W p l e ({ frames := 3, cells := 0, slots := 0, locals := 70 }) s m args below meth c s.heap [] 0 0 Q (F0 m 22 ls []) := by
    intro fu_22
    induction fu_22 with
    | zero => intro k x2 x3 x4 hk et hfu; exact absurd hfu (Nat.not_lt_zero _)
    | succ fu_22 ih_22 =>
      intro k x2 x3 x4 hk et hfu_22 ls hl
      refine lv_iload hx hb dX4_bestExplanation_22 (lv_at hl 6 rfl) ?_
      refine lv_iload hx hb dX4_bestExplanation_24 (lv_at hl 5 rfl) ?_
      refine lv_icmp_ge (tgt := 85) hx hb dX4_bestExplanation_26 (by decide) (fun c_2 => ?_) (fun c_2 => ?_)
      · skip
        have c_2 : ct ≤ k := (nI_leI (by omega) (by omega)).mp (show nI ct ≤ nI k from c_2)
        refine lv_iload_n hx hb dX4_bestExplanation_85 rfl (lv_at hl 2 rfl) ?_
        exact hret _ _ _ (by rw [show ct = k from by omega, et]) dX4_bestExplanation_86
      · skip
        have c_2 : ¬ (ct ≤ k) := fun h9 => (show ¬ (nI ct ≤ nI k) from c_2) ((nI_leI (by omega) (by omega)).mpr h9)
        refine lv_iload hx hb dX4_bestExplanation_29 (lv_at hl 4 rfl) ?_
        refine pu_S (As := [.int x4]) (rest := []) ⟨hx, hb, hml, hown, hts⟩ hG hP (k_J6_bitCount_0f7a4 l D cI cB x4 ) (va_cwS 1 hts gX4_bestExplanation_J6_bitCount_0f7a4 rfl rfl rfl (by decide +kernel) ⟨(Nat.le_of_ble_eq_true rfl), (Nat.le_of_ble_eq_true rfl)⟩) [] rfl rfl hl.1 rfl (Nat.le_of_ble_eq_true rfl) dX4_bestExplanation_31 ⟨Nat.zero_le _, Nat.zero_le _⟩ ?_
        refine lv_istore (lv' := [(7, .int (bc x4)), (0, .ref b), (1, .int (nI a)), (2, .int x2), (3, .int x3), (4, .int x4), (5, .int (nI ct)), (6, .int (nI k))]) hx hb dX4_bestExplanation_34 hl (by decide) rfl (fun ls hl => ?_)
        refine lv_iload hx hb dX4_bestExplanation_36 (lv_at hl 0 rfl) ?_
        refine lv_iload_n hx hb dX4_bestExplanation_38 rfl (lv_at hl 4 rfl) ?_
        refine lv_icmp_ge (tgt := 65) hx hb dX4_bestExplanation_39 (by decide) (fun c_3 => ?_) (fun c_3 => ?_)
        · skip
          refine lv_iload hx hb dX4_bestExplanation_65 (lv_at hl 5 rfl) ?_
          refine lv_aload_n hx hb dX4_bestExplanation_67 rfl (lv_at hl 1 rfl) ?_
          refine va_get (D := D) (ci := 4) (v := .int as_) (C := RX4) (T := TX4) (N := 4) hx hb hts ilX4_bestExplanation_4 hown hG.1 hP 0 rfl rfl 3 (by decide) (hts (.fieldLink RX4 26 "HornEngine$Rulebook" "assumable" "I") (List.mem_of_getElem? (i := 1) rfl)) (fun _ h9 => h9) rfl dX4_bestExplanation_68 ?_
          refine lv_isub hx hb dX4_bestExplanation_71 ?_
          refine lv_aload_n hx hb dX4_bestExplanation_72 rfl (lv_at hl 1 rfl) ?_
          refine va_get (D := D) (ci := 4) (v := .int as_) (C := RX4) (T := TX4) (N := 4) hx hb hts ilX4_bestExplanation_4 hown hG.1 hP 0 rfl rfl 3 (by decide) (hts (.fieldLink RX4 26 "HornEngine$Rulebook" "assumable" "I") (List.mem_of_getElem? (i := 1) rfl)) (fun _ h9 => h9) rfl dX4_bestExplanation_73 ?_
          refine lv_iand hx hb dX4_bestExplanation_76 ?_
          refine lv_istore (lv' := [(4, .int ((x4 - as_) &&& as_)), (7, .int (bc x4)), (0, .ref b), (1, .int (nI a)), (2, .int x2), (3, .int x3), (5, .int (nI ct)), (6, .int (nI k))]) hx hb dX4_bestExplanation_77 hl (by decide) rfl (fun ls hl => ?_)
          refine lv_iinc (v := nI (k + 1)) (lv' := [(6, .int (nI (k + 1))), (4, .int ((x4 - as_) &&& as_)), (7, .int (bc x4)), (0, .ref b), (1, .int (nI a)), (2, .int x2), (3, .int x3), (5, .int (nI ct))]) hx hb dX4_bestExplanation_79 hl (k := 7) rfl (nI_s1 k) (by decide) rfl (fun ls hl => ?_)
          refine lv_goto (tgt := 22) hx hb dX4_bestExplanation_82 (by decide) ?_
          exact ih_22 (k + 1) x2 x3 ((x4 - as_) &&& as_) (by omega) (by simp only [exB, et, decide_true, decide_false, reduceIte, Bool.false_eq_true, not_true_eq_false, not_false_eq_true, and_self, and_true, true_and, and_false, false_and, c_2, c_3]) (by omega) ls (lv_sub hl [3, 4, 5, 6, 1, 7, 0] rfl)
        · skip
          refine lv_aload_n hx hb dX4_bestExplanation_42 rfl (lv_at hl 1 rfl) ?_
          refine lv_aload_n hx hb dX4_bestExplanation_43 rfl (lv_at hl 1 rfl) ?_
          refine pu_V (As := []) (rest := [.ref b]) ⟨hx, hb, hml, hown, hts⟩ hG hP (k_X4_everyRule l D cI cB b qh qb hs bs n as_ (by omega)) (cwV 0 hts gX4_bestExplanation_X4_everyRule rfl rfl rfl (by decide +kernel) ⟨(Nat.le_of_ble_eq_true rfl), (Nat.le_of_ble_eq_true rfl)⟩) [0, 1, 2] rfl 0 rfl rfl rfl rfl hl.1 rfl (Nat.le_of_ble_eq_true rfl) dX4_bestExplanation_44 ⟨Nat.zero_le _, Nat.zero_le _⟩ ?_
          refine lv_iload hx hb dX4_bestExplanation_47 (lv_at hl 5 rfl) ?_
          refine pu_V (As := [.int (evr n), .int x4]) (rest := []) ⟨hx, hb, hml, hown, hts⟩ hG hP (k_X4_closure l D cI cB b qh qb hs bs n as_ (evr n) x4 (by omega)) (cwV 2 hts gX4_bestExplanation_X4_closure rfl rfl rfl (by decide +kernel) ⟨(Nat.le_of_ble_eq_true rfl), (Nat.le_of_ble_eq_true rfl)⟩) [0, 1, 2] rfl 0 rfl rfl rfl rfl hl.1 rfl (Nat.le_of_ble_eq_true rfl) dX4_bestExplanation_49 ⟨Nat.zero_le _, Nat.zero_le _⟩ ?_
          refine lv_iload_n hx hb dX4_bestExplanation_52 rfl (lv_at hl 2 rfl) ?_
          refine pu_SN (As := [.int (clo hs bs n (evr n) x4), .int (nI a)]) (rest := []) ⟨hx, hb, hml, hown, hts⟩ hG hP (k_X5_contains l D cI cB (clo hs bs n (evr n) x4) (nI a) ) (va_cnB 2 hts gX4_bestExplanation_X5_contains_n44 rfl rfl rfl (hG.2 _ (List.mem_of_getElem? (i := 5) rfl)) (hts (.initialized RX5) (List.mem_of_getElem? (i := 26) rfl)) (by decide +kernel) ⟨(Nat.le_of_ble_eq_true rfl), (Nat.le_of_ble_eq_true rfl)⟩) (hts (.static yX5_contains) (List.mem_of_getElem? (i := 25) rfl)) [] rfl rfl hl.1 rfl (Nat.le_of_ble_eq_true rfl) dX4_bestExplanation_53 ⟨Nat.zero_le _, Nat.zero_le _⟩ ?_
          refine lv_if_eq (tgt := 65) hx hb dX4_bestExplanation_56 (by decide) (fun c_4 => ?_) (fun c_4 => ?_)
          · skip
            have c_4 : (has (clo hs bs n (evr n) x4) (nI a)) = false := bI_f.mp c_4
            refine lv_iload hx hb dX4_bestExplanation_65 (lv_at hl 5 rfl) ?_
            refine lv_aload_n hx hb dX4_bestExplanation_67 rfl (lv_at hl 1 rfl) ?_
            refine va_get (D := D) (ci := 4) (v := .int as_) (C := RX4) (T := TX4) (N := 4) hx hb hts ilX4_bestExplanation_4 hown hG.1 hP 0 rfl rfl 3 (by decide) (hts (.fieldLink RX4 26 "HornEngine$Rulebook" "assumable" "I") (List.mem_of_getElem? (i := 1) rfl)) (fun _ h9 => h9) rfl dX4_bestExplanation_68 ?_
            refine lv_isub hx hb dX4_bestExplanation_71 ?_
            refine lv_aload_n hx hb dX4_bestExplanation_72 rfl (lv_at hl 1 rfl) ?_
            refine va_get (D := D) (ci := 4) (v := .int as_) (C := RX4) (T := TX4) (N := 4) hx hb hts ilX4_bestExplanation_4 hown hG.1 hP 0 rfl rfl 3 (by decide) (hts (.fieldLink RX4 26 "HornEngine$Rulebook" "assumable" "I") (List.mem_of_getElem? (i := 1) rfl)) (fun _ h9 => h9) rfl dX4_bestExplanation_73 ?_
            refine lv_iand hx hb dX4_bestExplanation_76 ?_
            refine lv_istore (lv' := [(4, .int ((x4 - as_) &&& as_)), (7, .int (bc x4)), (0, .ref b), (1, .int (nI a)), (2, .int x2), (3, .int x3), (5, .int (nI ct)), (6, .int (nI k))]) hx hb dX4_bestExplanation_77 hl (by decide) rfl (fun ls hl => ?_)
            refine lv_iinc (v := nI (k + 1)) (lv' := [(6, .int (nI (k + 1))), (4, .int ((x4 - as_) &&& as_)), (7, .int (bc x4)), (0, .ref b), (1, .int (nI a)), (2, .int x2), (3, .int x3), (5, .int (nI ct))]) hx hb dX4_bestExplanation_79 hl (k := 7) rfl (nI_s1 k) (by decide) rfl (fun ls hl => ?_)
            refine lv_goto (tgt := 22) hx hb dX4_bestExplanation_82 (by decide) ?_
            exact ih_22 (k + 1) x2 x3 ((x4 - as_) &&& as_) (by omega) (by simp only [exB, et, decide_true, decide_false, reduceIte, Bool.false_eq_true, not_true_eq_false, not_false_eq_true, and_self, and_true, true_and, and_false, false_and, c_2, c_3, c_4]) (by omega) ls (lv_sub hl [3, 4, 5, 6, 1, 7, 0] rfl)
          · skip
            have c_4 : (has (clo hs bs n (evr n) x4) (nI a)) = true := bI_t.mp c_4
            refine lv_iload hx hb dX4_bestExplanation_59 (lv_at hl 5 rfl) ?_
            refine lv_istore_n (lv' := [(2, .int x4), (7, .int (bc x4)), (0, .ref b), (1, .int (nI a)), (3, .int x3), (4, .int x4), (5, .int (nI ct)), (6, .int (nI k))]) hx hb dX4_bestExplanation_61 rfl hl (by decide) rfl (fun ls hl => ?_)
            refine lv_iload hx hb dX4_bestExplanation_62 (lv_at hl 1 rfl) ?_
            refine lv_istore_n (lv' := [(3, .int (bc x4)), (2, .int x4), (7, .int (bc x4)), (0, .ref b), (1, .int (nI a)), (4, .int x4), (5, .int (nI ct)), (6, .int (nI k))]) hx hb dX4_bestExplanation_64 rfl hl (by decide) rfl (fun ls hl => ?_)
            refine lv_iload hx hb dX4_bestExplanation_65 (lv_at hl 5 rfl) ?_
            refine lv_aload_n hx hb dX4_bestExplanation_67 rfl (lv_at hl 3 rfl) ?_
            refine va_get (D := D) (ci := 4) (v := .int as_) (C := RX4) (T := TX4) (N := 4) hx hb hts ilX4_bestExplanation_4 hown hG.1 hP 0 rfl rfl 3 (by decide) (hts (.fieldLink RX4 26 "HornEngine$Rulebook" "assumable" "I") (List.mem_of_getElem? (i := 1) rfl)) (fun _ h9 => h9) rfl dX4_bestExplanation_68 ?_
            refine lv_isub hx hb dX4_bestExplanation_71 ?_
            refine lv_aload_n hx hb dX4_bestExplanation_72 rfl (lv_at hl 3 rfl) ?_
            refine va_get (D := D) (ci := 4) (v := .int as_) (C := RX4) (T := TX4) (N := 4) hx hb hts ilX4_bestExplanation_4 hown hG.1 hP 0 rfl rfl 3 (by decide) (hts (.fieldLink RX4 26 "HornEngine$Rulebook" "assumable" "I") (List.mem_of_getElem? (i := 1) rfl)) (fun _ h9 => h9) rfl dX4_bestExplanation_73 ?_
            refine lv_iand hx hb dX4_bestExplanation_76 ?_
            refine lv_istore (lv' := [(4, .int ((x4 - as_) &&& as_)), (3, .int (bc x4)), (2, .int x4), (7, .int (bc x4)), (0, .ref b), (1, .int (nI a)), (5, .int (nI ct)), (6, .int (nI k))]) hx hb dX4_bestExplanation_77 hl (by decide) rfl (fun ls hl => ?_)
            refine lv_iinc (v := nI (k + 1)) (lv' := [(6, .int (nI (k + 1))), (4, .int ((x4 - as_) &&& as_)), (3, .int (bc x4)), (2, .int x4), (7, .int (bc x4)), (0, .ref b), (1, .int (nI a)), (5, .int (nI ct))]) hx hb dX4_bestExplanation_79 hl (k := 7) rfl (nI_s1 k) (by decide) rfl (fun ls hl => ?_)
            refine lv_goto (tgt := 22) hx hb dX4_bestExplanation_82 (by decide) ?_
            exact ih_22 (k + 1) x4 (bc x4) ((x4 - as_) &&& as_) (by omega) (by simp only [exB, et, decide_true, decide_false, reduceIte, Bool.false_eq_true, not_true_eq_false, not_false_eq_true, and_self, and_true, true_and, and_false, false_and, c_2, c_3, c_4]) (by omega) ls (lv_sub hl [5, 6, 3, 2, 1, 7, 0] rfl)
  exact lp_22_1 (ct - 0 + 1) 0 (-1) (nI 9) (nI 0) (by omega) rfl (Nat.lt_succ_self _) ls (lv_sub hl [5, 6, 4, 3, 2, 1, 0] rfl)
set_option maxHeartbeats 4000000 in
set_option maxRecDepth 100000 in
theorem k_X2_size (l : Launch) (D : va_G) (cI cB : ClassId) (ro : Nat) (qi : Nat) (it : Nat → Int32) (cn : Nat) (rm_ : Nat) (hrm : rm_ ≤ 120) (hcn : cn ≤ rm_) : Rd l yX2_size wsX2_size ({ frames := 0, cells := 0, slots := 0, locals := 0 }) D cI cB [.ref ro] [(ro, .inr (2, [.ref qi, .int (nI cn)])), (qi, .inl (cI, rm_, .inl it))] (.int (nI cn)) := by
  refine pu_startI (cc := cX2_size) (maxL := 1) (by decide) rfl (Nat.le_of_ble_eq_true rfl) ?_
  intro p e s m args below meth c Q hx hb hml hown hts hP hG hret ls hl
  have hown : s.vm.findClass RX2 = some m.cls := hown
  have hl : lv_has ls 1 [(0, .ref ro)] := hl
  refine lv_aload_n hx hb dX2_size_0 rfl (lv_at hl 0 rfl) ?_
  refine va_get (D := D) (ci := 2) (v := .int (nI cn)) (C := RX2) (T := TX2) (N := 2) hx hb hts ilX2_size_2 hown hG.1 hP 0 rfl rfl 1 (by decide) (hts (.fieldLink RX2 15 "HornEngine$Row" "count" "I") (List.mem_of_getElem? (i := 1) rfl)) (fun _ h9 => h9) rfl dX2_size_1 ?_
  exact hret _ _ _ rfl dX2_size_4
set_option maxHeartbeats 4000000 in
set_option maxRecDepth 100000 in
theorem k_X2_isFull (l : Launch) (D : va_G) (cI cB : ClassId) (ro : Nat) (qi : Nat) (it : Nat → Int32) (cn : Nat) (rm_ : Nat) (hrm : rm_ ≤ 120) (hcn : cn ≤ rm_) : Rd l yX2_isFull wsX2_isFull ({ frames := 0, cells := 0, slots := 0, locals := 0 }) D cI cB [.ref ro] [(ro, .inr (2, [.ref qi, .int (nI cn)])), (qi, .inl (cI, rm_, .inl it))] (.int (bI (decide (rm_ ≤ cn)))) := by
  refine pu_startZ (cc := cX2_isFull) (maxL := 1) (by decide) rfl (Nat.le_of_ble_eq_true rfl) ?_
  intro p e s m args below meth c Q hx hb hml hown hts hP hG hret ls hl
  have hown : s.vm.findClass RX2 = some m.cls := hown
  have hl : lv_has ls 1 [(0, .ref ro)] := hl
  refine lv_aload_n hx hb dX2_isFull_0 rfl (lv_at hl 0 rfl) ?_
  refine va_get (D := D) (ci := 2) (v := .int (nI cn)) (C := RX2) (T := TX2) (N := 2) hx hb hts ilX2_isFull_2 hown hG.1 hP 0 rfl rfl 1 (by decide) (hts (.fieldLink RX2 15 "HornEngine$Row" "count" "I") (List.mem_of_getElem? (i := 1) rfl)) (fun _ h9 => h9) rfl dX2_isFull_1 ?_
  refine lv_aload_n hx hb dX2_isFull_4 rfl (lv_at hl 0 rfl) ?_
  refine va_get (D := D) (ci := 2) (v := .ref qi) (C := RX2) (T := TX2) (N := 2) hx hb hts ilX2_isFull_2 hown hG.1 hP 0 rfl rfl 0 (by decide) (hts (.fieldLink RX2 9 "HornEngine$Row" "items" "[I") (List.mem_of_getElem? (i := 2) rfl)) (fun _ h9 => h9) rfl dX2_isFull_5 ?_
  refine va_alen (v := nI rm_) hx hb hG.1 hP 1 0 rfl rfl rfl dX2_isFull_8 ?_
  refine lv_icmp_lt (tgt := 16) hx hb dX2_isFull_9 (by decide) (fun c_1 => ?_) (fun c_1 => ?_)
  · skip
    have c_1 : cn < rm_ := (nI_ltI (by omega) (by omega)).mp (show nI cn < nI rm_ from c_1)
    refine lv_iconst (v := nI 0) hx hb dX2_isFull_16 (by decide) ?_
    exact hret _ _ _ (bI_0 (decide_eq_false (by omega))) dX2_isFull_17
  · skip
    have c_1 : ¬ (cn < rm_) := fun h9 => (show ¬ (nI cn < nI rm_) from c_1) ((nI_ltI (by omega) (by omega)).mpr h9)
    refine lv_iconst (v := nI 1) hx hb dX2_isFull_12 (by decide) ?_
    refine lv_goto (tgt := 17) hx hb dX2_isFull_13 (by decide) ?_
    exact hret _ _ _ (bI_1 (decide_eq_true (by omega))) dX2_isFull_17
set_option maxHeartbeats 4000000 in
set_option maxRecDepth 100000 in
theorem k_X2_itemAt (l : Launch) (D : va_G) (cI cB : ClassId) (ro : Nat) (qi : Nat) (it : Nat → Int32) (cn : Nat) (rm_ : Nat) (i_ : Int32) (hrm : rm_ ≤ 120) (hcn : cn ≤ rm_) : Rd l yX2_itemAt wsX2_itemAt ({ frames := 0, cells := 0, slots := 0, locals := 0 }) D cI cB [.ref ro, .int i_] [(ro, .inr (2, [.ref qi, .int (nI cn)])), (qi, .inl (cI, rm_, .inl it))] (.int (itm it cn i_)) := by
  refine pu_startI (cc := cX2_itemAt) (maxL := 2) (by decide) rfl (Nat.le_of_ble_eq_true rfl) ?_
  intro p e s m args below meth c Q hx hb hml hown hts hP hG hret ls hl
  have hown : s.vm.findClass RX2 = some m.cls := hown
  have hl : lv_has ls 2 [(0, .ref ro), (1, .int i_)] := hl
  refine lv_iload_n hx hb dX2_itemAt_0 rfl (lv_at hl 1 rfl) ?_
  refine lv_if_lt (tgt := 21) hx hb dX2_itemAt_1 (by decide) (fun c_1 => ?_) (fun c_1 => ?_)
  · skip
    refine lv_iconst (v := (-1)) hx hb dX2_itemAt_21 (by decide) ?_
    exact hret _ _ _ (by simp only [itm, hasR, decide_true, decide_false, reduceIte, Bool.false_eq_true, not_true_eq_false, not_false_eq_true, and_self, and_true, true_and, and_false, false_and, c_1]) dX2_itemAt_22
  · skip
    refine lv_iload_n hx hb dX2_itemAt_4 rfl (lv_at hl 1 rfl) ?_
    refine lv_aload_n hx hb dX2_itemAt_5 rfl (lv_at hl 0 rfl) ?_
    refine va_get (D := D) (ci := 2) (v := .int (nI cn)) (C := RX2) (T := TX2) (N := 2) hx hb hts ilX2_itemAt_2 hown hG.1 hP 0 rfl rfl 1 (by decide) (hts (.fieldLink RX2 15 "HornEngine$Row" "count" "I") (List.mem_of_getElem? (i := 1) rfl)) (fun _ h9 => h9) rfl dX2_itemAt_6 ?_
    refine lv_icmp_ge (tgt := 21) hx hb dX2_itemAt_9 (by decide) (fun c_2 => ?_) (fun c_2 => ?_)
    · skip
      refine lv_iconst (v := (-1)) hx hb dX2_itemAt_21 (by decide) ?_
      exact hret _ _ _ (by simp only [itm, hasR, decide_true, decide_false, reduceIte, Bool.false_eq_true, not_true_eq_false, not_false_eq_true, and_self, and_true, true_and, and_false, false_and, c_1, c_2]) dX2_itemAt_22
    · skip
      refine lv_aload_n hx hb dX2_itemAt_12 rfl (lv_at hl 0 rfl) ?_
      refine va_get (D := D) (ci := 2) (v := .ref qi) (C := RX2) (T := TX2) (N := 2) hx hb hts ilX2_itemAt_2 hown hG.1 hP 0 rfl rfl 0 (by decide) (hts (.fieldLink RX2 9 "HornEngine$Row" "items" "[I") (List.mem_of_getElem? (i := 2) rfl)) (fun _ h9 => h9) rfl dX2_itemAt_13 ?_
      refine lv_iload_n hx hb dX2_itemAt_16 rfl (lv_at hl 1 rfl) ?_
      refine ia_ld hx hb hG hP 1 rfl i_.toNatClampNeg (itm_ix c_1 c_2 (by omega)).1 (Nat.lt_of_lt_of_le (itm_ix c_1 c_2 (by omega)).2 (by omega)) (by omega) dX2_itemAt_17 ?_
      refine lv_goto (tgt := 22) hx hb dX2_itemAt_18 (by decide) ?_
      exact hret _ _ _ (by simp only [itm, hasR, decide_true, decide_false, reduceIte, Bool.false_eq_true, not_true_eq_false, not_false_eq_true, and_self, and_true, true_and, and_false, false_and, c_1, c_2]) dX2_itemAt_22
set_option maxHeartbeats 4000000 in
set_option maxRecDepth 100000 in
theorem k_X2_empty (l : Launch) (D : va_G) (cI cB : ClassId) (ro : Nat) (qi : Nat) (it : Nat → Int32) (cn : Nat) (rm_ : Nat) (hrm : rm_ ≤ 120) (hcn : cn ≤ rm_) (sz : Nat) : Wr l yX2_empty wsX2_empty ({ frames := 0, cells := 0, slots := 0, locals := 0 }) D cI cB [.ref ro] [(ro, .inr (2, [.ref qi, .int (nI cn)])), (qi, .inl (cI, rm_, .inl it))] sz (S := Unit) (fun v u => v = none) (fun u => [(ro, .inr (2, [.ref qi, .int (nI 0)])), (qi, .inl (cI, rm_, .inl it))]) 0 0 := by
  refine ef_startV (cc := cX2_empty) (maxL := 1) (by decide) rfl (Nat.le_of_ble_eq_true rfl) ?_
  intro p e s m args below meth c Q A hx hb hml hown hts hP hG hD hA hin hret ls hl
  have hown : s.vm.findClass RX2 = some m.cls := hown
  have hl : lv_has ls 1 [(0, .ref ro)] := hl
  have hS : va_S A s.heap s.heap [] := va_S.rf
  refine lv_aload_n hx hb dX2_empty_0 rfl (lv_at hl 0 rfl) ?_
  refine lv_iconst (v := nI 0) hx hb dX2_empty_1 (by decide) ?_
  refine va_put (D := D) (ci := 2) (v := .int (nI 0)) (ty := .int) (C := RX2) (T := TX2) (N := 2) hx hb hts ilX2_empty_2 tyX2 tyX2_ok nmX2 hown hG.1 hP hD hS 0 rfl rfl 1 (by decide) (hts (.fieldLink RX2 15 "HornEngine$Row" "count" "I") (List.mem_of_getElem? (i := 1) rfl)) (fun _ h9 => h9) rfl (by decide +kernel) rfl rfl (Nat.le_of_ble_eq_true rfl) dX2_empty_2 (fun H locs hP hD hS => ?_)
  have hP : va_P D vwCl [(ro, .inr (2, [.ref qi, .int (nI 0)])), (qi, .inl (cI, rm_, .inl it))] H := hP
  have hD : va_D A [(ro, .inr (2, [.ref qi, .int (nI 0)])), (qi, .inl (cI, rm_, .inl it))] := hD
  exact hret () _ _ _ _ (rfl) (hP) (hD) hS dX2_empty_5
set_option maxHeartbeats 4000000 in
set_option maxRecDepth 100000 in
theorem k_X2_addLast (l : Launch) (D : va_G) (cI cB : ClassId) (ro : Nat) (qi : Nat) (it : Nat → Int32) (cn : Nat) (rm_ : Nat) (x : Int32) (hrm : rm_ ≤ 120) (hcn : cn < rm_) (sz : Nat) : Wr l yX2_addLast wsX2_addLast ({ frames := 1, cells := 0, slots := 0, locals := 20 }) D cI cB [.ref ro, .int x] [(ro, .inr (2, [.ref qi, .int (nI cn)])), (qi, .inl (cI, rm_, .inl it))] sz (S := Unit) (fun v u => v = none) (fun u => [(ro, .inr (2, [.ref qi, .int (nI (cn + 1))])), (qi, .inl (cI, rm_, .inl (upd it cn x)))]) 0 0 := by
  refine ef_startV (cc := cX2_addLast) (maxL := 2) (by decide) rfl (Nat.le_of_ble_eq_true rfl) ?_
  intro p e s m args below meth c Q A hx hb hml hown hts hP hG hD hA hin hret ls hl
  have hown : s.vm.findClass RX2 = some m.cls := hown
  have hl : lv_has ls 2 [(0, .ref ro), (1, .int x)] := hl
  have hS : va_S A s.heap s.heap [] := va_S.rf
  refine lv_aload_n hx hb dX2_addLast_0 rfl (lv_at hl 0 rfl) ?_
  refine pu_V (As := []) (rest := []) ⟨hx, hb, hml, hown, hts⟩ hG hP (k_X2_isFull l D cI cB ro qi it cn rm_ (by omega) (by omega)) (cwV 0 hts gX2_addLast_X2_isFull rfl rfl rfl (by decide +kernel) ⟨(Nat.le_of_ble_eq_true rfl), (Nat.le_of_ble_eq_true rfl)⟩) [0, 1] rfl 0 rfl rfl rfl rfl hl.1 rfl (Nat.le_of_ble_eq_true rfl) dX2_addLast_1 ⟨Nat.zero_le _, Nat.zero_le _⟩ ?_
  refine lv_if_ne (tgt := 27) hx hb dX2_addLast_4 (by decide) (fun c_1 => ?_) (fun c_1 => ?_)
  · skip
    have c_1 : (decide (rm_ ≤ cn)) = true := bI_t.mp c_1
    exact absurd (of_decide_eq_true c_1) (by omega)
  · skip
    have c_1 : (decide (rm_ ≤ cn)) = false := bI_f.mp c_1
    refine lv_aload_n hx hb dX2_addLast_7 rfl (lv_at hl 0 rfl) ?_
    refine va_get (D := D) (ci := 2) (v := .ref qi) (C := RX2) (T := TX2) (N := 2) hx hb hts ilX2_addLast_2 hown hG.1 hP 0 rfl rfl 0 (by decide) (hts (.fieldLink RX2 9 "HornEngine$Row" "items" "[I") (List.mem_of_getElem? (i := 1) rfl)) (fun _ h9 => h9) rfl dX2_addLast_8 ?_
    refine lv_aload_n hx hb dX2_addLast_11 rfl (lv_at hl 0 rfl) ?_
    refine va_get (D := D) (ci := 2) (v := .int (nI cn)) (C := RX2) (T := TX2) (N := 2) hx hb hts ilX2_addLast_2 hown hG.1 hP 0 rfl rfl 1 (by decide) (hts (.fieldLink RX2 15 "HornEngine$Row" "count" "I") (List.mem_of_getElem? (i := 2) rfl)) (fun _ h9 => h9) rfl dX2_addLast_12 ?_
    refine lv_iload_n hx hb dX2_addLast_15 rfl (lv_at hl 1 rfl) ?_
    refine ia_st hx hb hG hP hD hS 1 rfl cn rfl (by omega) (by omega) dX2_addLast_16 (fun H locs hP hD hS => ?_)
    have hP : va_P D vwCl [(ro, .inr (2, [.ref qi, .int (nI cn)])), (qi, .inl (cI, rm_, .inl (upd it cn x)))] H := hP
    have hD : va_D A [(ro, .inr (2, [.ref qi, .int (nI cn)])), (qi, .inl (cI, rm_, .inl (upd it cn x)))] := hD
    refine lv_aload_n hx hb dX2_addLast_17 rfl (lv_at hl 0 rfl) ?_
    refine lv_dup hx hb dX2_addLast_18 rfl ?_
    refine va_get (D := D) (ci := 2) (v := .int (nI cn)) (C := RX2) (T := TX2) (N := 2) hx hb hts ilX2_addLast_2 hown hG.1 hP 0 rfl rfl 1 (by decide) (hts (.fieldLink RX2 15 "HornEngine$Row" "count" "I") (List.mem_of_getElem? (i := 2) rfl)) (fun _ h9 => h9) rfl dX2_addLast_19 ?_
    refine lv_iconst (v := nI 1) hx hb dX2_addLast_22 (by decide) ?_
    refine lv_iadd hx hb dX2_addLast_23 ?_
    refine lv_eqi (nI_add cn 1) ?_
    refine va_put (D := D) (ci := 2) (v := .int (nI (cn + 1))) (ty := .int) (C := RX2) (T := TX2) (N := 2) hx hb hts ilX2_addLast_2 tyX2 tyX2_ok nmX2 hown hG.1 hP hD hS 0 rfl rfl 1 (by decide) (hts (.fieldLink RX2 15 "HornEngine$Row" "count" "I") (List.mem_of_getElem? (i := 2) rfl)) (fun _ h9 => h9) rfl (by decide +kernel) rfl rfl (Nat.le_of_ble_eq_true rfl) dX2_addLast_24 (fun H locs hP hD hS => ?_)
    have hP : va_P D vwCl [(ro, .inr (2, [.ref qi, .int (nI (cn + 1))])), (qi, .inl (cI, rm_, .inl (upd it cn x)))] H := hP
    have hD : va_D A [(ro, .inr (2, [.ref qi, .int (nI (cn + 1))])), (qi, .inl (cI, rm_, .inl (upd it cn x)))] := hD
    exact hret () _ _ _ _ (rfl) (hP) (hD) hS dX2_addLast_27
set_option maxHeartbeats 4000000 in
set_option maxRecDepth 100000 in
theorem k_X4_addLast (l : Launch) (D : va_G) (cI cB : ClassId) (b : Nat) (qh : Nat) (qb : Nat) (hs : Nat → Int32) (bs : Nat → Int32) (n : Nat) (as_ : Int32) (h : Int32) (y : Int32) (hn : n < 24) (sz : Nat) : Wr l yX4_addLast wsX4_addLast ({ frames := 1, cells := 0, slots := 0, locals := 20 }) D cI cB [.ref b, .int h, .int y] [(b, .inr (4, [.ref qh, .ref qb, .int (nI n), .int as_])), (qh, .inl (cI, 24, .inl hs)), (qb, .inl (cI, 24, .inl bs))] sz (S := Unit) (fun v u => v = none) (fun u => [(b, .inr (4, [.ref qh, .ref qb, .int (nI (n + 1)), .int as_])), (qh, .inl (cI, 24, .inl (upd hs n h))), (qb, .inl (cI, 24, .inl (upd bs n y)))]) 0 0 := by
  refine ef_startV (cc := cX4_addLast) (maxL := 3) (by decide) rfl (Nat.le_of_ble_eq_true rfl) ?_
  intro p e s m args below meth c Q A hx hb hml hown hts hP hG hD hA hin hret ls hl
  have hown : s.vm.findClass RX4 = some m.cls := hown
  have hl : lv_has ls 3 [(0, .ref b), (1, .int h), (2, .int y)] := hl
  have hS : va_S A s.heap s.heap [] := va_S.rf
  refine lv_aload_n hx hb dX4_addLast_0 rfl (lv_at hl 0 rfl) ?_
  refine pu_V (As := []) (rest := []) ⟨hx, hb, hml, hown, hts⟩ hG hP (k_X4_isFull l D cI cB b qh qb hs bs n as_ (by omega)) (cwV 0 hts gX4_addLast_X4_isFull rfl rfl rfl (by decide +kernel) ⟨(Nat.le_of_ble_eq_true rfl), (Nat.le_of_ble_eq_true rfl)⟩) [0, 1, 2] rfl 0 rfl rfl rfl rfl hl.1 rfl (Nat.le_of_ble_eq_true rfl) dX4_addLast_1 ⟨Nat.zero_le _, Nat.zero_le _⟩ ?_
  refine lv_if_ne (tgt := 37) hx hb dX4_addLast_4 (by decide) (fun c_1 => ?_) (fun c_1 => ?_)
  · skip
    have c_1 : (decide (24 ≤ n)) = true := bI_t.mp c_1
    exact absurd (of_decide_eq_true c_1) (by omega)
  · skip
    have c_1 : (decide (24 ≤ n)) = false := bI_f.mp c_1
    refine lv_aload_n hx hb dX4_addLast_7 rfl (lv_at hl 0 rfl) ?_
    refine va_get (D := D) (ci := 4) (v := .ref qh) (C := RX4) (T := TX4) (N := 4) hx hb hts ilX4_addLast_4 hown hG.1 hP 0 rfl rfl 0 (by decide) (hts (.fieldLink RX4 9 "HornEngine$Rulebook" "heads" "[I") (List.mem_of_getElem? (i := 1) rfl)) (fun _ h9 => h9) rfl dX4_addLast_8 ?_
    refine lv_aload_n hx hb dX4_addLast_11 rfl (lv_at hl 0 rfl) ?_
    refine va_get (D := D) (ci := 4) (v := .int (nI n)) (C := RX4) (T := TX4) (N := 4) hx hb hts ilX4_addLast_4 hown hG.1 hP 0 rfl rfl 2 (by decide) (hts (.fieldLink RX4 18 "HornEngine$Rulebook" "count" "I") (List.mem_of_getElem? (i := 2) rfl)) (fun _ h9 => h9) rfl dX4_addLast_12 ?_
    refine lv_iload_n hx hb dX4_addLast_15 rfl (lv_at hl 1 rfl) ?_
    refine ia_st hx hb hG hP hD hS 1 rfl n rfl (by omega) (by decide) dX4_addLast_16 (fun H locs hP hD hS => ?_)
    have hP : va_P D vwCl [(b, .inr (4, [.ref qh, .ref qb, .int (nI n), .int as_])), (qh, .inl (cI, 24, .inl (upd hs n h))), (qb, .inl (cI, 24, .inl bs))] H := hP
    have hD : va_D A [(b, .inr (4, [.ref qh, .ref qb, .int (nI n), .int as_])), (qh, .inl (cI, 24, .inl (upd hs n h))), (qb, .inl (cI, 24, .inl bs))] := hD
    refine lv_aload_n hx hb dX4_addLast_17 rfl (lv_at hl 0 rfl) ?_
    refine va_get (D := D) (ci := 4) (v := .ref qb) (C := RX4) (T := TX4) (N := 4) hx hb hts ilX4_addLast_4 hown hG.1 hP 0 rfl rfl 1 (by decide) (hts (.fieldLink RX4 15 "HornEngine$Rulebook" "bodies" "[I") (List.mem_of_getElem? (i := 3) rfl)) (fun _ h9 => h9) rfl dX4_addLast_18 ?_
    refine lv_aload_n hx hb dX4_addLast_21 rfl (lv_at hl 0 rfl) ?_
    refine va_get (D := D) (ci := 4) (v := .int (nI n)) (C := RX4) (T := TX4) (N := 4) hx hb hts ilX4_addLast_4 hown hG.1 hP 0 rfl rfl 2 (by decide) (hts (.fieldLink RX4 18 "HornEngine$Rulebook" "count" "I") (List.mem_of_getElem? (i := 2) rfl)) (fun _ h9 => h9) rfl dX4_addLast_22 ?_
    refine lv_iload_n hx hb dX4_addLast_25 rfl (lv_at hl 2 rfl) ?_
    refine ia_st hx hb hG hP hD hS 2 rfl n rfl (by omega) (by decide) dX4_addLast_26 (fun H locs hP hD hS => ?_)
    have hP : va_P D vwCl [(b, .inr (4, [.ref qh, .ref qb, .int (nI n), .int as_])), (qh, .inl (cI, 24, .inl (upd hs n h))), (qb, .inl (cI, 24, .inl (upd bs n y)))] H := hP
    have hD : va_D A [(b, .inr (4, [.ref qh, .ref qb, .int (nI n), .int as_])), (qh, .inl (cI, 24, .inl (upd hs n h))), (qb, .inl (cI, 24, .inl (upd bs n y)))] := hD
    refine lv_aload_n hx hb dX4_addLast_27 rfl (lv_at hl 0 rfl) ?_
    refine lv_dup hx hb dX4_addLast_28 rfl ?_
    refine va_get (D := D) (ci := 4) (v := .int (nI n)) (C := RX4) (T := TX4) (N := 4) hx hb hts ilX4_addLast_4 hown hG.1 hP 0 rfl rfl 2 (by decide) (hts (.fieldLink RX4 18 "HornEngine$Rulebook" "count" "I") (List.mem_of_getElem? (i := 2) rfl)) (fun _ h9 => h9) rfl dX4_addLast_29 ?_
    refine lv_iconst (v := nI 1) hx hb dX4_addLast_32 (by decide) ?_
    refine lv_iadd hx hb dX4_addLast_33 ?_
    refine lv_eqi (nI_add n 1) ?_
    refine va_put (D := D) (ci := 4) (v := .int (nI (n + 1))) (ty := .int) (C := RX4) (T := TX4) (N := 4) hx hb hts ilX4_addLast_4 tyX4 tyX4_ok nmX4 hown hG.1 hP hD hS 0 rfl rfl 2 (by decide) (hts (.fieldLink RX4 18 "HornEngine$Rulebook" "count" "I") (List.mem_of_getElem? (i := 2) rfl)) (fun _ h9 => h9) rfl (by decide +kernel) rfl rfl (Nat.le_of_ble_eq_true rfl) dX4_addLast_34 (fun H locs hP hD hS => ?_)
    have hP : va_P D vwCl [(b, .inr (4, [.ref qh, .ref qb, .int (nI (n + 1)), .int as_])), (qh, .inl (cI, 24, .inl (upd hs n h))), (qb, .inl (cI, 24, .inl (upd bs n y)))] H := hP
    have hD : va_D A [(b, .inr (4, [.ref qh, .ref qb, .int (nI (n + 1)), .int as_])), (qh, .inl (cI, 24, .inl (upd hs n h))), (qb, .inl (cI, 24, .inl (upd bs n y)))] := hD
    exact hret () _ _ _ _ (rfl) (hP) (hD) hS dX4_addLast_37
set_option maxHeartbeats 4000000 in
set_option maxRecDepth 100000 in
theorem k_X4_removeAt (l : Launch) (D : va_G) (cI cB : ClassId) (b : Nat) (qh : Nat) (qb : Nat) (hs : Nat → Int32) (bs : Nat → Int32) (n : Nat) (as_ : Int32) (r : Nat) (hn : n ≤ 24) (hr : r < n) (sz : Nat) : Wr l yX4_removeAt wsX4_removeAt ({ frames := 1, cells := 0, slots := 0, locals := 21 }) D cI cB [.ref b, .int (nI r)] [(b, .inr (4, [.ref qh, .ref qb, .int (nI n), .int as_])), (qh, .inl (cI, 24, .inl hs)), (qb, .inl (cI, 24, .inl bs))] sz (S := Unit) (fun v u => v = none) (fun u => [(b, .inr (4, [.ref qh, .ref qb, .int (nI (n - 1)), .int as_])), (qh, .inl (cI, 24, .inl (rmF hs r n))), (qb, .inl (cI, 24, .inl (rmF bs r n)))]) 0 0 := by
  refine ef_startV (cc := cX4_removeAt) (maxL := 3) (by decide) rfl (Nat.le_of_ble_eq_true rfl) ?_
  intro p e s m args below meth c Q A hx hb hml hown hts hP hG hD hA hin hret ls hl
  have hown : s.vm.findClass RX4 = some m.cls := hown
  have hl : lv_has ls 3 [(0, .ref b), (1, .int (nI r))] := hl
  have hS : va_S A s.heap s.heap [] := va_S.rf
  refine lv_aload_n hx hb dX4_removeAt_0 rfl (lv_at hl 0 rfl) ?_
  refine lv_iload_n hx hb dX4_removeAt_1 rfl (lv_at hl 1 rfl) ?_
  refine pu_V (As := [.int (nI r)]) (rest := []) ⟨hx, hb, hml, hown, hts⟩ hG hP (k_X4_hasRule l D cI cB b qh qb hs bs n as_ (nI r) (by omega)) (cwV 1 hts gX4_removeAt_X4_hasRule rfl rfl rfl (by decide +kernel) ⟨(Nat.le_of_ble_eq_true rfl), (Nat.le_of_ble_eq_true rfl)⟩) [0, 1, 2] rfl 0 rfl rfl rfl rfl hl.1 rfl (Nat.le_of_ble_eq_true rfl) dX4_removeAt_2 ⟨Nat.zero_le _, Nat.zero_le _⟩ ?_
  refine lv_if_ne (tgt := 9) hx hb dX4_removeAt_5 (by decide) (fun c_1 => ?_) (fun c_1 => ?_)
  · skip
    have c_1 : (hasR (nI r) n) = true := bI_t.mp c_1
    refine lv_iload_n hx hb dX4_removeAt_9 rfl (lv_at hl 1 rfl) ?_
    refine lv_iconst (v := nI 1) hx hb dX4_removeAt_10 (by decide) ?_
    refine lv_iadd hx hb dX4_removeAt_11 ?_
    refine lv_eqi (nI_add r 1) ?_
    refine lv_istore_n (lv' := [(2, .int (nI (r + 1))), (0, .ref b), (1, .int (nI r))]) hx hb dX4_removeAt_12 rfl hl (by decide) rfl (fun ls hl => ?_)
    have hP : va_P D vwCl [(b, .inr (4, [.ref qh, .ref qb, .int (nI n), .int as_])), (qh, .inl (cI, 24, .inl (rmF hs r (r + 1)))), (qb, .inl (cI, 24, .inl (rmF bs r (r + 1))))] s.heap := by rw [rmF_0, rmF_0]; exact hP
    have hD : va_D A [(b, .inr (4, [.ref qh, .ref qb, .int (nI n), .int as_])), (qh, .inl (cI, 24, .inl (rmF hs r (r + 1)))), (qb, .inl (cI, 24, .inl (rmF bs r (r + 1))))] := by rw [rmF_0, rmF_0]; exact hD
    have lp_13_2 : ∀ (fu_13 : Nat) (k : Nat) (hk : r + 1 ≤ k) (hk2 : k ≤ n) (hfu_13 : n - k < fu_13) (H : Heap) (locs : List Loc) (hP : va_P D vwCl [(b, .inr (4, [.ref qh, .ref qb, .int (nI n), .int as_])), (qh, .inl (cI, 24, .inl (rmF hs r k))), (qb, .inl (cI, 24, .inl (rmF bs r k)))] H) (hD : va_D A [(b, .inr (4, [.ref qh, .ref qb, .int (nI n), .int as_])), (qh, .inl (cI, 24, .inl (rmF hs r k))), (qb, .inl (cI, 24, .inl (rmF bs r k)))]) (hS : va_S A s.heap H locs) (ls : Array Slot) (hl : lv_has ls 3 [(0, .ref b), (1, .int (nI r)), (2, .int (nI k))]), W p l e ({ frames := 1, cells := 0, slots := 0, locals := 21 }) s m args below meth c H locs 0 0 Q (F0 m 13 ls []) := by
      intro fu_13
      induction fu_13 with
      | zero => intro k hk hk2 hfu; exact absurd hfu (Nat.not_lt_zero _)
      | succ fu_13 ih_13 =>
        intro k hk hk2 hfu_13 H locs hP hD hS ls hl
        refine lv_iload_n hx hb dX4_removeAt_13 rfl (lv_at hl 2 rfl) ?_
        refine lv_aload_n hx hb dX4_removeAt_14 rfl (lv_at hl 0 rfl) ?_
        refine va_get (D := D) (ci := 4) (v := .int (nI n)) (C := RX4) (T := TX4) (N := 4) hx hb hts ilX4_removeAt_4 hown hG.1 hP 0 rfl rfl 2 (by decide) (hts (.fieldLink RX4 18 "HornEngine$Rulebook" "count" "I") (List.mem_of_getElem? (i := 1) rfl)) (fun _ h9 => h9) rfl dX4_removeAt_15 ?_
        refine lv_icmp_ge (tgt := 55) hx hb dX4_removeAt_18 (by decide) (fun c_3 => ?_) (fun c_3 => ?_)
        · skip
          have c_3 : n ≤ k := (nI_leI (by omega) (by omega)).mp (show nI n ≤ nI k from c_3)
          refine lv_aload_n hx hb dX4_removeAt_55 rfl (lv_at hl 0 rfl) ?_
          refine lv_dup hx hb dX4_removeAt_56 rfl ?_
          refine va_get (D := D) (ci := 4) (v := .int (nI n)) (C := RX4) (T := TX4) (N := 4) hx hb hts ilX4_removeAt_4 hown hG.1 hP 0 rfl rfl 2 (by decide) (hts (.fieldLink RX4 18 "HornEngine$Rulebook" "count" "I") (List.mem_of_getElem? (i := 1) rfl)) (fun _ h9 => h9) rfl dX4_removeAt_57 ?_
          refine lv_iconst (v := nI 1) hx hb dX4_removeAt_60 (by decide) ?_
          refine lv_isub hx hb dX4_removeAt_61 ?_
          refine lv_eqi (nI_sub1 (by omega)) ?_
          refine va_put (D := D) (ci := 4) (v := .int (nI (n - 1))) (ty := .int) (C := RX4) (T := TX4) (N := 4) hx hb hts ilX4_removeAt_4 tyX4 tyX4_ok nmX4 hown hG.1 hP hD hS 0 rfl rfl 2 (by decide) (hts (.fieldLink RX4 18 "HornEngine$Rulebook" "count" "I") (List.mem_of_getElem? (i := 1) rfl)) (fun _ h9 => h9) rfl (by decide +kernel) rfl rfl (Nat.le_of_ble_eq_true rfl) dX4_removeAt_62 (fun H locs hP hD hS => ?_)
          have hP : va_P D vwCl [(b, .inr (4, [.ref qh, .ref qb, .int (nI (n - 1)), .int as_])), (qh, .inl (cI, 24, .inl (rmF hs r k))), (qb, .inl (cI, 24, .inl (rmF bs r k)))] H := hP
          have hD : va_D A [(b, .inr (4, [.ref qh, .ref qb, .int (nI (n - 1)), .int as_])), (qh, .inl (cI, 24, .inl (rmF hs r k))), (qb, .inl (cI, 24, .inl (rmF bs r k)))] := hD
          exact hret () _ _ _ _ (rfl) (by rw [show n = k from by omega]; rw [show n = k from by omega] at hP; exact hP) (by rw [show n = k from by omega]; rw [show n = k from by omega] at hD; exact hD) hS dX4_removeAt_65
        · skip
          have c_3 : ¬ (n ≤ k) := fun h9 => (show ¬ (nI n ≤ nI k) from c_3) ((nI_leI (by omega) (by omega)).mpr h9)
          refine lv_aload_n hx hb dX4_removeAt_21 rfl (lv_at hl 0 rfl) ?_
          refine va_get (D := D) (ci := 4) (v := .ref qh) (C := RX4) (T := TX4) (N := 4) hx hb hts ilX4_removeAt_4 hown hG.1 hP 0 rfl rfl 0 (by decide) (hts (.fieldLink RX4 9 "HornEngine$Rulebook" "heads" "[I") (List.mem_of_getElem? (i := 2) rfl)) (fun _ h9 => h9) rfl dX4_removeAt_22 ?_
          refine lv_iload_n hx hb dX4_removeAt_25 rfl (lv_at hl 2 rfl) ?_
          refine lv_iconst (v := nI 1) hx hb dX4_removeAt_26 (by decide) ?_
          refine lv_isub hx hb dX4_removeAt_27 ?_
          refine lv_eqi (nI_sub1 (by omega)) ?_
          refine lv_aload_n hx hb dX4_removeAt_28 rfl (lv_at hl 0 rfl) ?_
          refine va_get (D := D) (ci := 4) (v := .ref qh) (C := RX4) (T := TX4) (N := 4) hx hb hts ilX4_removeAt_4 hown hG.1 hP 0 rfl rfl 0 (by decide) (hts (.fieldLink RX4 9 "HornEngine$Rulebook" "heads" "[I") (List.mem_of_getElem? (i := 2) rfl)) (fun _ h9 => h9) rfl dX4_removeAt_29 ?_
          refine lv_iload_n hx hb dX4_removeAt_32 rfl (lv_at hl 2 rfl) ?_
          refine ia_ld hx hb hG hP 1 rfl k rfl (by omega) (by decide) dX4_removeAt_33 ?_
          refine lv_eqi (rmF_at hs r k) ?_
          refine ia_st hx hb hG hP hD hS 1 rfl (k - 1) rfl (by omega) (by decide) dX4_removeAt_34 (fun H locs hP hD hS => ?_)
          rw [show upd (rmF hs r k) (k - 1) (hs k) = rmF hs r (k + 1) from rmF_st hs (by omega)] at hP hD
          have hP : va_P D vwCl [(b, .inr (4, [.ref qh, .ref qb, .int (nI n), .int as_])), (qh, .inl (cI, 24, .inl (rmF hs r (k + 1)))), (qb, .inl (cI, 24, .inl (rmF bs r k)))] H := hP
          have hD : va_D A [(b, .inr (4, [.ref qh, .ref qb, .int (nI n), .int as_])), (qh, .inl (cI, 24, .inl (rmF hs r (k + 1)))), (qb, .inl (cI, 24, .inl (rmF bs r k)))] := hD
          refine lv_aload_n hx hb dX4_removeAt_35 rfl (lv_at hl 0 rfl) ?_
          refine va_get (D := D) (ci := 4) (v := .ref qb) (C := RX4) (T := TX4) (N := 4) hx hb hts ilX4_removeAt_4 hown hG.1 hP 0 rfl rfl 1 (by decide) (hts (.fieldLink RX4 15 "HornEngine$Rulebook" "bodies" "[I") (List.mem_of_getElem? (i := 3) rfl)) (fun _ h9 => h9) rfl dX4_removeAt_36 ?_
          refine lv_iload_n hx hb dX4_removeAt_39 rfl (lv_at hl 2 rfl) ?_
          refine lv_iconst (v := nI 1) hx hb dX4_removeAt_40 (by decide) ?_
          refine lv_isub hx hb dX4_removeAt_41 ?_
          refine lv_eqi (nI_sub1 (by omega)) ?_
          refine lv_aload_n hx hb dX4_removeAt_42 rfl (lv_at hl 0 rfl) ?_
          refine va_get (D := D) (ci := 4) (v := .ref qb) (C := RX4) (T := TX4) (N := 4) hx hb hts ilX4_removeAt_4 hown hG.1 hP 0 rfl rfl 1 (by decide) (hts (.fieldLink RX4 15 "HornEngine$Rulebook" "bodies" "[I") (List.mem_of_getElem? (i := 3) rfl)) (fun _ h9 => h9) rfl dX4_removeAt_43 ?_
          refine lv_iload_n hx hb dX4_removeAt_46 rfl (lv_at hl 2 rfl) ?_
          refine ia_ld hx hb hG hP 2 rfl k rfl (by omega) (by decide) dX4_removeAt_47 ?_
          refine lv_eqi (rmF_at bs r k) ?_
          refine ia_st hx hb hG hP hD hS 2 rfl (k - 1) rfl (by omega) (by decide) dX4_removeAt_48 (fun H locs hP hD hS => ?_)
          rw [show upd (rmF bs r k) (k - 1) (bs k) = rmF bs r (k + 1) from rmF_st bs (by omega)] at hP hD
          have hP : va_P D vwCl [(b, .inr (4, [.ref qh, .ref qb, .int (nI n), .int as_])), (qh, .inl (cI, 24, .inl (rmF hs r (k + 1)))), (qb, .inl (cI, 24, .inl (rmF bs r (k + 1))))] H := hP
          have hD : va_D A [(b, .inr (4, [.ref qh, .ref qb, .int (nI n), .int as_])), (qh, .inl (cI, 24, .inl (rmF hs r (k + 1)))), (qb, .inl (cI, 24, .inl (rmF bs r (k + 1))))] := hD
          refine lv_iinc (v := nI (k + 1)) (lv' := [(2, .int (nI (k + 1))), (0, .ref b), (1, .int (nI r))]) hx hb dX4_removeAt_49 hl (k := 2) rfl (nI_s1 k) (by decide) rfl (fun ls hl => ?_)
          refine lv_goto (tgt := 13) hx hb dX4_removeAt_52 (by decide) ?_
          exact ih_13 (k + 1) (by omega) (by omega) (by omega) _ _ hP hD hS ls (lv_sub hl [1, 2, 0] rfl)
    exact lp_13_2 (n - (r + 1) + 1) (r + 1) (by omega) (by omega) (Nat.lt_succ_self _) _ _ hP hD hS ls (lv_sub hl [1, 2, 0] rfl)
  · skip
    have c_1 : (hasR (nI r) n) = false := bI_f.mp c_1
    exact absurd (hasR_of hr (by omega)) (by rw [c_1]; decide)
set_option maxHeartbeats 4000000 in
set_option maxRecDepth 100000 in
theorem k_X4_replaceAssumable (l : Launch) (D : va_G) (cI cB : ClassId) (b : Nat) (qh : Nat) (qb : Nat) (hs : Nat → Int32) (bs : Nat → Int32) (n : Nat) (as_ : Int32) (x : Int32) (hn : n ≤ 24) (sz : Nat) : Wr l yX4_replaceAssumable wsX4_replaceAssumable ({ frames := 0, cells := 0, slots := 0, locals := 0 }) D cI cB [.ref b, .int x] [(b, .inr (4, [.ref qh, .ref qb, .int (nI n), .int as_])), (qh, .inl (cI, 24, .inl hs)), (qb, .inl (cI, 24, .inl bs))] sz (S := Unit) (fun v u => v = some (.int as_)) (fun u => [(b, .inr (4, [.ref qh, .ref qb, .int (nI n), .int x])), (qh, .inl (cI, 24, .inl hs)), (qb, .inl (cI, 24, .inl bs))]) 0 0 := by
  refine ef_startI (cc := cX4_replaceAssumable) (maxL := 3) (by decide) rfl (Nat.le_of_ble_eq_true rfl) ?_
  intro p e s m args below meth c Q A hx hb hml hown hts hP hG hD hA hret ls hl
  have hown : s.vm.findClass RX4 = some m.cls := hown
  have hl : lv_has ls 3 [(0, .ref b), (1, .int x)] := hl
  have hS : va_S A s.heap s.heap [] := va_S.rf
  refine lv_aload_n hx hb dX4_replaceAssumable_0 rfl (lv_at hl 0 rfl) ?_
  refine va_get (D := D) (ci := 4) (v := .int as_) (C := RX4) (T := TX4) (N := 4) hx hb hts ilX4_replaceAssumable_4 hown hG.1 hP 0 rfl rfl 3 (by decide) (hts (.fieldLink RX4 26 "HornEngine$Rulebook" "assumable" "I") (List.mem_of_getElem? (i := 1) rfl)) (fun _ h9 => h9) rfl dX4_replaceAssumable_1 ?_
  refine lv_istore_n (lv' := [(2, .int as_), (0, .ref b), (1, .int x)]) hx hb dX4_replaceAssumable_4 rfl hl (by decide) rfl (fun ls hl => ?_)
  refine lv_aload_n hx hb dX4_replaceAssumable_5 rfl (lv_at hl 1 rfl) ?_
  refine lv_iload_n hx hb dX4_replaceAssumable_6 rfl (lv_at hl 2 rfl) ?_
  refine va_put (D := D) (ci := 4) (v := .int x) (ty := .int) (C := RX4) (T := TX4) (N := 4) hx hb hts ilX4_replaceAssumable_4 tyX4 tyX4_ok nmX4 hown hG.1 hP hD hS 0 rfl rfl 3 (by decide) (hts (.fieldLink RX4 26 "HornEngine$Rulebook" "assumable" "I") (List.mem_of_getElem? (i := 1) rfl)) (fun _ h9 => h9) rfl (by decide +kernel) rfl rfl (Nat.le_of_ble_eq_true rfl) dX4_replaceAssumable_7 (fun H locs hP hD hS => ?_)
  have hP : va_P D vwCl [(b, .inr (4, [.ref qh, .ref qb, .int (nI n), .int x])), (qh, .inl (cI, 24, .inl hs)), (qb, .inl (cI, 24, .inl bs))] H := hP
  have hD : va_D A [(b, .inr (4, [.ref qh, .ref qb, .int (nI n), .int x])), (qh, .inl (cI, 24, .inl hs)), (qb, .inl (cI, 24, .inl bs))] := hD
  refine lv_iload_n hx hb dX4_replaceAssumable_10 rfl (lv_at hl 0 rfl) ?_
  exact hret _ () _ _ _ _ (rfl) (hP) (hD) hS dX4_replaceAssumable_11
set_option maxHeartbeats 4000000 in
set_option maxRecDepth 100000 in
theorem k_X4_copyFrom (l : Launch) (D : va_G) (cI cB : ClassId) (b : Nat) (qh : Nat) (qb : Nat) (hs : Nat → Int32) (bs : Nat → Int32) (n : Nat) (as_ : Int32) (b2 : Nat) (qh2 : Nat) (qb2 : Nat) (hs2 : Nat → Int32) (bs2 : Nat → Int32) (n2 : Nat) (as2 : Int32) (hn2 : n2 ≤ 24) (sz : Nat) : Wr l yX4_copyFrom wsX4_copyFrom ({ frames := 0, cells := 0, slots := 0, locals := 0 }) D cI cB [.ref b, .ref b2] [(b, .inr (4, [.ref qh, .ref qb, .int (nI n), .int as_])), (qh, .inl (cI, 24, .inl hs)), (qb, .inl (cI, 24, .inl bs)), (b2, .inr (4, [.ref qh2, .ref qb2, .int (nI n2), .int as2])), (qh2, .inl (cI, 24, .inl hs2)), (qb2, .inl (cI, 24, .inl bs2))] sz (S := Unit) (fun v u => v = none) (fun u => [(b, .inr (4, [.ref qh, .ref qb, .int (nI n2), .int as2])), (qh, .inl (cI, 24, .inl (cpF hs2 hs n2))), (qb, .inl (cI, 24, .inl (cpF bs2 bs n2))), (b2, .inr (4, [.ref qh2, .ref qb2, .int (nI n2), .int as2])), (qh2, .inl (cI, 24, .inl hs2)), (qb2, .inl (cI, 24, .inl bs2))]) 0 0 := by
  refine ef_startV (cc := cX4_copyFrom) (maxL := 3) (by decide) rfl (Nat.le_of_ble_eq_true rfl) ?_
  intro p e s m args below meth c Q A hx hb hml hown hts hP hG hD hA hin hret ls hl
  have hown : s.vm.findClass RX4 = some m.cls := hown
  have hl : lv_has ls 3 [(0, .ref b), (1, .ref b2)] := hl
  have hS : va_S A s.heap s.heap [] := va_S.rf
  refine lv_iconst (v := nI 0) hx hb dX4_copyFrom_0 (by decide) ?_
  refine lv_istore_n (lv' := [(2, .int (nI 0)), (0, .ref b), (1, .ref b2)]) hx hb dX4_copyFrom_1 rfl hl (by decide) rfl (fun ls hl => ?_)
  have hP : va_P D vwCl [(b, .inr (4, [.ref qh, .ref qb, .int (nI n), .int as_])), (qh, .inl (cI, 24, .inl (cpF hs2 hs 0))), (qb, .inl (cI, 24, .inl (cpF bs2 bs 0))), (b2, .inr (4, [.ref qh2, .ref qb2, .int (nI n2), .int as2])), (qh2, .inl (cI, 24, .inl hs2)), (qb2, .inl (cI, 24, .inl bs2))] s.heap := by rw [cpF_0, cpF_0]; exact hP
  have hD : va_D A [(b, .inr (4, [.ref qh, .ref qb, .int (nI n), .int as_])), (qh, .inl (cI, 24, .inl (cpF hs2 hs 0))), (qb, .inl (cI, 24, .inl (cpF bs2 bs 0))), (b2, .inr (4, [.ref qh2, .ref qb2, .int (nI n2), .int as2])), (qh2, .inl (cI, 24, .inl hs2)), (qb2, .inl (cI, 24, .inl bs2))] := by rw [cpF_0, cpF_0]; exact hD
  have lp_2_1 : ∀ (fu_2 : Nat) (k : Nat) (hk : k ≤ n2) (hfu_2 : n2 - k < fu_2) (H : Heap) (locs : List Loc) (hP : va_P D vwCl [(b, .inr (4, [.ref qh, .ref qb, .int (nI n), .int as_])), (qh, .inl (cI, 24, .inl (cpF hs2 hs k))), (qb, .inl (cI, 24, .inl (cpF bs2 bs k))), (b2, .inr (4, [.ref qh2, .ref qb2, .int (nI n2), .int as2])), (qh2, .inl (cI, 24, .inl hs2)), (qb2, .inl (cI, 24, .inl bs2))] H) (hD : va_D A [(b, .inr (4, [.ref qh, .ref qb, .int (nI n), .int as_])), (qh, .inl (cI, 24, .inl (cpF hs2 hs k))), (qb, .inl (cI, 24, .inl (cpF bs2 bs k))), (b2, .inr (4, [.ref qh2, .ref qb2, .int (nI n2), .int as2])), (qh2, .inl (cI, 24, .inl hs2)), (qb2, .inl (cI, 24, .inl bs2))]) (hS : va_S A s.heap H locs) (ls : Array Slot) (hl : lv_has ls 3 [(0, .ref b), (1, .ref b2), (2, .int (nI k))]), W p l e ({ frames := 0, cells := 0, slots := 0, locals := 0 }) s m args below meth c H locs 0 0 Q (F0 m 2 ls []) := by
    intro fu_2
    induction fu_2 with
    | zero => intro k hk hfu; exact absurd hfu (Nat.not_lt_zero _)
    | succ fu_2 ih_2 =>
      intro k hk hfu_2 H locs hP hD hS ls hl
      refine lv_iload_n hx hb dX4_copyFrom_2 rfl (lv_at hl 2 rfl) ?_
      refine lv_aload_n hx hb dX4_copyFrom_3 rfl (lv_at hl 1 rfl) ?_
      refine va_get (D := D) (ci := 4) (v := .int (nI n2)) (C := RX4) (T := TX4) (N := 4) hx hb hts ilX4_copyFrom_4 hown hG.1 hP 3 rfl rfl 2 (by decide) (hts (.fieldLink RX4 18 "HornEngine$Rulebook" "count" "I") (List.mem_of_getElem? (i := 1) rfl)) (fun _ h9 => h9) rfl dX4_copyFrom_4 ?_
      refine lv_icmp_ge (tgt := 40) hx hb dX4_copyFrom_7 (by decide) (fun c_2 => ?_) (fun c_2 => ?_)
      · skip
        have c_2 : n2 ≤ k := (nI_leI (by omega) (by omega)).mp (show nI n2 ≤ nI k from c_2)
        refine lv_aload_n hx hb dX4_copyFrom_40 rfl (lv_at hl 0 rfl) ?_
        refine lv_aload_n hx hb dX4_copyFrom_41 rfl (lv_at hl 1 rfl) ?_
        refine va_get (D := D) (ci := 4) (v := .int (nI n2)) (C := RX4) (T := TX4) (N := 4) hx hb hts ilX4_copyFrom_4 hown hG.1 hP 3 rfl rfl 2 (by decide) (hts (.fieldLink RX4 18 "HornEngine$Rulebook" "count" "I") (List.mem_of_getElem? (i := 1) rfl)) (fun _ h9 => h9) rfl dX4_copyFrom_42 ?_
        refine va_put (D := D) (ci := 4) (v := .int (nI n2)) (ty := .int) (C := RX4) (T := TX4) (N := 4) hx hb hts ilX4_copyFrom_4 tyX4 tyX4_ok nmX4 hown hG.1 hP hD hS 0 rfl rfl 2 (by decide) (hts (.fieldLink RX4 18 "HornEngine$Rulebook" "count" "I") (List.mem_of_getElem? (i := 1) rfl)) (fun _ h9 => h9) rfl (by decide +kernel) rfl rfl (Nat.le_of_ble_eq_true rfl) dX4_copyFrom_45 (fun H locs hP hD hS => ?_)
        have hP : va_P D vwCl [(b, .inr (4, [.ref qh, .ref qb, .int (nI n2), .int as_])), (qh, .inl (cI, 24, .inl (cpF hs2 hs k))), (qb, .inl (cI, 24, .inl (cpF bs2 bs k))), (b2, .inr (4, [.ref qh2, .ref qb2, .int (nI n2), .int as2])), (qh2, .inl (cI, 24, .inl hs2)), (qb2, .inl (cI, 24, .inl bs2))] H := hP
        have hD : va_D A [(b, .inr (4, [.ref qh, .ref qb, .int (nI n2), .int as_])), (qh, .inl (cI, 24, .inl (cpF hs2 hs k))), (qb, .inl (cI, 24, .inl (cpF bs2 bs k))), (b2, .inr (4, [.ref qh2, .ref qb2, .int (nI n2), .int as2])), (qh2, .inl (cI, 24, .inl hs2)), (qb2, .inl (cI, 24, .inl bs2))] := hD
        refine lv_aload_n hx hb dX4_copyFrom_48 rfl (lv_at hl 0 rfl) ?_
        refine lv_aload_n hx hb dX4_copyFrom_49 rfl (lv_at hl 1 rfl) ?_
        refine va_get (D := D) (ci := 4) (v := .int as2) (C := RX4) (T := TX4) (N := 4) hx hb hts ilX4_copyFrom_4 hown hG.1 hP 3 rfl rfl 3 (by decide) (hts (.fieldLink RX4 26 "HornEngine$Rulebook" "assumable" "I") (List.mem_of_getElem? (i := 4) rfl)) (fun _ h9 => h9) rfl dX4_copyFrom_50 ?_
        refine va_put (D := D) (ci := 4) (v := .int as2) (ty := .int) (C := RX4) (T := TX4) (N := 4) hx hb hts ilX4_copyFrom_4 tyX4 tyX4_ok nmX4 hown hG.1 hP hD hS 0 rfl rfl 3 (by decide) (hts (.fieldLink RX4 26 "HornEngine$Rulebook" "assumable" "I") (List.mem_of_getElem? (i := 4) rfl)) (fun _ h9 => h9) rfl (by decide +kernel) rfl rfl (Nat.le_of_ble_eq_true rfl) dX4_copyFrom_53 (fun H locs hP hD hS => ?_)
        have hP : va_P D vwCl [(b, .inr (4, [.ref qh, .ref qb, .int (nI n2), .int as2])), (qh, .inl (cI, 24, .inl (cpF hs2 hs k))), (qb, .inl (cI, 24, .inl (cpF bs2 bs k))), (b2, .inr (4, [.ref qh2, .ref qb2, .int (nI n2), .int as2])), (qh2, .inl (cI, 24, .inl hs2)), (qb2, .inl (cI, 24, .inl bs2))] H := hP
        have hD : va_D A [(b, .inr (4, [.ref qh, .ref qb, .int (nI n2), .int as2])), (qh, .inl (cI, 24, .inl (cpF hs2 hs k))), (qb, .inl (cI, 24, .inl (cpF bs2 bs k))), (b2, .inr (4, [.ref qh2, .ref qb2, .int (nI n2), .int as2])), (qh2, .inl (cI, 24, .inl hs2)), (qb2, .inl (cI, 24, .inl bs2))] := hD
        exact hret () _ _ _ _ (rfl) (by rw [show n2 = k from by omega]; rw [show n2 = k from by omega] at hP; exact hP) (by rw [show n2 = k from by omega]; rw [show n2 = k from by omega] at hD; exact hD) hS dX4_copyFrom_56
      · skip
        have c_2 : ¬ (n2 ≤ k) := fun h9 => (show ¬ (nI n2 ≤ nI k) from c_2) ((nI_leI (by omega) (by omega)).mpr h9)
        refine lv_aload_n hx hb dX4_copyFrom_10 rfl (lv_at hl 0 rfl) ?_
        refine va_get (D := D) (ci := 4) (v := .ref qh) (C := RX4) (T := TX4) (N := 4) hx hb hts ilX4_copyFrom_4 hown hG.1 hP 0 rfl rfl 0 (by decide) (hts (.fieldLink RX4 9 "HornEngine$Rulebook" "heads" "[I") (List.mem_of_getElem? (i := 2) rfl)) (fun _ h9 => h9) rfl dX4_copyFrom_11 ?_
        refine lv_iload_n hx hb dX4_copyFrom_14 rfl (lv_at hl 2 rfl) ?_
        refine lv_aload_n hx hb dX4_copyFrom_15 rfl (lv_at hl 1 rfl) ?_
        refine va_get (D := D) (ci := 4) (v := .ref qh2) (C := RX4) (T := TX4) (N := 4) hx hb hts ilX4_copyFrom_4 hown hG.1 hP 3 rfl rfl 0 (by decide) (hts (.fieldLink RX4 9 "HornEngine$Rulebook" "heads" "[I") (List.mem_of_getElem? (i := 2) rfl)) (fun _ h9 => h9) rfl dX4_copyFrom_16 ?_
        refine lv_iload_n hx hb dX4_copyFrom_19 rfl (lv_at hl 2 rfl) ?_
        refine ia_ld hx hb hG hP 4 rfl k rfl (by omega) (by decide) dX4_copyFrom_20 ?_
        refine ia_st hx hb hG hP hD hS 1 rfl k rfl (by omega) (by decide) dX4_copyFrom_21 (fun H locs hP hD hS => ?_)
        rw [show upd (cpF hs2 hs k) k (hs2 k) = cpF hs2 hs (k + 1) from cpF_st hs2 hs k] at hP hD
        have hP : va_P D vwCl [(b, .inr (4, [.ref qh, .ref qb, .int (nI n), .int as_])), (qh, .inl (cI, 24, .inl (cpF hs2 hs (k + 1)))), (qb, .inl (cI, 24, .inl (cpF bs2 bs k))), (b2, .inr (4, [.ref qh2, .ref qb2, .int (nI n2), .int as2])), (qh2, .inl (cI, 24, .inl hs2)), (qb2, .inl (cI, 24, .inl bs2))] H := hP
        have hD : va_D A [(b, .inr (4, [.ref qh, .ref qb, .int (nI n), .int as_])), (qh, .inl (cI, 24, .inl (cpF hs2 hs (k + 1)))), (qb, .inl (cI, 24, .inl (cpF bs2 bs k))), (b2, .inr (4, [.ref qh2, .ref qb2, .int (nI n2), .int as2])), (qh2, .inl (cI, 24, .inl hs2)), (qb2, .inl (cI, 24, .inl bs2))] := hD
        refine lv_aload_n hx hb dX4_copyFrom_22 rfl (lv_at hl 0 rfl) ?_
        refine va_get (D := D) (ci := 4) (v := .ref qb) (C := RX4) (T := TX4) (N := 4) hx hb hts ilX4_copyFrom_4 hown hG.1 hP 0 rfl rfl 1 (by decide) (hts (.fieldLink RX4 15 "HornEngine$Rulebook" "bodies" "[I") (List.mem_of_getElem? (i := 3) rfl)) (fun _ h9 => h9) rfl dX4_copyFrom_23 ?_
        refine lv_iload_n hx hb dX4_copyFrom_26 rfl (lv_at hl 2 rfl) ?_
        refine lv_aload_n hx hb dX4_copyFrom_27 rfl (lv_at hl 1 rfl) ?_
        refine va_get (D := D) (ci := 4) (v := .ref qb2) (C := RX4) (T := TX4) (N := 4) hx hb hts ilX4_copyFrom_4 hown hG.1 hP 3 rfl rfl 1 (by decide) (hts (.fieldLink RX4 15 "HornEngine$Rulebook" "bodies" "[I") (List.mem_of_getElem? (i := 3) rfl)) (fun _ h9 => h9) rfl dX4_copyFrom_28 ?_
        refine lv_iload_n hx hb dX4_copyFrom_31 rfl (lv_at hl 2 rfl) ?_
        refine ia_ld hx hb hG hP 5 rfl k rfl (by omega) (by decide) dX4_copyFrom_32 ?_
        refine ia_st hx hb hG hP hD hS 2 rfl k rfl (by omega) (by decide) dX4_copyFrom_33 (fun H locs hP hD hS => ?_)
        rw [show upd (cpF bs2 bs k) k (bs2 k) = cpF bs2 bs (k + 1) from cpF_st bs2 bs k] at hP hD
        have hP : va_P D vwCl [(b, .inr (4, [.ref qh, .ref qb, .int (nI n), .int as_])), (qh, .inl (cI, 24, .inl (cpF hs2 hs (k + 1)))), (qb, .inl (cI, 24, .inl (cpF bs2 bs (k + 1)))), (b2, .inr (4, [.ref qh2, .ref qb2, .int (nI n2), .int as2])), (qh2, .inl (cI, 24, .inl hs2)), (qb2, .inl (cI, 24, .inl bs2))] H := hP
        have hD : va_D A [(b, .inr (4, [.ref qh, .ref qb, .int (nI n), .int as_])), (qh, .inl (cI, 24, .inl (cpF hs2 hs (k + 1)))), (qb, .inl (cI, 24, .inl (cpF bs2 bs (k + 1)))), (b2, .inr (4, [.ref qh2, .ref qb2, .int (nI n2), .int as2])), (qh2, .inl (cI, 24, .inl hs2)), (qb2, .inl (cI, 24, .inl bs2))] := hD
        refine lv_iinc (v := nI (k + 1)) (lv' := [(2, .int (nI (k + 1))), (0, .ref b), (1, .ref b2)]) hx hb dX4_copyFrom_34 hl (k := 2) rfl (nI_s1 k) (by decide) rfl (fun ls hl => ?_)
        refine lv_goto (tgt := 2) hx hb dX4_copyFrom_37 (by decide) ?_
        exact ih_2 (k + 1) (by omega) (by omega) _ _ hP hD hS ls (lv_sub hl [1, 2, 0] rfl)
  exact lp_2_1 (n2 - 0 + 1) 0 (by omega) (Nat.lt_succ_self _) _ _ hP hD hS ls (lv_sub hl [1, 2, 0] rfl)
end
section
/-! the saved states as values -/
def tab (f : Nat → Int32) (n : Nat) : List Int32 := (List.range n).map f
def snap (hs bs : Nat → Int32) (n : Nat) (as_ : Int32) : List (Int32 × Int32) × Int32 := ((List.range n).map (fun j => (hs j, bs j)), as_)
theorem snap_cp (f f2 g g2 : Nat → Int32) (n : Nat) (x : Int32) : snap (cpF f g n) (cpF f2 g2 n) n x = snap f f2 n x := by
  unfold snap
  refine Prod.ext ?_ rfl
  refine List.map_congr_left fun j hj => ?_
  have hj := List.mem_range.mp hj
  show (cpF f g n j, cpF f2 g2 n j) = (f j, f2 j)
  unfold cpF
  rw [if_pos hj, if_pos hj]
def hsv (BH BB : Nat → Nat → Int32) (Bn : Nat → Nat) (Ba : Nat → Int32) (k : Nat) : List (List (Int32 × Int32) × Int32) := (List.range k).map (fun i => snap (BH i) (BB i) (Bn i) (Ba i))
/-- one state more is saved, at most four -/
def svP (hv : List (List (Int32 × Int32) × Int32)) (x : List (Int32 × Int32) × Int32) : List (List (Int32 × Int32) × Int32) := (if hv.length < 4 then hv else hv.drop 1) ++ [x]
/-- the addresses of the saved states in the array -/
def svF (bA : Nat → Nat) : Nat → Option Nat := fun j => if j < 4 then some (bA j) else none
def rot {α : Type} (f : Nat → α) : Nat → α := fun j => if j < 3 then f (j + 1) else f 0
theorem svF_rot (bA : Nat → Nat) : va_up (va_up (va_up (va_up (svF bA) 0 (some (bA 1))) 1 (some (bA 2))) 2 (some (bA 3))) 3 (some (bA 0)) = svF (rot bA) := by
  funext j
  match j with
  | 0 => rfl
  | 1 => rfl
  | 2 => rfl
  | 3 => rfl
  | j + 4 =>
    have h0 : ¬ j + 4 < 4 := by omega
    simp [va_up, svF, h0]
theorem hsv_len (BH BB : Nat → Nat → Int32) (Bn : Nat → Nat) (Ba : Nat → Int32) (k : Nat) : (hsv BH BB Bn Ba k).length = k := by simp [hsv]
/-- book k is written anew, behind the others -/
theorem hsv_put (BH BB : Nat → Nat → Int32) (Bn : Nat → Nat) (Ba : Nat → Int32) {k : Nat} (hk : k < 4) (hs bs : Nat → Int32) (n : Nat) (as_ : Int32) :
    hsv (va_up BH k (cpF hs (BH k) n)) (va_up BB k (cpF bs (BB k) n)) (va_up Bn k n) (va_up Ba k as_) (k + 1) = svP (hsv BH BB Bn Ba k) (snap hs bs n as_) := by
  unfold svP
  rw [if_pos (by rw [hsv_len]; exact hk)]
  unfold hsv
  rw [List.range_succ, List.map_append]
  congr 1
  · refine List.map_congr_left fun j hj => ?_
    have hj : j ≠ k := Nat.ne_of_lt (List.mem_range.mp hj)
    simp [va_up, hj]
  · show [snap _ _ _ _] = _
    simp only [va_up, reduceIte]
    rw [snap_cp]
theorem hsv_rot (BH BB : Nat → Nat → Int32) (Bn : Nat → Nat) (Ba : Nat → Int32) (hs bs : Nat → Int32) (n : Nat) (as_ : Int32) :
    hsv (va_up (rot BH) 3 (cpF hs (BH 0) n)) (va_up (rot BB) 3 (cpF bs (BB 0) n)) (va_up (rot Bn) 3 n) (va_up (rot Ba) 3 as_) 4 = svP (hsv BH BB Bn Ba 4) (snap hs bs n as_) := by
  unfold svP
  rw [if_neg (by rw [hsv_len]; decide)]
  show [snap _ _ _ _, snap _ _ _ _, snap _ _ _ _, snap (cpF hs (BH 0) n) (cpF bs (BB 0) n) n as_] = [snap _ _ _ _, snap _ _ _ _, snap _ _ _ _] ++ [snap hs bs n as_]
  rw [snap_cp]
  rfl
end
section
theorem ilX0_size_0 : ∀ w ∈ u_ws RX0 TX0 2, w ∈ wsX0_size := by decide +kernel
theorem ilX0_isEmpty_0 : ∀ w ∈ u_ws RX0 TX0 2, w ∈ wsX0_isEmpty := by decide +kernel
theorem ilX0_dropOldest_0 : ∀ w ∈ u_ws RX0 TX0 2, w ∈ wsX0_dropOldest := by decide +kernel
theorem ilX0_save_0 : ∀ w ∈ u_ws RX0 TX0 2, w ∈ wsX0_save := by decide +kernel
theorem ilX0_restore_0 : ∀ w ∈ u_ws RX0 TX0 2, w ∈ wsX0_restore := by decide +kernel
set_option maxHeartbeats 4000000 in
set_option maxRecDepth 100000 in
theorem k_X0_size (l : Launch) (D : va_G) (cI cB : ClassId) (h : Nat) (qs : Nat) (k : Nat) (bA : Nat → Nat) (bH : Nat → Nat) (bB : Nat → Nat) (BH : Nat → Nat → Int32) (BB : Nat → Nat → Int32) (Bn : Nat → Nat) (Ba : Nat → Int32) : Rd l yX0_size wsX0_size ({ frames := 0, cells := 0, slots := 0, locals := 0 }) D cI cB [.ref h] [(h, .inr (0, [.ref qs, .int (nI k)])), (qs, .inl (cB, 4, .inr (.inr (.inr (.inr (svF bA))))))] (.int (nI k)) := by
  refine pu_startI (cc := cX0_size) (maxL := 1) (by decide) rfl (Nat.le_of_ble_eq_true rfl) ?_
  intro p e s m args below meth c Q hx hb hml hown hts hP hG hret ls hl
  have hown : s.vm.findClass RX0 = some m.cls := hown
  have hl : lv_has ls 1 [(0, .ref h)] := hl
  refine lv_aload_n hx hb dX0_size_0 rfl (lv_at hl 0 rfl) ?_
  refine va_get (D := D) (ci := 0) (v := .int (nI k)) (C := RX0) (T := TX0) (N := 2) hx hb hts ilX0_size_0 hown hG.1 hP 0 rfl rfl 1 (by decide) (hts (.fieldLink RX0 18 "HornEngine$History" "count" "I") (List.mem_of_getElem? (i := 1) rfl)) (fun _ h9 => h9) rfl dX0_size_1 ?_
  exact hret _ _ _ rfl dX0_size_4
set_option maxHeartbeats 4000000 in
set_option maxRecDepth 100000 in
theorem k_X0_isEmpty (l : Launch) (D : va_G) (cI cB : ClassId) (h : Nat) (qs : Nat) (k : Nat) (bA : Nat → Nat) (bH : Nat → Nat) (bB : Nat → Nat) (BH : Nat → Nat → Int32) (BB : Nat → Nat → Int32) (Bn : Nat → Nat) (Ba : Nat → Int32) (hk : k ≤ 4) : Rd l yX0_isEmpty wsX0_isEmpty ({ frames := 0, cells := 0, slots := 0, locals := 0 }) D cI cB [.ref h] [(h, .inr (0, [.ref qs, .int (nI k)])), (qs, .inl (cB, 4, .inr (.inr (.inr (.inr (svF bA))))))] (.int (bI (decide (k = 0)))) := by
  refine pu_startZ (cc := cX0_isEmpty) (maxL := 1) (by decide) rfl (Nat.le_of_ble_eq_true rfl) ?_
  intro p e s m args below meth c Q hx hb hml hown hts hP hG hret ls hl
  have hown : s.vm.findClass RX0 = some m.cls := hown
  have hl : lv_has ls 1 [(0, .ref h)] := hl
  refine lv_aload_n hx hb dX0_isEmpty_0 rfl (lv_at hl 0 rfl) ?_
  refine va_get (D := D) (ci := 0) (v := .int (nI k)) (C := RX0) (T := TX0) (N := 2) hx hb hts ilX0_isEmpty_0 hown hG.1 hP 0 rfl rfl 1 (by decide) (hts (.fieldLink RX0 18 "HornEngine$History" "count" "I") (List.mem_of_getElem? (i := 1) rfl)) (fun _ h9 => h9) rfl dX0_isEmpty_1 ?_
  refine lv_if_gt (tgt := 11) hx hb dX0_isEmpty_4 (by decide) (fun c_1 => ?_) (fun c_1 => ?_)
  · skip
    have c_1 : 0 < k := (nI_ltI (by omega) (by omega)).mp (show nI 0 < nI k from c_1)
    refine lv_iconst (v := nI 0) hx hb dX0_isEmpty_11 (by decide) ?_
    exact hret _ _ _ (bI_0 (decide_eq_false (by omega))) dX0_isEmpty_12
  · skip
    have c_1 : ¬ (0 < k) := fun h9 => (show ¬ (nI 0 < nI k) from c_1) ((nI_ltI (by omega) (by omega)).mpr h9)
    refine lv_iconst (v := nI 1) hx hb dX0_isEmpty_7 (by decide) ?_
    refine lv_goto (tgt := 12) hx hb dX0_isEmpty_8 (by decide) ?_
    exact hret _ _ _ (bI_1 (decide_eq_true (by omega))) dX0_isEmpty_12
set_option maxHeartbeats 4000000 in
set_option maxRecDepth 100000 in
theorem k_X0_dropOldest (l : Launch) (D : va_G) (cI cB : ClassId) (h : Nat) (qs : Nat) (k : Nat) (bA : Nat → Nat) (bH : Nat → Nat) (bB : Nat → Nat) (BH : Nat → Nat → Int32) (BB : Nat → Nat → Int32) (Bn : Nat → Nat) (Ba : Nat → Int32) (sz : Nat) : Wr l yX0_dropOldest wsX0_dropOldest ({ frames := 0, cells := 0, slots := 0, locals := 0 }) D cI cB [.ref h] [(h, .inr (0, [.ref qs, .int (nI k)])), (qs, .inl (cB, 4, .inr (.inr (.inr (.inr (svF bA)))))), (bA 0, .inr (4, [.ref (bH 0), .ref (bB 0), .int (nI (Bn 0)), .int (Ba 0)])), (bA 1, .inr (4, [.ref (bH 1), .ref (bB 1), .int (nI (Bn 1)), .int (Ba 1)])), (bA 2, .inr (4, [.ref (bH 2), .ref (bB 2), .int (nI (Bn 2)), .int (Ba 2)])), (bA 3, .inr (4, [.ref (bH 3), .ref (bB 3), .int (nI (Bn 3)), .int (Ba 3)]))] sz (S := Unit) (fun v u => v = none) (fun u => [(h, .inr (0, [.ref qs, .int (nI 3)])), (qs, .inl (cB, 4, .inr (.inr (.inr (.inr (svF (rot bA))))))), (bA 0, .inr (4, [.ref (bH 0), .ref (bB 0), .int (nI (Bn 0)), .int (Ba 0)])), (bA 1, .inr (4, [.ref (bH 1), .ref (bB 1), .int (nI (Bn 1)), .int (Ba 1)])), (bA 2, .inr (4, [.ref (bH 2), .ref (bB 2), .int (nI (Bn 2)), .int (Ba 2)])), (bA 3, .inr (4, [.ref (bH 3), .ref (bB 3), .int (nI (Bn 3)), .int (Ba 3)]))]) 0 0 := by
  refine ef_startV (cc := cX0_dropOldest) (maxL := 3) (by decide) rfl (Nat.le_of_ble_eq_true rfl) ?_
  intro p e s m args below meth c Q A hx hb hml hown hts hP hG hD hA hin hret ls hl
  have hown : s.vm.findClass RX0 = some m.cls := hown
  have hl : lv_has ls 3 [(0, .ref h)] := hl
  have hS : va_S A s.heap s.heap [] := va_S.rf
  refine lv_aload_n hx hb dX0_dropOldest_0 rfl (lv_at hl 0 rfl) ?_
  refine va_get (D := D) (ci := 0) (v := .ref qs) (C := RX0) (T := TX0) (N := 2) hx hb hts ilX0_dropOldest_0 hown hG.1 hP 0 rfl rfl 0 (by decide) (hts (.fieldLink RX0 11 "HornEngine$History" "saved" "[LHornEngine$Rulebook;") (List.mem_of_getElem? (i := 1) rfl)) (fun _ h9 => h9) rfl dX0_dropOldest_1 ?_
  refine lv_iconst (v := nI 0) hx hb dX0_dropOldest_4 (by decide) ?_
  refine qa_ld hx hb hG hP 1 rfl 0 rfl (by omega) (by decide) rfl dX0_dropOldest_5 ?_
  refine lv_astore_n (lv' := [(1, .ref (bA 0)), (0, .ref h)]) hx hb dX0_dropOldest_6 rfl hl (by decide) rfl (fun ls hl => ?_)
  refine lv_iconst (v := nI 1) hx hb dX0_dropOldest_7 (by decide) ?_
  refine lv_istore_n (lv' := [(2, .int (nI 1)), (1, .ref (bA 0)), (0, .ref h)]) hx hb dX0_dropOldest_8 rfl hl (by decide) rfl (fun ls hl => ?_)
  refine lv_iload_n hx hb dX0_dropOldest_9 rfl (lv_at hl 0 rfl) ?_
  refine lv_iconst (v := nI 4) hx hb dX0_dropOldest_10 (by decide) ?_
  refine lv_icmp_ge (tgt := 34) hx hb dX0_dropOldest_11 (by decide) (fun c_1 => absurd c_1 (by decide)) (fun _ => ?_)
  refine lv_aload_n hx hb dX0_dropOldest_14 rfl (lv_at hl 2 rfl) ?_
  refine va_get (D := D) (ci := 0) (v := .ref qs) (C := RX0) (T := TX0) (N := 2) hx hb hts ilX0_dropOldest_0 hown hG.1 hP 0 rfl rfl 0 (by decide) (hts (.fieldLink RX0 11 "HornEngine$History" "saved" "[LHornEngine$Rulebook;") (List.mem_of_getElem? (i := 1) rfl)) (fun _ h9 => h9) rfl dX0_dropOldest_15 ?_
  refine lv_iload_n hx hb dX0_dropOldest_18 rfl (lv_at hl 0 rfl) ?_
  refine lv_iconst (v := nI 1) hx hb dX0_dropOldest_19 (by decide) ?_
  refine lv_isub hx hb dX0_dropOldest_20 ?_
  refine lv_eqi (show (nI 1) - (nI 1) = nI 0 by decide) ?_
  refine lv_aload_n hx hb dX0_dropOldest_21 rfl (lv_at hl 2 rfl) ?_
  refine va_get (D := D) (ci := 0) (v := .ref qs) (C := RX0) (T := TX0) (N := 2) hx hb hts ilX0_dropOldest_0 hown hG.1 hP 0 rfl rfl 0 (by decide) (hts (.fieldLink RX0 11 "HornEngine$History" "saved" "[LHornEngine$Rulebook;") (List.mem_of_getElem? (i := 1) rfl)) (fun _ h9 => h9) rfl dX0_dropOldest_22 ?_
  refine lv_iload_n hx hb dX0_dropOldest_25 rfl (lv_at hl 0 rfl) ?_
  refine qa_ld hx hb hG hP 1 rfl 1 rfl (by omega) (by decide) rfl dX0_dropOldest_26 ?_
  refine qa_st hx hb hG hP hD hS 1 rfl 3 rfl 0 rfl (by omega) (by decide) dX0_dropOldest_27 (fun H locs hP hD hS => ?_)
  have hP : va_P D vwCl [(h, .inr (0, [.ref qs, .int (nI k)])), (qs, .inl (cB, 4, .inr (.inr (.inr (.inr (va_up (svF bA) 0 (some (bA 1)))))))), (bA 0, .inr (4, [.ref (bH 0), .ref (bB 0), .int (nI (Bn 0)), .int (Ba 0)])), (bA 1, .inr (4, [.ref (bH 1), .ref (bB 1), .int (nI (Bn 1)), .int (Ba 1)])), (bA 2, .inr (4, [.ref (bH 2), .ref (bB 2), .int (nI (Bn 2)), .int (Ba 2)])), (bA 3, .inr (4, [.ref (bH 3), .ref (bB 3), .int (nI (Bn 3)), .int (Ba 3)]))] H := hP
  have hD : va_D A [(h, .inr (0, [.ref qs, .int (nI k)])), (qs, .inl (cB, 4, .inr (.inr (.inr (.inr (va_up (svF bA) 0 (some (bA 1)))))))), (bA 0, .inr (4, [.ref (bH 0), .ref (bB 0), .int (nI (Bn 0)), .int (Ba 0)])), (bA 1, .inr (4, [.ref (bH 1), .ref (bB 1), .int (nI (Bn 1)), .int (Ba 1)])), (bA 2, .inr (4, [.ref (bH 2), .ref (bB 2), .int (nI (Bn 2)), .int (Ba 2)])), (bA 3, .inr (4, [.ref (bH 3), .ref (bB 3), .int (nI (Bn 3)), .int (Ba 3)]))] := hD
  refine lv_iinc (v := nI 2) (lv' := [(2, .int (nI 2)), (1, .ref (bA 0)), (0, .ref h)]) hx hb dX0_dropOldest_28 hl (k := 0) rfl (by decide) (by decide) rfl (fun ls hl => ?_)
  refine lv_goto (tgt := 9) hx hb dX0_dropOldest_31 (by decide) ?_
  refine lv_iload_n hx hb dX0_dropOldest_9 rfl (lv_at hl 0 rfl) ?_
  refine lv_iconst (v := nI 4) hx hb dX0_dropOldest_10 (by decide) ?_
  refine lv_icmp_ge (tgt := 34) hx hb dX0_dropOldest_11 (by decide) (fun c_2 => absurd c_2 (by decide)) (fun _ => ?_)
  refine lv_aload_n hx hb dX0_dropOldest_14 rfl (lv_at hl 2 rfl) ?_
  refine va_get (D := D) (ci := 0) (v := .ref qs) (C := RX0) (T := TX0) (N := 2) hx hb hts ilX0_dropOldest_0 hown hG.1 hP 0 rfl rfl 0 (by decide) (hts (.fieldLink RX0 11 "HornEngine$History" "saved" "[LHornEngine$Rulebook;") (List.mem_of_getElem? (i := 1) rfl)) (fun _ h9 => h9) rfl dX0_dropOldest_15 ?_
  refine lv_iload_n hx hb dX0_dropOldest_18 rfl (lv_at hl 0 rfl) ?_
  refine lv_iconst (v := nI 1) hx hb dX0_dropOldest_19 (by decide) ?_
  refine lv_isub hx hb dX0_dropOldest_20 ?_
  refine lv_eqi (show (nI 2) - (nI 1) = nI 1 by decide) ?_
  refine lv_aload_n hx hb dX0_dropOldest_21 rfl (lv_at hl 2 rfl) ?_
  refine va_get (D := D) (ci := 0) (v := .ref qs) (C := RX0) (T := TX0) (N := 2) hx hb hts ilX0_dropOldest_0 hown hG.1 hP 0 rfl rfl 0 (by decide) (hts (.fieldLink RX0 11 "HornEngine$History" "saved" "[LHornEngine$Rulebook;") (List.mem_of_getElem? (i := 1) rfl)) (fun _ h9 => h9) rfl dX0_dropOldest_22 ?_
  refine lv_iload_n hx hb dX0_dropOldest_25 rfl (lv_at hl 0 rfl) ?_
  refine qa_ld hx hb hG hP 1 rfl 2 rfl (by omega) (by decide) rfl dX0_dropOldest_26 ?_
  refine qa_st hx hb hG hP hD hS 1 rfl 4 rfl 1 rfl (by omega) (by decide) dX0_dropOldest_27 (fun H locs hP hD hS => ?_)
  have hP : va_P D vwCl [(h, .inr (0, [.ref qs, .int (nI k)])), (qs, .inl (cB, 4, .inr (.inr (.inr (.inr (va_up (va_up (svF bA) 0 (some (bA 1))) 1 (some (bA 2)))))))), (bA 0, .inr (4, [.ref (bH 0), .ref (bB 0), .int (nI (Bn 0)), .int (Ba 0)])), (bA 1, .inr (4, [.ref (bH 1), .ref (bB 1), .int (nI (Bn 1)), .int (Ba 1)])), (bA 2, .inr (4, [.ref (bH 2), .ref (bB 2), .int (nI (Bn 2)), .int (Ba 2)])), (bA 3, .inr (4, [.ref (bH 3), .ref (bB 3), .int (nI (Bn 3)), .int (Ba 3)]))] H := hP
  have hD : va_D A [(h, .inr (0, [.ref qs, .int (nI k)])), (qs, .inl (cB, 4, .inr (.inr (.inr (.inr (va_up (va_up (svF bA) 0 (some (bA 1))) 1 (some (bA 2)))))))), (bA 0, .inr (4, [.ref (bH 0), .ref (bB 0), .int (nI (Bn 0)), .int (Ba 0)])), (bA 1, .inr (4, [.ref (bH 1), .ref (bB 1), .int (nI (Bn 1)), .int (Ba 1)])), (bA 2, .inr (4, [.ref (bH 2), .ref (bB 2), .int (nI (Bn 2)), .int (Ba 2)])), (bA 3, .inr (4, [.ref (bH 3), .ref (bB 3), .int (nI (Bn 3)), .int (Ba 3)]))] := hD
  refine lv_iinc (v := nI 3) (lv' := [(2, .int (nI 3)), (1, .ref (bA 0)), (0, .ref h)]) hx hb dX0_dropOldest_28 hl (k := 0) rfl (by decide) (by decide) rfl (fun ls hl => ?_)
  refine lv_goto (tgt := 9) hx hb dX0_dropOldest_31 (by decide) ?_
  refine lv_iload_n hx hb dX0_dropOldest_9 rfl (lv_at hl 0 rfl) ?_
  refine lv_iconst (v := nI 4) hx hb dX0_dropOldest_10 (by decide) ?_
  refine lv_icmp_ge (tgt := 34) hx hb dX0_dropOldest_11 (by decide) (fun c_3 => absurd c_3 (by decide)) (fun _ => ?_)
  refine lv_aload_n hx hb dX0_dropOldest_14 rfl (lv_at hl 2 rfl) ?_
  refine va_get (D := D) (ci := 0) (v := .ref qs) (C := RX0) (T := TX0) (N := 2) hx hb hts ilX0_dropOldest_0 hown hG.1 hP 0 rfl rfl 0 (by decide) (hts (.fieldLink RX0 11 "HornEngine$History" "saved" "[LHornEngine$Rulebook;") (List.mem_of_getElem? (i := 1) rfl)) (fun _ h9 => h9) rfl dX0_dropOldest_15 ?_
  refine lv_iload_n hx hb dX0_dropOldest_18 rfl (lv_at hl 0 rfl) ?_
  refine lv_iconst (v := nI 1) hx hb dX0_dropOldest_19 (by decide) ?_
  refine lv_isub hx hb dX0_dropOldest_20 ?_
  refine lv_eqi (show (nI 3) - (nI 1) = nI 2 by decide) ?_
  refine lv_aload_n hx hb dX0_dropOldest_21 rfl (lv_at hl 2 rfl) ?_
  refine va_get (D := D) (ci := 0) (v := .ref qs) (C := RX0) (T := TX0) (N := 2) hx hb hts ilX0_dropOldest_0 hown hG.1 hP 0 rfl rfl 0 (by decide) (hts (.fieldLink RX0 11 "HornEngine$History" "saved" "[LHornEngine$Rulebook;") (List.mem_of_getElem? (i := 1) rfl)) (fun _ h9 => h9) rfl dX0_dropOldest_22 ?_
  refine lv_iload_n hx hb dX0_dropOldest_25 rfl (lv_at hl 0 rfl) ?_
  refine qa_ld hx hb hG hP 1 rfl 3 rfl (by omega) (by decide) rfl dX0_dropOldest_26 ?_
  refine qa_st hx hb hG hP hD hS 1 rfl 5 rfl 2 rfl (by omega) (by decide) dX0_dropOldest_27 (fun H locs hP hD hS => ?_)
  have hP : va_P D vwCl [(h, .inr (0, [.ref qs, .int (nI k)])), (qs, .inl (cB, 4, .inr (.inr (.inr (.inr (va_up (va_up (va_up (svF bA) 0 (some (bA 1))) 1 (some (bA 2))) 2 (some (bA 3)))))))), (bA 0, .inr (4, [.ref (bH 0), .ref (bB 0), .int (nI (Bn 0)), .int (Ba 0)])), (bA 1, .inr (4, [.ref (bH 1), .ref (bB 1), .int (nI (Bn 1)), .int (Ba 1)])), (bA 2, .inr (4, [.ref (bH 2), .ref (bB 2), .int (nI (Bn 2)), .int (Ba 2)])), (bA 3, .inr (4, [.ref (bH 3), .ref (bB 3), .int (nI (Bn 3)), .int (Ba 3)]))] H := hP
  have hD : va_D A [(h, .inr (0, [.ref qs, .int (nI k)])), (qs, .inl (cB, 4, .inr (.inr (.inr (.inr (va_up (va_up (va_up (svF bA) 0 (some (bA 1))) 1 (some (bA 2))) 2 (some (bA 3)))))))), (bA 0, .inr (4, [.ref (bH 0), .ref (bB 0), .int (nI (Bn 0)), .int (Ba 0)])), (bA 1, .inr (4, [.ref (bH 1), .ref (bB 1), .int (nI (Bn 1)), .int (Ba 1)])), (bA 2, .inr (4, [.ref (bH 2), .ref (bB 2), .int (nI (Bn 2)), .int (Ba 2)])), (bA 3, .inr (4, [.ref (bH 3), .ref (bB 3), .int (nI (Bn 3)), .int (Ba 3)]))] := hD
  refine lv_iinc (v := nI 4) (lv' := [(2, .int (nI 4)), (1, .ref (bA 0)), (0, .ref h)]) hx hb dX0_dropOldest_28 hl (k := 0) rfl (by decide) (by decide) rfl (fun ls hl => ?_)
  refine lv_goto (tgt := 9) hx hb dX0_dropOldest_31 (by decide) ?_
  refine lv_iload_n hx hb dX0_dropOldest_9 rfl (lv_at hl 0 rfl) ?_
  refine lv_iconst (v := nI 4) hx hb dX0_dropOldest_10 (by decide) ?_
  refine lv_icmp_ge (tgt := 34) hx hb dX0_dropOldest_11 (by decide) (fun _ => ?_) (fun c_4 => absurd (by decide) c_4)
  refine lv_aload_n hx hb dX0_dropOldest_34 rfl (lv_at hl 2 rfl) ?_
  refine va_get (D := D) (ci := 0) (v := .ref qs) (C := RX0) (T := TX0) (N := 2) hx hb hts ilX0_dropOldest_0 hown hG.1 hP 0 rfl rfl 0 (by decide) (hts (.fieldLink RX0 11 "HornEngine$History" "saved" "[LHornEngine$Rulebook;") (List.mem_of_getElem? (i := 1) rfl)) (fun _ h9 => h9) rfl dX0_dropOldest_35 ?_
  refine lv_iconst (v := nI 3) hx hb dX0_dropOldest_38 (by decide) ?_
  refine lv_aload_n hx hb dX0_dropOldest_39 rfl (lv_at hl 1 rfl) ?_
  refine qa_st hx hb hG hP hD hS 1 rfl 2 rfl 3 rfl (by omega) (by decide) dX0_dropOldest_40 (fun H locs hP hD hS => ?_)
  rw [show va_up (va_up (va_up (va_up (svF bA) 0 (some (bA 1))) 1 (some (bA 2))) 2 (some (bA 3))) 3 (some (bA 0)) = svF (rot bA) from svF_rot bA] at hP hD
  have hP : va_P D vwCl [(h, .inr (0, [.ref qs, .int (nI k)])), (qs, .inl (cB, 4, .inr (.inr (.inr (.inr (svF (rot bA))))))), (bA 0, .inr (4, [.ref (bH 0), .ref (bB 0), .int (nI (Bn 0)), .int (Ba 0)])), (bA 1, .inr (4, [.ref (bH 1), .ref (bB 1), .int (nI (Bn 1)), .int (Ba 1)])), (bA 2, .inr (4, [.ref (bH 2), .ref (bB 2), .int (nI (Bn 2)), .int (Ba 2)])), (bA 3, .inr (4, [.ref (bH 3), .ref (bB 3), .int (nI (Bn 3)), .int (Ba 3)]))] H := hP
  have hD : va_D A [(h, .inr (0, [.ref qs, .int (nI k)])), (qs, .inl (cB, 4, .inr (.inr (.inr (.inr (svF (rot bA))))))), (bA 0, .inr (4, [.ref (bH 0), .ref (bB 0), .int (nI (Bn 0)), .int (Ba 0)])), (bA 1, .inr (4, [.ref (bH 1), .ref (bB 1), .int (nI (Bn 1)), .int (Ba 1)])), (bA 2, .inr (4, [.ref (bH 2), .ref (bB 2), .int (nI (Bn 2)), .int (Ba 2)])), (bA 3, .inr (4, [.ref (bH 3), .ref (bB 3), .int (nI (Bn 3)), .int (Ba 3)]))] := hD
  refine lv_aload_n hx hb dX0_dropOldest_41 rfl (lv_at hl 2 rfl) ?_
  refine lv_iconst (v := nI 3) hx hb dX0_dropOldest_42 (by decide) ?_
  refine va_put (D := D) (ci := 0) (v := .int (nI 3)) (ty := .int) (C := RX0) (T := TX0) (N := 2) hx hb hts ilX0_dropOldest_0 tyX0 tyX0_ok nmX0 hown hG.1 hP hD hS 0 rfl rfl 1 (by decide) (hts (.fieldLink RX0 18 "HornEngine$History" "count" "I") (List.mem_of_getElem? (i := 2) rfl)) (fun _ h9 => h9) rfl (by decide +kernel) rfl rfl (Nat.le_of_ble_eq_true rfl) dX0_dropOldest_43 (fun H locs hP hD hS => ?_)
  have hP : va_P D vwCl [(h, .inr (0, [.ref qs, .int (nI 3)])), (qs, .inl (cB, 4, .inr (.inr (.inr (.inr (svF (rot bA))))))), (bA 0, .inr (4, [.ref (bH 0), .ref (bB 0), .int (nI (Bn 0)), .int (Ba 0)])), (bA 1, .inr (4, [.ref (bH 1), .ref (bB 1), .int (nI (Bn 1)), .int (Ba 1)])), (bA 2, .inr (4, [.ref (bH 2), .ref (bB 2), .int (nI (Bn 2)), .int (Ba 2)])), (bA 3, .inr (4, [.ref (bH 3), .ref (bB 3), .int (nI (Bn 3)), .int (Ba 3)]))] H := hP
  have hD : va_D A [(h, .inr (0, [.ref qs, .int (nI 3)])), (qs, .inl (cB, 4, .inr (.inr (.inr (.inr (svF (rot bA))))))), (bA 0, .inr (4, [.ref (bH 0), .ref (bB 0), .int (nI (Bn 0)), .int (Ba 0)])), (bA 1, .inr (4, [.ref (bH 1), .ref (bB 1), .int (nI (Bn 1)), .int (Ba 1)])), (bA 2, .inr (4, [.ref (bH 2), .ref (bB 2), .int (nI (Bn 2)), .int (Ba 2)])), (bA 3, .inr (4, [.ref (bH 3), .ref (bB 3), .int (nI (Bn 3)), .int (Ba 3)]))] := hD
  exact hret () _ _ _ _ (rfl) (hP) (hD) hS dX0_dropOldest_46
set_option maxHeartbeats 4000000 in
set_option maxRecDepth 100000 in
theorem k_X0_save (l : Launch) (D : va_G) (cI cB : ClassId) (h : Nat) (qs : Nat) (k : Nat) (bA : Nat → Nat) (bH : Nat → Nat) (bB : Nat → Nat) (BH : Nat → Nat → Int32) (BB : Nat → Nat → Int32) (Bn : Nat → Nat) (Ba : Nat → Int32) (b : Nat) (qh : Nat) (qb : Nat) (hs : Nat → Int32) (bs : Nat → Int32) (n : Nat) (as_ : Int32) (hk : k ≤ 4) (hn : n ≤ 24) (hB : ∀ i, i < 4 → Bn i ≤ 24) (sz : Nat) : Wr l yX0_save wsX0_save ({ frames := 1, cells := 0, slots := 0, locals := 22 }) D cI cB [.ref h, .ref b] [(h, .inr (0, [.ref qs, .int (nI k)])), (qs, .inl (cB, 4, .inr (.inr (.inr (.inr (svF bA)))))), (bA 0, .inr (4, [.ref (bH 0), .ref (bB 0), .int (nI (Bn 0)), .int (Ba 0)])), (bH 0, .inl (cI, 24, .inl (BH 0))), (bB 0, .inl (cI, 24, .inl (BB 0))), (bA 1, .inr (4, [.ref (bH 1), .ref (bB 1), .int (nI (Bn 1)), .int (Ba 1)])), (bH 1, .inl (cI, 24, .inl (BH 1))), (bB 1, .inl (cI, 24, .inl (BB 1))), (bA 2, .inr (4, [.ref (bH 2), .ref (bB 2), .int (nI (Bn 2)), .int (Ba 2)])), (bH 2, .inl (cI, 24, .inl (BH 2))), (bB 2, .inl (cI, 24, .inl (BB 2))), (bA 3, .inr (4, [.ref (bH 3), .ref (bB 3), .int (nI (Bn 3)), .int (Ba 3)])), (bH 3, .inl (cI, 24, .inl (BH 3))), (bB 3, .inl (cI, 24, .inl (BB 3))), (b, .inr (4, [.ref qh, .ref qb, .int (nI n), .int as_])), (qh, .inl (cI, 24, .inl hs)), (qb, .inl (cI, 24, .inl bs))] sz (S := (Nat → Nat) × (Nat → Nat) × (Nat → Nat) × (Nat → Nat → Int32) × (Nat → Nat → Int32) × (Nat → Nat) × (Nat → Int32) × Nat) (fun v u => v = none ∧ (hsv u.2.2.2.1 u.2.2.2.2.1 u.2.2.2.2.2.1 u.2.2.2.2.2.2.1 u.2.2.2.2.2.2.2 = svP (hsv BH BB Bn Ba k) (snap hs bs n as_) ∧ u.2.2.2.2.2.2.2 ≤ 4 ∧ ∀ i, i < 4 → u.2.2.2.2.2.1 i ≤ 24)) (fun u => [(h, .inr (0, [.ref qs, .int (nI u.2.2.2.2.2.2.2)])), (qs, .inl (cB, 4, .inr (.inr (.inr (.inr (svF u.1)))))), (u.1 0, .inr (4, [.ref (u.2.1 0), .ref (u.2.2.1 0), .int (nI (u.2.2.2.2.2.1 0)), .int (u.2.2.2.2.2.2.1 0)])), (u.2.1 0, .inl (cI, 24, .inl (u.2.2.2.1 0))), (u.2.2.1 0, .inl (cI, 24, .inl (u.2.2.2.2.1 0))), (u.1 1, .inr (4, [.ref (u.2.1 1), .ref (u.2.2.1 1), .int (nI (u.2.2.2.2.2.1 1)), .int (u.2.2.2.2.2.2.1 1)])), (u.2.1 1, .inl (cI, 24, .inl (u.2.2.2.1 1))), (u.2.2.1 1, .inl (cI, 24, .inl (u.2.2.2.2.1 1))), (u.1 2, .inr (4, [.ref (u.2.1 2), .ref (u.2.2.1 2), .int (nI (u.2.2.2.2.2.1 2)), .int (u.2.2.2.2.2.2.1 2)])), (u.2.1 2, .inl (cI, 24, .inl (u.2.2.2.1 2))), (u.2.2.1 2, .inl (cI, 24, .inl (u.2.2.2.2.1 2))), (u.1 3, .inr (4, [.ref (u.2.1 3), .ref (u.2.2.1 3), .int (nI (u.2.2.2.2.2.1 3)), .int (u.2.2.2.2.2.2.1 3)])), (u.2.1 3, .inl (cI, 24, .inl (u.2.2.2.1 3))), (u.2.2.1 3, .inl (cI, 24, .inl (u.2.2.2.2.1 3))), (b, .inr (4, [.ref qh, .ref qb, .int (nI n), .int as_])), (qh, .inl (cI, 24, .inl hs)), (qb, .inl (cI, 24, .inl bs))]) 0 0 := by
  refine ef_startV (cc := cX0_save) (maxL := 2) (by decide) rfl (Nat.le_of_ble_eq_true rfl) ?_
  intro p e s m args below meth c Q A hx hb hml hown hts hP hG hD hA hin hret ls hl
  have hown : s.vm.findClass RX0 = some m.cls := hown
  have hl : lv_has ls 2 [(0, .ref h), (1, .ref b)] := hl
  have hS : va_S A s.heap s.heap [] := va_S.rf
  rcases (show k = 0 ∨ k = 1 ∨ k = 2 ∨ k = 3 ∨ k = 4 by omega) with rfl | rfl | rfl | rfl | rfl
  · skip
    refine lv_aload_n hx hb dX0_save_0 rfl (lv_at hl 0 rfl) ?_
    refine va_get (D := D) (ci := 0) (v := .int (nI 0)) (C := RX0) (T := TX0) (N := 2) hx hb hts ilX0_save_0 hown hG.1 hP 0 rfl rfl 1 (by decide) (hts (.fieldLink RX0 18 "HornEngine$History" "count" "I") (List.mem_of_getElem? (i := 1) rfl)) (fun _ h9 => h9) rfl dX0_save_1 ?_
    refine lv_iconst (v := nI 4) hx hb dX0_save_4 (by decide) ?_
    refine lv_icmp_lt (tgt := 12) hx hb dX0_save_5 (by decide) (fun _ => ?_) (fun c_1 => absurd (by decide) c_1)
    refine lv_aload_n hx hb dX0_save_12 rfl (lv_at hl 0 rfl) ?_
    refine va_get (D := D) (ci := 0) (v := .ref qs) (C := RX0) (T := TX0) (N := 2) hx hb hts ilX0_save_0 hown hG.1 hP 0 rfl rfl 0 (by decide) (hts (.fieldLink RX0 11 "HornEngine$History" "saved" "[LHornEngine$Rulebook;") (List.mem_of_getElem? (i := 2) rfl)) (fun _ h9 => h9) rfl dX0_save_13 ?_
    refine lv_aload_n hx hb dX0_save_16 rfl (lv_at hl 0 rfl) ?_
    refine va_get (D := D) (ci := 0) (v := .int (nI 0)) (C := RX0) (T := TX0) (N := 2) hx hb hts ilX0_save_0 hown hG.1 hP 0 rfl rfl 1 (by decide) (hts (.fieldLink RX0 18 "HornEngine$History" "count" "I") (List.mem_of_getElem? (i := 1) rfl)) (fun _ h9 => h9) rfl dX0_save_17 ?_
    refine qa_ld hx hb hG hP 1 rfl 0 rfl (by omega) (by decide) rfl dX0_save_20 ?_
    refine lv_aload_n hx hb dX0_save_21 rfl (lv_at hl 1 rfl) ?_
    refine ef_V (As := [.ref b]) (rest := []) (wr := [(h, .inr (0, [.ref qs, .int (nI 0)])), (qs, .inl (cB, 4, .inr (.inr (.inr (.inr (svF bA)))))), (bA 1, .inr (4, [.ref (bH 1), .ref (bB 1), .int (nI (Bn 1)), .int (Ba 1)])), (bH 1, .inl (cI, 24, .inl (BH 1))), (bB 1, .inl (cI, 24, .inl (BB 1))), (bA 2, .inr (4, [.ref (bH 2), .ref (bB 2), .int (nI (Bn 2)), .int (Ba 2)])), (bH 2, .inl (cI, 24, .inl (BH 2))), (bB 2, .inl (cI, 24, .inl (BB 2))), (bA 3, .inr (4, [.ref (bH 3), .ref (bB 3), .int (nI (Bn 3)), .int (Ba 3)])), (bH 3, .inl (cI, 24, .inl (BH 3))), (bB 3, .inl (cI, 24, .inl (BB 3)))]) ⟨hx, hb, hml, hown, hts⟩ hG hP hD hS hA (k_X4_copyFrom l D cI cB (bA 0) (bH 0) (bB 0) (BH 0) (BB 0) (Bn 0) (Ba 0) b qh qb hs bs n as_ (by omega) _) (cwV 1 hts gX0_save_X4_copyFrom rfl rfl rfl (by decide +kernel) ⟨(Nat.le_of_ble_eq_true rfl), (Nat.le_of_ble_eq_true rfl)⟩) [2, 3, 4, 14, 15, 16] [0, 1, 5, 6, 7, 8, 9, 10, 11, 12, 13] rfl rfl rfl rfl (by decide) 2 rfl rfl rfl rfl hl.1 rfl (Nat.le_of_ble_eq_true rfl) dX0_save_22 ⟨(Nat.le_of_ble_eq_true rfl), (Nat.le_of_ble_eq_true rfl)⟩ (fun v_2 u_2 H locs w_2 hP hD hS => ?_)
    have w_2 : v_2 = none := w_2
    subst w_2
    have hP : va_P D vwCl [(h, .inr (0, [.ref qs, .int (nI 0)])), (qs, .inl (cB, 4, .inr (.inr (.inr (.inr (svF bA)))))), ((bA 0), .inr (4, [.ref (bH 0), .ref (bB 0), .int (nI n), .int as_])), ((bH 0), .inl (cI, 24, .inl (cpF hs (BH 0) n))), ((bB 0), .inl (cI, 24, .inl (cpF bs (BB 0) n))), (bA 1, .inr (4, [.ref (bH 1), .ref (bB 1), .int (nI (Bn 1)), .int (Ba 1)])), (bH 1, .inl (cI, 24, .inl (BH 1))), (bB 1, .inl (cI, 24, .inl (BB 1))), (bA 2, .inr (4, [.ref (bH 2), .ref (bB 2), .int (nI (Bn 2)), .int (Ba 2)])), (bH 2, .inl (cI, 24, .inl (BH 2))), (bB 2, .inl (cI, 24, .inl (BB 2))), (bA 3, .inr (4, [.ref (bH 3), .ref (bB 3), .int (nI (Bn 3)), .int (Ba 3)])), (bH 3, .inl (cI, 24, .inl (BH 3))), (bB 3, .inl (cI, 24, .inl (BB 3))), (b, .inr (4, [.ref qh, .ref qb, .int (nI n), .int as_])), (qh, .inl (cI, 24, .inl hs)), (qb, .inl (cI, 24, .inl bs))] H := hP.sub [0, 1, 11, 12, 13, 2, 3, 4, 5, 6, 7, 8, 9, 10, 14, 15, 16] rfl
    have hD : va_D A [(h, .inr (0, [.ref qs, .int (nI 0)])), (qs, .inl (cB, 4, .inr (.inr (.inr (.inr (svF bA)))))), ((bA 0), .inr (4, [.ref (bH 0), .ref (bB 0), .int (nI n), .int as_])), ((bH 0), .inl (cI, 24, .inl (cpF hs (BH 0) n))), ((bB 0), .inl (cI, 24, .inl (cpF bs (BB 0) n))), (bA 1, .inr (4, [.ref (bH 1), .ref (bB 1), .int (nI (Bn 1)), .int (Ba 1)])), (bH 1, .inl (cI, 24, .inl (BH 1))), (bB 1, .inl (cI, 24, .inl (BB 1))), (bA 2, .inr (4, [.ref (bH 2), .ref (bB 2), .int (nI (Bn 2)), .int (Ba 2)])), (bH 2, .inl (cI, 24, .inl (BH 2))), (bB 2, .inl (cI, 24, .inl (BB 2))), (bA 3, .inr (4, [.ref (bH 3), .ref (bB 3), .int (nI (Bn 3)), .int (Ba 3)])), (bH 3, .inl (cI, 24, .inl (BH 3))), (bB 3, .inl (cI, 24, .inl (BB 3))), (b, .inr (4, [.ref qh, .ref qb, .int (nI n), .int as_])), (qh, .inl (cI, 24, .inl hs)), (qb, .inl (cI, 24, .inl bs))] := hD.sub [0, 1, 11, 12, 13, 2, 3, 4, 5, 6, 7, 8, 9, 10, 14, 15, 16] rfl rfl
    refine W.eq (g2 := F0 m 25 ls []) rfl ?_
    refine lv_aload_n hx hb dX0_save_25 rfl (lv_at hl 0 rfl) ?_
    refine lv_dup hx hb dX0_save_26 rfl ?_
    refine va_get (D := D) (ci := 0) (v := .int (nI 0)) (C := RX0) (T := TX0) (N := 2) hx hb hts ilX0_save_0 hown hG.1 hP 0 rfl rfl 1 (by decide) (hts (.fieldLink RX0 18 "HornEngine$History" "count" "I") (List.mem_of_getElem? (i := 1) rfl)) (fun _ h9 => h9) rfl dX0_save_27 ?_
    refine lv_iconst (v := nI 1) hx hb dX0_save_30 (by decide) ?_
    refine lv_iadd hx hb dX0_save_31 ?_
    refine lv_eqi (show (nI 0) + (nI 1) = nI 1 by decide) ?_
    refine va_put (D := D) (ci := 0) (v := .int (nI 1)) (ty := .int) (C := RX0) (T := TX0) (N := 2) hx hb hts ilX0_save_0 tyX0 tyX0_ok nmX0 hown hG.1 hP hD hS 0 rfl rfl 1 (by decide) (hts (.fieldLink RX0 18 "HornEngine$History" "count" "I") (List.mem_of_getElem? (i := 1) rfl)) (fun _ h9 => h9) rfl (by decide +kernel) rfl rfl (Nat.le_of_ble_eq_true rfl) dX0_save_32 (fun H locs hP hD hS => ?_)
    have hP : va_P D vwCl [(h, .inr (0, [.ref qs, .int (nI 1)])), (qs, .inl (cB, 4, .inr (.inr (.inr (.inr (svF bA)))))), ((bA 0), .inr (4, [.ref (bH 0), .ref (bB 0), .int (nI n), .int as_])), ((bH 0), .inl (cI, 24, .inl (cpF hs (BH 0) n))), ((bB 0), .inl (cI, 24, .inl (cpF bs (BB 0) n))), (bA 1, .inr (4, [.ref (bH 1), .ref (bB 1), .int (nI (Bn 1)), .int (Ba 1)])), (bH 1, .inl (cI, 24, .inl (BH 1))), (bB 1, .inl (cI, 24, .inl (BB 1))), (bA 2, .inr (4, [.ref (bH 2), .ref (bB 2), .int (nI (Bn 2)), .int (Ba 2)])), (bH 2, .inl (cI, 24, .inl (BH 2))), (bB 2, .inl (cI, 24, .inl (BB 2))), (bA 3, .inr (4, [.ref (bH 3), .ref (bB 3), .int (nI (Bn 3)), .int (Ba 3)])), (bH 3, .inl (cI, 24, .inl (BH 3))), (bB 3, .inl (cI, 24, .inl (BB 3))), (b, .inr (4, [.ref qh, .ref qb, .int (nI n), .int as_])), (qh, .inl (cI, 24, .inl hs)), (qb, .inl (cI, 24, .inl bs))] H := hP
    have hD : va_D A [(h, .inr (0, [.ref qs, .int (nI 1)])), (qs, .inl (cB, 4, .inr (.inr (.inr (.inr (svF bA)))))), ((bA 0), .inr (4, [.ref (bH 0), .ref (bB 0), .int (nI n), .int as_])), ((bH 0), .inl (cI, 24, .inl (cpF hs (BH 0) n))), ((bB 0), .inl (cI, 24, .inl (cpF bs (BB 0) n))), (bA 1, .inr (4, [.ref (bH 1), .ref (bB 1), .int (nI (Bn 1)), .int (Ba 1)])), (bH 1, .inl (cI, 24, .inl (BH 1))), (bB 1, .inl (cI, 24, .inl (BB 1))), (bA 2, .inr (4, [.ref (bH 2), .ref (bB 2), .int (nI (Bn 2)), .int (Ba 2)])), (bH 2, .inl (cI, 24, .inl (BH 2))), (bB 2, .inl (cI, 24, .inl (BB 2))), (bA 3, .inr (4, [.ref (bH 3), .ref (bB 3), .int (nI (Bn 3)), .int (Ba 3)])), (bH 3, .inl (cI, 24, .inl (BH 3))), (bB 3, .inl (cI, 24, .inl (BB 3))), (b, .inr (4, [.ref qh, .ref qb, .int (nI n), .int as_])), (qh, .inl (cI, 24, .inl hs)), (qb, .inl (cI, 24, .inl bs))] := hD
    exact hret (bA, bH, bB, va_up BH 0 (cpF hs (BH 0) n), va_up BB 0 (cpF bs (BB 0) n), va_up Bn 0 n, va_up Ba 0 as_, 1) _ _ _ _ (⟨rfl, hsv_put BH BB Bn Ba (by decide) hs bs n as_, Nat.le_of_ble_eq_true rfl, fun i hi => by dsimp only [va_up]; split; exact hn; exact hB i hi⟩) (hP) (hD) hS dX0_save_35
  · skip
    refine lv_aload_n hx hb dX0_save_0 rfl (lv_at hl 0 rfl) ?_
    refine va_get (D := D) (ci := 0) (v := .int (nI 1)) (C := RX0) (T := TX0) (N := 2) hx hb hts ilX0_save_0 hown hG.1 hP 0 rfl rfl 1 (by decide) (hts (.fieldLink RX0 18 "HornEngine$History" "count" "I") (List.mem_of_getElem? (i := 1) rfl)) (fun _ h9 => h9) rfl dX0_save_1 ?_
    refine lv_iconst (v := nI 4) hx hb dX0_save_4 (by decide) ?_
    refine lv_icmp_lt (tgt := 12) hx hb dX0_save_5 (by decide) (fun _ => ?_) (fun c_3 => absurd (by decide) c_3)
    refine lv_aload_n hx hb dX0_save_12 rfl (lv_at hl 0 rfl) ?_
    refine va_get (D := D) (ci := 0) (v := .ref qs) (C := RX0) (T := TX0) (N := 2) hx hb hts ilX0_save_0 hown hG.1 hP 0 rfl rfl 0 (by decide) (hts (.fieldLink RX0 11 "HornEngine$History" "saved" "[LHornEngine$Rulebook;") (List.mem_of_getElem? (i := 2) rfl)) (fun _ h9 => h9) rfl dX0_save_13 ?_
    refine lv_aload_n hx hb dX0_save_16 rfl (lv_at hl 0 rfl) ?_
    refine va_get (D := D) (ci := 0) (v := .int (nI 1)) (C := RX0) (T := TX0) (N := 2) hx hb hts ilX0_save_0 hown hG.1 hP 0 rfl rfl 1 (by decide) (hts (.fieldLink RX0 18 "HornEngine$History" "count" "I") (List.mem_of_getElem? (i := 1) rfl)) (fun _ h9 => h9) rfl dX0_save_17 ?_
    refine qa_ld hx hb hG hP 1 rfl 1 rfl (by omega) (by decide) rfl dX0_save_20 ?_
    refine lv_aload_n hx hb dX0_save_21 rfl (lv_at hl 1 rfl) ?_
    refine ef_V (As := [.ref b]) (rest := []) (wr := [(h, .inr (0, [.ref qs, .int (nI 1)])), (qs, .inl (cB, 4, .inr (.inr (.inr (.inr (svF bA)))))), (bA 0, .inr (4, [.ref (bH 0), .ref (bB 0), .int (nI (Bn 0)), .int (Ba 0)])), (bH 0, .inl (cI, 24, .inl (BH 0))), (bB 0, .inl (cI, 24, .inl (BB 0))), (bA 2, .inr (4, [.ref (bH 2), .ref (bB 2), .int (nI (Bn 2)), .int (Ba 2)])), (bH 2, .inl (cI, 24, .inl (BH 2))), (bB 2, .inl (cI, 24, .inl (BB 2))), (bA 3, .inr (4, [.ref (bH 3), .ref (bB 3), .int (nI (Bn 3)), .int (Ba 3)])), (bH 3, .inl (cI, 24, .inl (BH 3))), (bB 3, .inl (cI, 24, .inl (BB 3)))]) ⟨hx, hb, hml, hown, hts⟩ hG hP hD hS hA (k_X4_copyFrom l D cI cB (bA 1) (bH 1) (bB 1) (BH 1) (BB 1) (Bn 1) (Ba 1) b qh qb hs bs n as_ (by omega) _) (cwV 1 hts gX0_save_X4_copyFrom rfl rfl rfl (by decide +kernel) ⟨(Nat.le_of_ble_eq_true rfl), (Nat.le_of_ble_eq_true rfl)⟩) [5, 6, 7, 14, 15, 16] [0, 1, 2, 3, 4, 8, 9, 10, 11, 12, 13] rfl rfl rfl rfl (by decide) 5 rfl rfl rfl rfl hl.1 rfl (Nat.le_of_ble_eq_true rfl) dX0_save_22 ⟨(Nat.le_of_ble_eq_true rfl), (Nat.le_of_ble_eq_true rfl)⟩ (fun v_4 u_4 H locs w_4 hP hD hS => ?_)
    have w_4 : v_4 = none := w_4
    subst w_4
    have hP : va_P D vwCl [(h, .inr (0, [.ref qs, .int (nI 1)])), (qs, .inl (cB, 4, .inr (.inr (.inr (.inr (svF bA)))))), (bA 0, .inr (4, [.ref (bH 0), .ref (bB 0), .int (nI (Bn 0)), .int (Ba 0)])), (bH 0, .inl (cI, 24, .inl (BH 0))), (bB 0, .inl (cI, 24, .inl (BB 0))), ((bA 1), .inr (4, [.ref (bH 1), .ref (bB 1), .int (nI n), .int as_])), ((bH 1), .inl (cI, 24, .inl (cpF hs (BH 1) n))), ((bB 1), .inl (cI, 24, .inl (cpF bs (BB 1) n))), (bA 2, .inr (4, [.ref (bH 2), .ref (bB 2), .int (nI (Bn 2)), .int (Ba 2)])), (bH 2, .inl (cI, 24, .inl (BH 2))), (bB 2, .inl (cI, 24, .inl (BB 2))), (bA 3, .inr (4, [.ref (bH 3), .ref (bB 3), .int (nI (Bn 3)), .int (Ba 3)])), (bH 3, .inl (cI, 24, .inl (BH 3))), (bB 3, .inl (cI, 24, .inl (BB 3))), (b, .inr (4, [.ref qh, .ref qb, .int (nI n), .int as_])), (qh, .inl (cI, 24, .inl hs)), (qb, .inl (cI, 24, .inl bs))] H := hP.sub [0, 1, 2, 3, 4, 11, 12, 13, 5, 6, 7, 8, 9, 10, 14, 15, 16] rfl
    have hD : va_D A [(h, .inr (0, [.ref qs, .int (nI 1)])), (qs, .inl (cB, 4, .inr (.inr (.inr (.inr (svF bA)))))), (bA 0, .inr (4, [.ref (bH 0), .ref (bB 0), .int (nI (Bn 0)), .int (Ba 0)])), (bH 0, .inl (cI, 24, .inl (BH 0))), (bB 0, .inl (cI, 24, .inl (BB 0))), ((bA 1), .inr (4, [.ref (bH 1), .ref (bB 1), .int (nI n), .int as_])), ((bH 1), .inl (cI, 24, .inl (cpF hs (BH 1) n))), ((bB 1), .inl (cI, 24, .inl (cpF bs (BB 1) n))), (bA 2, .inr (4, [.ref (bH 2), .ref (bB 2), .int (nI (Bn 2)), .int (Ba 2)])), (bH 2, .inl (cI, 24, .inl (BH 2))), (bB 2, .inl (cI, 24, .inl (BB 2))), (bA 3, .inr (4, [.ref (bH 3), .ref (bB 3), .int (nI (Bn 3)), .int (Ba 3)])), (bH 3, .inl (cI, 24, .inl (BH 3))), (bB 3, .inl (cI, 24, .inl (BB 3))), (b, .inr (4, [.ref qh, .ref qb, .int (nI n), .int as_])), (qh, .inl (cI, 24, .inl hs)), (qb, .inl (cI, 24, .inl bs))] := hD.sub [0, 1, 2, 3, 4, 11, 12, 13, 5, 6, 7, 8, 9, 10, 14, 15, 16] rfl rfl
    refine W.eq (g2 := F0 m 25 ls []) rfl ?_
    refine lv_aload_n hx hb dX0_save_25 rfl (lv_at hl 0 rfl) ?_
    refine lv_dup hx hb dX0_save_26 rfl ?_
    refine va_get (D := D) (ci := 0) (v := .int (nI 1)) (C := RX0) (T := TX0) (N := 2) hx hb hts ilX0_save_0 hown hG.1 hP 0 rfl rfl 1 (by decide) (hts (.fieldLink RX0 18 "HornEngine$History" "count" "I") (List.mem_of_getElem? (i := 1) rfl)) (fun _ h9 => h9) rfl dX0_save_27 ?_
    refine lv_iconst (v := nI 1) hx hb dX0_save_30 (by decide) ?_
    refine lv_iadd hx hb dX0_save_31 ?_
    refine lv_eqi (show (nI 1) + (nI 1) = nI 2 by decide) ?_
    refine va_put (D := D) (ci := 0) (v := .int (nI 2)) (ty := .int) (C := RX0) (T := TX0) (N := 2) hx hb hts ilX0_save_0 tyX0 tyX0_ok nmX0 hown hG.1 hP hD hS 0 rfl rfl 1 (by decide) (hts (.fieldLink RX0 18 "HornEngine$History" "count" "I") (List.mem_of_getElem? (i := 1) rfl)) (fun _ h9 => h9) rfl (by decide +kernel) rfl rfl (Nat.le_of_ble_eq_true rfl) dX0_save_32 (fun H locs hP hD hS => ?_)
    have hP : va_P D vwCl [(h, .inr (0, [.ref qs, .int (nI 2)])), (qs, .inl (cB, 4, .inr (.inr (.inr (.inr (svF bA)))))), (bA 0, .inr (4, [.ref (bH 0), .ref (bB 0), .int (nI (Bn 0)), .int (Ba 0)])), (bH 0, .inl (cI, 24, .inl (BH 0))), (bB 0, .inl (cI, 24, .inl (BB 0))), ((bA 1), .inr (4, [.ref (bH 1), .ref (bB 1), .int (nI n), .int as_])), ((bH 1), .inl (cI, 24, .inl (cpF hs (BH 1) n))), ((bB 1), .inl (cI, 24, .inl (cpF bs (BB 1) n))), (bA 2, .inr (4, [.ref (bH 2), .ref (bB 2), .int (nI (Bn 2)), .int (Ba 2)])), (bH 2, .inl (cI, 24, .inl (BH 2))), (bB 2, .inl (cI, 24, .inl (BB 2))), (bA 3, .inr (4, [.ref (bH 3), .ref (bB 3), .int (nI (Bn 3)), .int (Ba 3)])), (bH 3, .inl (cI, 24, .inl (BH 3))), (bB 3, .inl (cI, 24, .inl (BB 3))), (b, .inr (4, [.ref qh, .ref qb, .int (nI n), .int as_])), (qh, .inl (cI, 24, .inl hs)), (qb, .inl (cI, 24, .inl bs))] H := hP
    have hD : va_D A [(h, .inr (0, [.ref qs, .int (nI 2)])), (qs, .inl (cB, 4, .inr (.inr (.inr (.inr (svF bA)))))), (bA 0, .inr (4, [.ref (bH 0), .ref (bB 0), .int (nI (Bn 0)), .int (Ba 0)])), (bH 0, .inl (cI, 24, .inl (BH 0))), (bB 0, .inl (cI, 24, .inl (BB 0))), ((bA 1), .inr (4, [.ref (bH 1), .ref (bB 1), .int (nI n), .int as_])), ((bH 1), .inl (cI, 24, .inl (cpF hs (BH 1) n))), ((bB 1), .inl (cI, 24, .inl (cpF bs (BB 1) n))), (bA 2, .inr (4, [.ref (bH 2), .ref (bB 2), .int (nI (Bn 2)), .int (Ba 2)])), (bH 2, .inl (cI, 24, .inl (BH 2))), (bB 2, .inl (cI, 24, .inl (BB 2))), (bA 3, .inr (4, [.ref (bH 3), .ref (bB 3), .int (nI (Bn 3)), .int (Ba 3)])), (bH 3, .inl (cI, 24, .inl (BH 3))), (bB 3, .inl (cI, 24, .inl (BB 3))), (b, .inr (4, [.ref qh, .ref qb, .int (nI n), .int as_])), (qh, .inl (cI, 24, .inl hs)), (qb, .inl (cI, 24, .inl bs))] := hD
    exact hret (bA, bH, bB, va_up BH 1 (cpF hs (BH 1) n), va_up BB 1 (cpF bs (BB 1) n), va_up Bn 1 n, va_up Ba 1 as_, 2) _ _ _ _ (⟨rfl, hsv_put BH BB Bn Ba (by decide) hs bs n as_, Nat.le_of_ble_eq_true rfl, fun i hi => by dsimp only [va_up]; split; exact hn; exact hB i hi⟩) (hP) (hD) hS dX0_save_35
  · skip
    refine lv_aload_n hx hb dX0_save_0 rfl (lv_at hl 0 rfl) ?_
    refine va_get (D := D) (ci := 0) (v := .int (nI 2)) (C := RX0) (T := TX0) (N := 2) hx hb hts ilX0_save_0 hown hG.1 hP 0 rfl rfl 1 (by decide) (hts (.fieldLink RX0 18 "HornEngine$History" "count" "I") (List.mem_of_getElem? (i := 1) rfl)) (fun _ h9 => h9) rfl dX0_save_1 ?_
    refine lv_iconst (v := nI 4) hx hb dX0_save_4 (by decide) ?_
    refine lv_icmp_lt (tgt := 12) hx hb dX0_save_5 (by decide) (fun _ => ?_) (fun c_5 => absurd (by decide) c_5)
    refine lv_aload_n hx hb dX0_save_12 rfl (lv_at hl 0 rfl) ?_
    refine va_get (D := D) (ci := 0) (v := .ref qs) (C := RX0) (T := TX0) (N := 2) hx hb hts ilX0_save_0 hown hG.1 hP 0 rfl rfl 0 (by decide) (hts (.fieldLink RX0 11 "HornEngine$History" "saved" "[LHornEngine$Rulebook;") (List.mem_of_getElem? (i := 2) rfl)) (fun _ h9 => h9) rfl dX0_save_13 ?_
    refine lv_aload_n hx hb dX0_save_16 rfl (lv_at hl 0 rfl) ?_
    refine va_get (D := D) (ci := 0) (v := .int (nI 2)) (C := RX0) (T := TX0) (N := 2) hx hb hts ilX0_save_0 hown hG.1 hP 0 rfl rfl 1 (by decide) (hts (.fieldLink RX0 18 "HornEngine$History" "count" "I") (List.mem_of_getElem? (i := 1) rfl)) (fun _ h9 => h9) rfl dX0_save_17 ?_
    refine qa_ld hx hb hG hP 1 rfl 2 rfl (by omega) (by decide) rfl dX0_save_20 ?_
    refine lv_aload_n hx hb dX0_save_21 rfl (lv_at hl 1 rfl) ?_
    refine ef_V (As := [.ref b]) (rest := []) (wr := [(h, .inr (0, [.ref qs, .int (nI 2)])), (qs, .inl (cB, 4, .inr (.inr (.inr (.inr (svF bA)))))), (bA 0, .inr (4, [.ref (bH 0), .ref (bB 0), .int (nI (Bn 0)), .int (Ba 0)])), (bH 0, .inl (cI, 24, .inl (BH 0))), (bB 0, .inl (cI, 24, .inl (BB 0))), (bA 1, .inr (4, [.ref (bH 1), .ref (bB 1), .int (nI (Bn 1)), .int (Ba 1)])), (bH 1, .inl (cI, 24, .inl (BH 1))), (bB 1, .inl (cI, 24, .inl (BB 1))), (bA 3, .inr (4, [.ref (bH 3), .ref (bB 3), .int (nI (Bn 3)), .int (Ba 3)])), (bH 3, .inl (cI, 24, .inl (BH 3))), (bB 3, .inl (cI, 24, .inl (BB 3)))]) ⟨hx, hb, hml, hown, hts⟩ hG hP hD hS hA (k_X4_copyFrom l D cI cB (bA 2) (bH 2) (bB 2) (BH 2) (BB 2) (Bn 2) (Ba 2) b qh qb hs bs n as_ (by omega) _) (cwV 1 hts gX0_save_X4_copyFrom rfl rfl rfl (by decide +kernel) ⟨(Nat.le_of_ble_eq_true rfl), (Nat.le_of_ble_eq_true rfl)⟩) [8, 9, 10, 14, 15, 16] [0, 1, 2, 3, 4, 5, 6, 7, 11, 12, 13] rfl rfl rfl rfl (by decide) 8 rfl rfl rfl rfl hl.1 rfl (Nat.le_of_ble_eq_true rfl) dX0_save_22 ⟨(Nat.le_of_ble_eq_true rfl), (Nat.le_of_ble_eq_true rfl)⟩ (fun v_6 u_6 H locs w_6 hP hD hS => ?_)
    have w_6 : v_6 = none := w_6
    subst w_6
    have hP : va_P D vwCl [(h, .inr (0, [.ref qs, .int (nI 2)])), (qs, .inl (cB, 4, .inr (.inr (.inr (.inr (svF bA)))))), (bA 0, .inr (4, [.ref (bH 0), .ref (bB 0), .int (nI (Bn 0)), .int (Ba 0)])), (bH 0, .inl (cI, 24, .inl (BH 0))), (bB 0, .inl (cI, 24, .inl (BB 0))), (bA 1, .inr (4, [.ref (bH 1), .ref (bB 1), .int (nI (Bn 1)), .int (Ba 1)])), (bH 1, .inl (cI, 24, .inl (BH 1))), (bB 1, .inl (cI, 24, .inl (BB 1))), ((bA 2), .inr (4, [.ref (bH 2), .ref (bB 2), .int (nI n), .int as_])), ((bH 2), .inl (cI, 24, .inl (cpF hs (BH 2) n))), ((bB 2), .inl (cI, 24, .inl (cpF bs (BB 2) n))), (bA 3, .inr (4, [.ref (bH 3), .ref (bB 3), .int (nI (Bn 3)), .int (Ba 3)])), (bH 3, .inl (cI, 24, .inl (BH 3))), (bB 3, .inl (cI, 24, .inl (BB 3))), (b, .inr (4, [.ref qh, .ref qb, .int (nI n), .int as_])), (qh, .inl (cI, 24, .inl hs)), (qb, .inl (cI, 24, .inl bs))] H := hP.sub [0, 1, 2, 3, 4, 5, 6, 7, 11, 12, 13, 8, 9, 10, 14, 15, 16] rfl
    have hD : va_D A [(h, .inr (0, [.ref qs, .int (nI 2)])), (qs, .inl (cB, 4, .inr (.inr (.inr (.inr (svF bA)))))), (bA 0, .inr (4, [.ref (bH 0), .ref (bB 0), .int (nI (Bn 0)), .int (Ba 0)])), (bH 0, .inl (cI, 24, .inl (BH 0))), (bB 0, .inl (cI, 24, .inl (BB 0))), (bA 1, .inr (4, [.ref (bH 1), .ref (bB 1), .int (nI (Bn 1)), .int (Ba 1)])), (bH 1, .inl (cI, 24, .inl (BH 1))), (bB 1, .inl (cI, 24, .inl (BB 1))), ((bA 2), .inr (4, [.ref (bH 2), .ref (bB 2), .int (nI n), .int as_])), ((bH 2), .inl (cI, 24, .inl (cpF hs (BH 2) n))), ((bB 2), .inl (cI, 24, .inl (cpF bs (BB 2) n))), (bA 3, .inr (4, [.ref (bH 3), .ref (bB 3), .int (nI (Bn 3)), .int (Ba 3)])), (bH 3, .inl (cI, 24, .inl (BH 3))), (bB 3, .inl (cI, 24, .inl (BB 3))), (b, .inr (4, [.ref qh, .ref qb, .int (nI n), .int as_])), (qh, .inl (cI, 24, .inl hs)), (qb, .inl (cI, 24, .inl bs))] := hD.sub [0, 1, 2, 3, 4, 5, 6, 7, 11, 12, 13, 8, 9, 10, 14, 15, 16] rfl rfl
    refine W.eq (g2 := F0 m 25 ls []) rfl ?_
    refine lv_aload_n hx hb dX0_save_25 rfl (lv_at hl 0 rfl) ?_
    refine lv_dup hx hb dX0_save_26 rfl ?_
    refine va_get (D := D) (ci := 0) (v := .int (nI 2)) (C := RX0) (T := TX0) (N := 2) hx hb hts ilX0_save_0 hown hG.1 hP 0 rfl rfl 1 (by decide) (hts (.fieldLink RX0 18 "HornEngine$History" "count" "I") (List.mem_of_getElem? (i := 1) rfl)) (fun _ h9 => h9) rfl dX0_save_27 ?_
    refine lv_iconst (v := nI 1) hx hb dX0_save_30 (by decide) ?_
    refine lv_iadd hx hb dX0_save_31 ?_
    refine lv_eqi (show (nI 2) + (nI 1) = nI 3 by decide) ?_
    refine va_put (D := D) (ci := 0) (v := .int (nI 3)) (ty := .int) (C := RX0) (T := TX0) (N := 2) hx hb hts ilX0_save_0 tyX0 tyX0_ok nmX0 hown hG.1 hP hD hS 0 rfl rfl 1 (by decide) (hts (.fieldLink RX0 18 "HornEngine$History" "count" "I") (List.mem_of_getElem? (i := 1) rfl)) (fun _ h9 => h9) rfl (by decide +kernel) rfl rfl (Nat.le_of_ble_eq_true rfl) dX0_save_32 (fun H locs hP hD hS => ?_)
    have hP : va_P D vwCl [(h, .inr (0, [.ref qs, .int (nI 3)])), (qs, .inl (cB, 4, .inr (.inr (.inr (.inr (svF bA)))))), (bA 0, .inr (4, [.ref (bH 0), .ref (bB 0), .int (nI (Bn 0)), .int (Ba 0)])), (bH 0, .inl (cI, 24, .inl (BH 0))), (bB 0, .inl (cI, 24, .inl (BB 0))), (bA 1, .inr (4, [.ref (bH 1), .ref (bB 1), .int (nI (Bn 1)), .int (Ba 1)])), (bH 1, .inl (cI, 24, .inl (BH 1))), (bB 1, .inl (cI, 24, .inl (BB 1))), ((bA 2), .inr (4, [.ref (bH 2), .ref (bB 2), .int (nI n), .int as_])), ((bH 2), .inl (cI, 24, .inl (cpF hs (BH 2) n))), ((bB 2), .inl (cI, 24, .inl (cpF bs (BB 2) n))), (bA 3, .inr (4, [.ref (bH 3), .ref (bB 3), .int (nI (Bn 3)), .int (Ba 3)])), (bH 3, .inl (cI, 24, .inl (BH 3))), (bB 3, .inl (cI, 24, .inl (BB 3))), (b, .inr (4, [.ref qh, .ref qb, .int (nI n), .int as_])), (qh, .inl (cI, 24, .inl hs)), (qb, .inl (cI, 24, .inl bs))] H := hP
    have hD : va_D A [(h, .inr (0, [.ref qs, .int (nI 3)])), (qs, .inl (cB, 4, .inr (.inr (.inr (.inr (svF bA)))))), (bA 0, .inr (4, [.ref (bH 0), .ref (bB 0), .int (nI (Bn 0)), .int (Ba 0)])), (bH 0, .inl (cI, 24, .inl (BH 0))), (bB 0, .inl (cI, 24, .inl (BB 0))), (bA 1, .inr (4, [.ref (bH 1), .ref (bB 1), .int (nI (Bn 1)), .int (Ba 1)])), (bH 1, .inl (cI, 24, .inl (BH 1))), (bB 1, .inl (cI, 24, .inl (BB 1))), ((bA 2), .inr (4, [.ref (bH 2), .ref (bB 2), .int (nI n), .int as_])), ((bH 2), .inl (cI, 24, .inl (cpF hs (BH 2) n))), ((bB 2), .inl (cI, 24, .inl (cpF bs (BB 2) n))), (bA 3, .inr (4, [.ref (bH 3), .ref (bB 3), .int (nI (Bn 3)), .int (Ba 3)])), (bH 3, .inl (cI, 24, .inl (BH 3))), (bB 3, .inl (cI, 24, .inl (BB 3))), (b, .inr (4, [.ref qh, .ref qb, .int (nI n), .int as_])), (qh, .inl (cI, 24, .inl hs)), (qb, .inl (cI, 24, .inl bs))] := hD
    exact hret (bA, bH, bB, va_up BH 2 (cpF hs (BH 2) n), va_up BB 2 (cpF bs (BB 2) n), va_up Bn 2 n, va_up Ba 2 as_, 3) _ _ _ _ (⟨rfl, hsv_put BH BB Bn Ba (by decide) hs bs n as_, Nat.le_of_ble_eq_true rfl, fun i hi => by dsimp only [va_up]; split; exact hn; exact hB i hi⟩) (hP) (hD) hS dX0_save_35
  · skip
    refine lv_aload_n hx hb dX0_save_0 rfl (lv_at hl 0 rfl) ?_
    refine va_get (D := D) (ci := 0) (v := .int (nI 3)) (C := RX0) (T := TX0) (N := 2) hx hb hts ilX0_save_0 hown hG.1 hP 0 rfl rfl 1 (by decide) (hts (.fieldLink RX0 18 "HornEngine$History" "count" "I") (List.mem_of_getElem? (i := 1) rfl)) (fun _ h9 => h9) rfl dX0_save_1 ?_
    refine lv_iconst (v := nI 4) hx hb dX0_save_4 (by decide) ?_
    refine lv_icmp_lt (tgt := 12) hx hb dX0_save_5 (by decide) (fun _ => ?_) (fun c_7 => absurd (by decide) c_7)
    refine lv_aload_n hx hb dX0_save_12 rfl (lv_at hl 0 rfl) ?_
    refine va_get (D := D) (ci := 0) (v := .ref qs) (C := RX0) (T := TX0) (N := 2) hx hb hts ilX0_save_0 hown hG.1 hP 0 rfl rfl 0 (by decide) (hts (.fieldLink RX0 11 "HornEngine$History" "saved" "[LHornEngine$Rulebook;") (List.mem_of_getElem? (i := 2) rfl)) (fun _ h9 => h9) rfl dX0_save_13 ?_
    refine lv_aload_n hx hb dX0_save_16 rfl (lv_at hl 0 rfl) ?_
    refine va_get (D := D) (ci := 0) (v := .int (nI 3)) (C := RX0) (T := TX0) (N := 2) hx hb hts ilX0_save_0 hown hG.1 hP 0 rfl rfl 1 (by decide) (hts (.fieldLink RX0 18 "HornEngine$History" "count" "I") (List.mem_of_getElem? (i := 1) rfl)) (fun _ h9 => h9) rfl dX0_save_17 ?_
    refine qa_ld hx hb hG hP 1 rfl 3 rfl (by omega) (by decide) rfl dX0_save_20 ?_
    refine lv_aload_n hx hb dX0_save_21 rfl (lv_at hl 1 rfl) ?_
    refine ef_V (As := [.ref b]) (rest := []) (wr := [(h, .inr (0, [.ref qs, .int (nI 3)])), (qs, .inl (cB, 4, .inr (.inr (.inr (.inr (svF bA)))))), (bA 0, .inr (4, [.ref (bH 0), .ref (bB 0), .int (nI (Bn 0)), .int (Ba 0)])), (bH 0, .inl (cI, 24, .inl (BH 0))), (bB 0, .inl (cI, 24, .inl (BB 0))), (bA 1, .inr (4, [.ref (bH 1), .ref (bB 1), .int (nI (Bn 1)), .int (Ba 1)])), (bH 1, .inl (cI, 24, .inl (BH 1))), (bB 1, .inl (cI, 24, .inl (BB 1))), (bA 2, .inr (4, [.ref (bH 2), .ref (bB 2), .int (nI (Bn 2)), .int (Ba 2)])), (bH 2, .inl (cI, 24, .inl (BH 2))), (bB 2, .inl (cI, 24, .inl (BB 2)))]) ⟨hx, hb, hml, hown, hts⟩ hG hP hD hS hA (k_X4_copyFrom l D cI cB (bA 3) (bH 3) (bB 3) (BH 3) (BB 3) (Bn 3) (Ba 3) b qh qb hs bs n as_ (by omega) _) (cwV 1 hts gX0_save_X4_copyFrom rfl rfl rfl (by decide +kernel) ⟨(Nat.le_of_ble_eq_true rfl), (Nat.le_of_ble_eq_true rfl)⟩) [11, 12, 13, 14, 15, 16] [0, 1, 2, 3, 4, 5, 6, 7, 8, 9, 10] rfl rfl rfl rfl (by decide) 11 rfl rfl rfl rfl hl.1 rfl (Nat.le_of_ble_eq_true rfl) dX0_save_22 ⟨(Nat.le_of_ble_eq_true rfl), (Nat.le_of_ble_eq_true rfl)⟩ (fun v_8 u_8 H locs w_8 hP hD hS => ?_)
    have w_8 : v_8 = none := w_8
    subst w_8
    have hP : va_P D vwCl [(h, .inr (0, [.ref qs, .int (nI 3)])), (qs, .inl (cB, 4, .inr (.inr (.inr (.inr (svF bA)))))), (bA 0, .inr (4, [.ref (bH 0), .ref (bB 0), .int (nI (Bn 0)), .int (Ba 0)])), (bH 0, .inl (cI, 24, .inl (BH 0))), (bB 0, .inl (cI, 24, .inl (BB 0))), (bA 1, .inr (4, [.ref (bH 1), .ref (bB 1), .int (nI (Bn 1)), .int (Ba 1)])), (bH 1, .inl (cI, 24, .inl (BH 1))), (bB 1, .inl (cI, 24, .inl (BB 1))), (bA 2, .inr (4, [.ref (bH 2), .ref (bB 2), .int (nI (Bn 2)), .int (Ba 2)])), (bH 2, .inl (cI, 24, .inl (BH 2))), (bB 2, .inl (cI, 24, .inl (BB 2))), ((bA 3), .inr (4, [.ref (bH 3), .ref (bB 3), .int (nI n), .int as_])), ((bH 3), .inl (cI, 24, .inl (cpF hs (BH 3) n))), ((bB 3), .inl (cI, 24, .inl (cpF bs (BB 3) n))), (b, .inr (4, [.ref qh, .ref qb, .int (nI n), .int as_])), (qh, .inl (cI, 24, .inl hs)), (qb, .inl (cI, 24, .inl bs))] H := hP.sub [0, 1, 2, 3, 4, 5, 6, 7, 8, 9, 10, 11, 12, 13, 14, 15, 16] rfl
    have hD : va_D A [(h, .inr (0, [.ref qs, .int (nI 3)])), (qs, .inl (cB, 4, .inr (.inr (.inr (.inr (svF bA)))))), (bA 0, .inr (4, [.ref (bH 0), .ref (bB 0), .int (nI (Bn 0)), .int (Ba 0)])), (bH 0, .inl (cI, 24, .inl (BH 0))), (bB 0, .inl (cI, 24, .inl (BB 0))), (bA 1, .inr (4, [.ref (bH 1), .ref (bB 1), .int (nI (Bn 1)), .int (Ba 1)])), (bH 1, .inl (cI, 24, .inl (BH 1))), (bB 1, .inl (cI, 24, .inl (BB 1))), (bA 2, .inr (4, [.ref (bH 2), .ref (bB 2), .int (nI (Bn 2)), .int (Ba 2)])), (bH 2, .inl (cI, 24, .inl (BH 2))), (bB 2, .inl (cI, 24, .inl (BB 2))), ((bA 3), .inr (4, [.ref (bH 3), .ref (bB 3), .int (nI n), .int as_])), ((bH 3), .inl (cI, 24, .inl (cpF hs (BH 3) n))), ((bB 3), .inl (cI, 24, .inl (cpF bs (BB 3) n))), (b, .inr (4, [.ref qh, .ref qb, .int (nI n), .int as_])), (qh, .inl (cI, 24, .inl hs)), (qb, .inl (cI, 24, .inl bs))] := hD.sub [0, 1, 2, 3, 4, 5, 6, 7, 8, 9, 10, 11, 12, 13, 14, 15, 16] rfl rfl
    refine W.eq (g2 := F0 m 25 ls []) rfl ?_
    refine lv_aload_n hx hb dX0_save_25 rfl (lv_at hl 0 rfl) ?_
    refine lv_dup hx hb dX0_save_26 rfl ?_
    refine va_get (D := D) (ci := 0) (v := .int (nI 3)) (C := RX0) (T := TX0) (N := 2) hx hb hts ilX0_save_0 hown hG.1 hP 0 rfl rfl 1 (by decide) (hts (.fieldLink RX0 18 "HornEngine$History" "count" "I") (List.mem_of_getElem? (i := 1) rfl)) (fun _ h9 => h9) rfl dX0_save_27 ?_
    refine lv_iconst (v := nI 1) hx hb dX0_save_30 (by decide) ?_
    refine lv_iadd hx hb dX0_save_31 ?_
    refine lv_eqi (show (nI 3) + (nI 1) = nI 4 by decide) ?_
    refine va_put (D := D) (ci := 0) (v := .int (nI 4)) (ty := .int) (C := RX0) (T := TX0) (N := 2) hx hb hts ilX0_save_0 tyX0 tyX0_ok nmX0 hown hG.1 hP hD hS 0 rfl rfl 1 (by decide) (hts (.fieldLink RX0 18 "HornEngine$History" "count" "I") (List.mem_of_getElem? (i := 1) rfl)) (fun _ h9 => h9) rfl (by decide +kernel) rfl rfl (Nat.le_of_ble_eq_true rfl) dX0_save_32 (fun H locs hP hD hS => ?_)
    have hP : va_P D vwCl [(h, .inr (0, [.ref qs, .int (nI 4)])), (qs, .inl (cB, 4, .inr (.inr (.inr (.inr (svF bA)))))), (bA 0, .inr (4, [.ref (bH 0), .ref (bB 0), .int (nI (Bn 0)), .int (Ba 0)])), (bH 0, .inl (cI, 24, .inl (BH 0))), (bB 0, .inl (cI, 24, .inl (BB 0))), (bA 1, .inr (4, [.ref (bH 1), .ref (bB 1), .int (nI (Bn 1)), .int (Ba 1)])), (bH 1, .inl (cI, 24, .inl (BH 1))), (bB 1, .inl (cI, 24, .inl (BB 1))), (bA 2, .inr (4, [.ref (bH 2), .ref (bB 2), .int (nI (Bn 2)), .int (Ba 2)])), (bH 2, .inl (cI, 24, .inl (BH 2))), (bB 2, .inl (cI, 24, .inl (BB 2))), ((bA 3), .inr (4, [.ref (bH 3), .ref (bB 3), .int (nI n), .int as_])), ((bH 3), .inl (cI, 24, .inl (cpF hs (BH 3) n))), ((bB 3), .inl (cI, 24, .inl (cpF bs (BB 3) n))), (b, .inr (4, [.ref qh, .ref qb, .int (nI n), .int as_])), (qh, .inl (cI, 24, .inl hs)), (qb, .inl (cI, 24, .inl bs))] H := hP
    have hD : va_D A [(h, .inr (0, [.ref qs, .int (nI 4)])), (qs, .inl (cB, 4, .inr (.inr (.inr (.inr (svF bA)))))), (bA 0, .inr (4, [.ref (bH 0), .ref (bB 0), .int (nI (Bn 0)), .int (Ba 0)])), (bH 0, .inl (cI, 24, .inl (BH 0))), (bB 0, .inl (cI, 24, .inl (BB 0))), (bA 1, .inr (4, [.ref (bH 1), .ref (bB 1), .int (nI (Bn 1)), .int (Ba 1)])), (bH 1, .inl (cI, 24, .inl (BH 1))), (bB 1, .inl (cI, 24, .inl (BB 1))), (bA 2, .inr (4, [.ref (bH 2), .ref (bB 2), .int (nI (Bn 2)), .int (Ba 2)])), (bH 2, .inl (cI, 24, .inl (BH 2))), (bB 2, .inl (cI, 24, .inl (BB 2))), ((bA 3), .inr (4, [.ref (bH 3), .ref (bB 3), .int (nI n), .int as_])), ((bH 3), .inl (cI, 24, .inl (cpF hs (BH 3) n))), ((bB 3), .inl (cI, 24, .inl (cpF bs (BB 3) n))), (b, .inr (4, [.ref qh, .ref qb, .int (nI n), .int as_])), (qh, .inl (cI, 24, .inl hs)), (qb, .inl (cI, 24, .inl bs))] := hD
    exact hret (bA, bH, bB, va_up BH 3 (cpF hs (BH 3) n), va_up BB 3 (cpF bs (BB 3) n), va_up Bn 3 n, va_up Ba 3 as_, 4) _ _ _ _ (⟨rfl, hsv_put BH BB Bn Ba (by decide) hs bs n as_, Nat.le_of_ble_eq_true rfl, fun i hi => by dsimp only [va_up]; split; exact hn; exact hB i hi⟩) (hP) (hD) hS dX0_save_35
  · skip
    refine lv_aload_n hx hb dX0_save_0 rfl (lv_at hl 0 rfl) ?_
    refine va_get (D := D) (ci := 0) (v := .int (nI 4)) (C := RX0) (T := TX0) (N := 2) hx hb hts ilX0_save_0 hown hG.1 hP 0 rfl rfl 1 (by decide) (hts (.fieldLink RX0 18 "HornEngine$History" "count" "I") (List.mem_of_getElem? (i := 1) rfl)) (fun _ h9 => h9) rfl dX0_save_1 ?_
    refine lv_iconst (v := nI 4) hx hb dX0_save_4 (by decide) ?_
    refine lv_icmp_lt (tgt := 12) hx hb dX0_save_5 (by decide) (fun c_9 => absurd c_9 (by decide)) (fun _ => ?_)
    refine lv_aload_n hx hb dX0_save_8 rfl (lv_at hl 0 rfl) ?_
    refine ef_V (As := []) (rest := []) (wr := [(bH 0, .inl (cI, 24, .inl (BH 0))), (bB 0, .inl (cI, 24, .inl (BB 0))), (bH 1, .inl (cI, 24, .inl (BH 1))), (bB 1, .inl (cI, 24, .inl (BB 1))), (bH 2, .inl (cI, 24, .inl (BH 2))), (bB 2, .inl (cI, 24, .inl (BB 2))), (bH 3, .inl (cI, 24, .inl (BH 3))), (bB 3, .inl (cI, 24, .inl (BB 3))), (b, .inr (4, [.ref qh, .ref qb, .int (nI n), .int as_])), (qh, .inl (cI, 24, .inl hs)), (qb, .inl (cI, 24, .inl bs))]) ⟨hx, hb, hml, hown, hts⟩ hG hP hD hS hA (k_X0_dropOldest l D cI cB h qs 4 bA bH bB BH BB Bn Ba  _) (cwV 0 hts gX0_save_X0_dropOldest rfl rfl rfl (by decide +kernel) ⟨(Nat.le_of_ble_eq_true rfl), (Nat.le_of_ble_eq_true rfl)⟩) [0, 1, 2, 5, 8, 11] [3, 4, 6, 7, 9, 10, 12, 13, 14, 15, 16] rfl rfl rfl rfl (by decide) 0 rfl rfl rfl rfl hl.1 rfl (Nat.le_of_ble_eq_true rfl) dX0_save_9 ⟨(Nat.le_of_ble_eq_true rfl), (Nat.le_of_ble_eq_true rfl)⟩ (fun v_10 u_10 H locs w_10 hP hD hS => ?_)
    have w_10 : v_10 = none := w_10
    subst w_10
    have hP : va_P D vwCl [(h, .inr (0, [.ref qs, .int (nI 3)])), (qs, .inl (cB, 4, .inr (.inr (.inr (.inr (svF (rot bA))))))), (bA 0, .inr (4, [.ref (bH 0), .ref (bB 0), .int (nI (Bn 0)), .int (Ba 0)])), (bH 0, .inl (cI, 24, .inl (BH 0))), (bB 0, .inl (cI, 24, .inl (BB 0))), (bA 1, .inr (4, [.ref (bH 1), .ref (bB 1), .int (nI (Bn 1)), .int (Ba 1)])), (bH 1, .inl (cI, 24, .inl (BH 1))), (bB 1, .inl (cI, 24, .inl (BB 1))), (bA 2, .inr (4, [.ref (bH 2), .ref (bB 2), .int (nI (Bn 2)), .int (Ba 2)])), (bH 2, .inl (cI, 24, .inl (BH 2))), (bB 2, .inl (cI, 24, .inl (BB 2))), (bA 3, .inr (4, [.ref (bH 3), .ref (bB 3), .int (nI (Bn 3)), .int (Ba 3)])), (bH 3, .inl (cI, 24, .inl (BH 3))), (bB 3, .inl (cI, 24, .inl (BB 3))), (b, .inr (4, [.ref qh, .ref qb, .int (nI n), .int as_])), (qh, .inl (cI, 24, .inl hs)), (qb, .inl (cI, 24, .inl bs))] H := hP.sub [11, 12, 13, 0, 1, 14, 2, 3, 15, 4, 5, 16, 6, 7, 8, 9, 10] rfl
    have hD : va_D A [(h, .inr (0, [.ref qs, .int (nI 3)])), (qs, .inl (cB, 4, .inr (.inr (.inr (.inr (svF (rot bA))))))), (bA 0, .inr (4, [.ref (bH 0), .ref (bB 0), .int (nI (Bn 0)), .int (Ba 0)])), (bH 0, .inl (cI, 24, .inl (BH 0))), (bB 0, .inl (cI, 24, .inl (BB 0))), (bA 1, .inr (4, [.ref (bH 1), .ref (bB 1), .int (nI (Bn 1)), .int (Ba 1)])), (bH 1, .inl (cI, 24, .inl (BH 1))), (bB 1, .inl (cI, 24, .inl (BB 1))), (bA 2, .inr (4, [.ref (bH 2), .ref (bB 2), .int (nI (Bn 2)), .int (Ba 2)])), (bH 2, .inl (cI, 24, .inl (BH 2))), (bB 2, .inl (cI, 24, .inl (BB 2))), (bA 3, .inr (4, [.ref (bH 3), .ref (bB 3), .int (nI (Bn 3)), .int (Ba 3)])), (bH 3, .inl (cI, 24, .inl (BH 3))), (bB 3, .inl (cI, 24, .inl (BB 3))), (b, .inr (4, [.ref qh, .ref qb, .int (nI n), .int as_])), (qh, .inl (cI, 24, .inl hs)), (qb, .inl (cI, 24, .inl bs))] := hD.sub [11, 12, 13, 0, 1, 14, 2, 3, 15, 4, 5, 16, 6, 7, 8, 9, 10] rfl rfl
    refine W.eq (g2 := F0 m 12 ls []) rfl ?_
    refine lv_aload_n hx hb dX0_save_12 rfl (lv_at hl 0 rfl) ?_
    refine va_get (D := D) (ci := 0) (v := .ref qs) (C := RX0) (T := TX0) (N := 2) hx hb hts ilX0_save_0 hown hG.1 hP 0 rfl rfl 0 (by decide) (hts (.fieldLink RX0 11 "HornEngine$History" "saved" "[LHornEngine$Rulebook;") (List.mem_of_getElem? (i := 2) rfl)) (fun _ h9 => h9) rfl dX0_save_13 ?_
    refine lv_aload_n hx hb dX0_save_16 rfl (lv_at hl 0 rfl) ?_
    refine va_get (D := D) (ci := 0) (v := .int (nI 3)) (C := RX0) (T := TX0) (N := 2) hx hb hts ilX0_save_0 hown hG.1 hP 0 rfl rfl 1 (by decide) (hts (.fieldLink RX0 18 "HornEngine$History" "count" "I") (List.mem_of_getElem? (i := 1) rfl)) (fun _ h9 => h9) rfl dX0_save_17 ?_
    refine qa_ld hx hb hG hP 1 rfl 3 rfl (by omega) (by decide) rfl dX0_save_20 ?_
    refine lv_aload_n hx hb dX0_save_21 rfl (lv_at hl 1 rfl) ?_
    refine ef_V (As := [.ref b]) (rest := []) (wr := [(h, .inr (0, [.ref qs, .int (nI 3)])), (qs, .inl (cB, 4, .inr (.inr (.inr (.inr (svF (rot bA))))))), (bA 1, .inr (4, [.ref (bH 1), .ref (bB 1), .int (nI (Bn 1)), .int (Ba 1)])), (bH 1, .inl (cI, 24, .inl (BH 1))), (bB 1, .inl (cI, 24, .inl (BB 1))), (bA 2, .inr (4, [.ref (bH 2), .ref (bB 2), .int (nI (Bn 2)), .int (Ba 2)])), (bH 2, .inl (cI, 24, .inl (BH 2))), (bB 2, .inl (cI, 24, .inl (BB 2))), (bA 3, .inr (4, [.ref (bH 3), .ref (bB 3), .int (nI (Bn 3)), .int (Ba 3)])), (bH 3, .inl (cI, 24, .inl (BH 3))), (bB 3, .inl (cI, 24, .inl (BB 3)))]) ⟨hx, hb, hml, hown, hts⟩ hG hP hD hS hA (k_X4_copyFrom l D cI cB (bA 0) (bH 0) (bB 0) (BH 0) (BB 0) (Bn 0) (Ba 0) b qh qb hs bs n as_ (by omega) _) (cwV 1 hts gX0_save_X4_copyFrom rfl rfl rfl (by decide +kernel) ⟨(Nat.le_of_ble_eq_true rfl), (Nat.le_of_ble_eq_true rfl)⟩) [2, 3, 4, 14, 15, 16] [0, 1, 5, 6, 7, 8, 9, 10, 11, 12, 13] rfl rfl rfl rfl (by decide) 2 rfl rfl rfl rfl hl.1 rfl (Nat.le_of_ble_eq_true rfl) dX0_save_22 ⟨(Nat.le_of_ble_eq_true rfl), (Nat.le_of_ble_eq_true rfl)⟩ (fun v_11 u_11 H locs w_11 hP hD hS => ?_)
    have w_11 : v_11 = none := w_11
    subst w_11
    have hP : va_P D vwCl [(h, .inr (0, [.ref qs, .int (nI 3)])), (qs, .inl (cB, 4, .inr (.inr (.inr (.inr (svF (rot bA))))))), ((bA 0), .inr (4, [.ref (bH 0), .ref (bB 0), .int (nI n), .int as_])), ((bH 0), .inl (cI, 24, .inl (cpF hs (BH 0) n))), ((bB 0), .inl (cI, 24, .inl (cpF bs (BB 0) n))), (bA 1, .inr (4, [.ref (bH 1), .ref (bB 1), .int (nI (Bn 1)), .int (Ba 1)])), (bH 1, .inl (cI, 24, .inl (BH 1))), (bB 1, .inl (cI, 24, .inl (BB 1))), (bA 2, .inr (4, [.ref (bH 2), .ref (bB 2), .int (nI (Bn 2)), .int (Ba 2)])), (bH 2, .inl (cI, 24, .inl (BH 2))), (bB 2, .inl (cI, 24, .inl (BB 2))), (bA 3, .inr (4, [.ref (bH 3), .ref (bB 3), .int (nI (Bn 3)), .int (Ba 3)])), (bH 3, .inl (cI, 24, .inl (BH 3))), (bB 3, .inl (cI, 24, .inl (BB 3))), (b, .inr (4, [.ref qh, .ref qb, .int (nI n), .int as_])), (qh, .inl (cI, 24, .inl hs)), (qb, .inl (cI, 24, .inl bs))] H := hP.sub [0, 1, 11, 12, 13, 2, 3, 4, 5, 6, 7, 8, 9, 10, 14, 15, 16] rfl
    have hD : va_D A [(h, .inr (0, [.ref qs, .int (nI 3)])), (qs, .inl (cB, 4, .inr (.inr (.inr (.inr (svF (rot bA))))))), ((bA 0), .inr (4, [.ref (bH 0), .ref (bB 0), .int (nI n), .int as_])), ((bH 0), .inl (cI, 24, .inl (cpF hs (BH 0) n))), ((bB 0), .inl (cI, 24, .inl (cpF bs (BB 0) n))), (bA 1, .inr (4, [.ref (bH 1), .ref (bB 1), .int (nI (Bn 1)), .int (Ba 1)])), (bH 1, .inl (cI, 24, .inl (BH 1))), (bB 1, .inl (cI, 24, .inl (BB 1))), (bA 2, .inr (4, [.ref (bH 2), .ref (bB 2), .int (nI (Bn 2)), .int (Ba 2)])), (bH 2, .inl (cI, 24, .inl (BH 2))), (bB 2, .inl (cI, 24, .inl (BB 2))), (bA 3, .inr (4, [.ref (bH 3), .ref (bB 3), .int (nI (Bn 3)), .int (Ba 3)])), (bH 3, .inl (cI, 24, .inl (BH 3))), (bB 3, .inl (cI, 24, .inl (BB 3))), (b, .inr (4, [.ref qh, .ref qb, .int (nI n), .int as_])), (qh, .inl (cI, 24, .inl hs)), (qb, .inl (cI, 24, .inl bs))] := hD.sub [0, 1, 11, 12, 13, 2, 3, 4, 5, 6, 7, 8, 9, 10, 14, 15, 16] rfl rfl
    refine W.eq (g2 := F0 m 25 ls []) rfl ?_
    refine lv_aload_n hx hb dX0_save_25 rfl (lv_at hl 0 rfl) ?_
    refine lv_dup hx hb dX0_save_26 rfl ?_
    refine va_get (D := D) (ci := 0) (v := .int (nI 3)) (C := RX0) (T := TX0) (N := 2) hx hb hts ilX0_save_0 hown hG.1 hP 0 rfl rfl 1 (by decide) (hts (.fieldLink RX0 18 "HornEngine$History" "count" "I") (List.mem_of_getElem? (i := 1) rfl)) (fun _ h9 => h9) rfl dX0_save_27 ?_
    refine lv_iconst (v := nI 1) hx hb dX0_save_30 (by decide) ?_
    refine lv_iadd hx hb dX0_save_31 ?_
    refine lv_eqi (show (nI 3) + (nI 1) = nI 4 by decide) ?_
    refine va_put (D := D) (ci := 0) (v := .int (nI 4)) (ty := .int) (C := RX0) (T := TX0) (N := 2) hx hb hts ilX0_save_0 tyX0 tyX0_ok nmX0 hown hG.1 hP hD hS 0 rfl rfl 1 (by decide) (hts (.fieldLink RX0 18 "HornEngine$History" "count" "I") (List.mem_of_getElem? (i := 1) rfl)) (fun _ h9 => h9) rfl (by decide +kernel) rfl rfl (Nat.le_of_ble_eq_true rfl) dX0_save_32 (fun H locs hP hD hS => ?_)
    have hP : va_P D vwCl [(h, .inr (0, [.ref qs, .int (nI 4)])), (qs, .inl (cB, 4, .inr (.inr (.inr (.inr (svF (rot bA))))))), ((bA 0), .inr (4, [.ref (bH 0), .ref (bB 0), .int (nI n), .int as_])), ((bH 0), .inl (cI, 24, .inl (cpF hs (BH 0) n))), ((bB 0), .inl (cI, 24, .inl (cpF bs (BB 0) n))), (bA 1, .inr (4, [.ref (bH 1), .ref (bB 1), .int (nI (Bn 1)), .int (Ba 1)])), (bH 1, .inl (cI, 24, .inl (BH 1))), (bB 1, .inl (cI, 24, .inl (BB 1))), (bA 2, .inr (4, [.ref (bH 2), .ref (bB 2), .int (nI (Bn 2)), .int (Ba 2)])), (bH 2, .inl (cI, 24, .inl (BH 2))), (bB 2, .inl (cI, 24, .inl (BB 2))), (bA 3, .inr (4, [.ref (bH 3), .ref (bB 3), .int (nI (Bn 3)), .int (Ba 3)])), (bH 3, .inl (cI, 24, .inl (BH 3))), (bB 3, .inl (cI, 24, .inl (BB 3))), (b, .inr (4, [.ref qh, .ref qb, .int (nI n), .int as_])), (qh, .inl (cI, 24, .inl hs)), (qb, .inl (cI, 24, .inl bs))] H := hP
    have hD : va_D A [(h, .inr (0, [.ref qs, .int (nI 4)])), (qs, .inl (cB, 4, .inr (.inr (.inr (.inr (svF (rot bA))))))), ((bA 0), .inr (4, [.ref (bH 0), .ref (bB 0), .int (nI n), .int as_])), ((bH 0), .inl (cI, 24, .inl (cpF hs (BH 0) n))), ((bB 0), .inl (cI, 24, .inl (cpF bs (BB 0) n))), (bA 1, .inr (4, [.ref (bH 1), .ref (bB 1), .int (nI (Bn 1)), .int (Ba 1)])), (bH 1, .inl (cI, 24, .inl (BH 1))), (bB 1, .inl (cI, 24, .inl (BB 1))), (bA 2, .inr (4, [.ref (bH 2), .ref (bB 2), .int (nI (Bn 2)), .int (Ba 2)])), (bH 2, .inl (cI, 24, .inl (BH 2))), (bB 2, .inl (cI, 24, .inl (BB 2))), (bA 3, .inr (4, [.ref (bH 3), .ref (bB 3), .int (nI (Bn 3)), .int (Ba 3)])), (bH 3, .inl (cI, 24, .inl (BH 3))), (bB 3, .inl (cI, 24, .inl (BB 3))), (b, .inr (4, [.ref qh, .ref qb, .int (nI n), .int as_])), (qh, .inl (cI, 24, .inl hs)), (qb, .inl (cI, 24, .inl bs))] := hD
    exact hret (rot bA, rot bH, rot bB, va_up (rot BH) 3 (cpF hs (BH 0) n), va_up (rot BB) 3 (cpF bs (BB 0) n), va_up (rot Bn) 3 n, va_up (rot Ba) 3 as_, 4) _ _ _ _ (⟨rfl, hsv_rot BH BB Bn Ba hs bs n as_, Nat.le_of_ble_eq_true rfl, fun i hi => by dsimp only [va_up, rot]; split; exact hn; split; exact hB _ (by omega); exact hB 0 (by decide)⟩) (hP.sub [0, 1, 5, 6, 7, 8, 9, 10, 11, 12, 13, 2, 3, 4, 14, 15, 16] rfl) (hD.sub [0, 1, 5, 6, 7, 8, 9, 10, 11, 12, 13, 2, 3, 4, 14, 15, 16] rfl rfl) hS dX0_save_35
set_option maxHeartbeats 4000000 in
set_option maxRecDepth 100000 in
theorem k_X0_restore (l : Launch) (D : va_G) (cI cB : ClassId) (h : Nat) (qs : Nat) (k : Nat) (bA : Nat → Nat) (bH : Nat → Nat) (bB : Nat → Nat) (BH : Nat → Nat → Int32) (BB : Nat → Nat → Int32) (Bn : Nat → Nat) (Ba : Nat → Int32) (b : Nat) (qh : Nat) (qb : Nat) (hs : Nat → Int32) (bs : Nat → Int32) (n : Nat) (as_ : Int32) (hk : k ≤ 4) (hk0 : 0 < k) (hB : ∀ i, i < 4 → Bn i ≤ 24) (sz : Nat) : Wr l yX0_restore wsX0_restore ({ frames := 1, cells := 0, slots := 0, locals := 22 }) D cI cB [.ref h, .ref b] [(h, .inr (0, [.ref qs, .int (nI k)])), (qs, .inl (cB, 4, .inr (.inr (.inr (.inr (svF bA)))))), (bA 0, .inr (4, [.ref (bH 0), .ref (bB 0), .int (nI (Bn 0)), .int (Ba 0)])), (bH 0, .inl (cI, 24, .inl (BH 0))), (bB 0, .inl (cI, 24, .inl (BB 0))), (bA 1, .inr (4, [.ref (bH 1), .ref (bB 1), .int (nI (Bn 1)), .int (Ba 1)])), (bH 1, .inl (cI, 24, .inl (BH 1))), (bB 1, .inl (cI, 24, .inl (BB 1))), (bA 2, .inr (4, [.ref (bH 2), .ref (bB 2), .int (nI (Bn 2)), .int (Ba 2)])), (bH 2, .inl (cI, 24, .inl (BH 2))), (bB 2, .inl (cI, 24, .inl (BB 2))), (bA 3, .inr (4, [.ref (bH 3), .ref (bB 3), .int (nI (Bn 3)), .int (Ba 3)])), (bH 3, .inl (cI, 24, .inl (BH 3))), (bB 3, .inl (cI, 24, .inl (BB 3))), (b, .inr (4, [.ref qh, .ref qb, .int (nI n), .int as_])), (qh, .inl (cI, 24, .inl hs)), (qb, .inl (cI, 24, .inl bs))] sz (S := Unit) (fun v u => v = none) (fun u => [(h, .inr (0, [.ref qs, .int (nI (k - 1))])), (qs, .inl (cB, 4, .inr (.inr (.inr (.inr (svF bA)))))), (bA 0, .inr (4, [.ref (bH 0), .ref (bB 0), .int (nI (Bn 0)), .int (Ba 0)])), (bH 0, .inl (cI, 24, .inl (BH 0))), (bB 0, .inl (cI, 24, .inl (BB 0))), (bA 1, .inr (4, [.ref (bH 1), .ref (bB 1), .int (nI (Bn 1)), .int (Ba 1)])), (bH 1, .inl (cI, 24, .inl (BH 1))), (bB 1, .inl (cI, 24, .inl (BB 1))), (bA 2, .inr (4, [.ref (bH 2), .ref (bB 2), .int (nI (Bn 2)), .int (Ba 2)])), (bH 2, .inl (cI, 24, .inl (BH 2))), (bB 2, .inl (cI, 24, .inl (BB 2))), (bA 3, .inr (4, [.ref (bH 3), .ref (bB 3), .int (nI (Bn 3)), .int (Ba 3)])), (bH 3, .inl (cI, 24, .inl (BH 3))), (bB 3, .inl (cI, 24, .inl (BB 3))), (b, .inr (4, [.ref qh, .ref qb, .int (nI (Bn (k - 1))), .int (Ba (k - 1))])), (qh, .inl (cI, 24, .inl (cpF (BH (k - 1)) hs (Bn (k - 1))))), (qb, .inl (cI, 24, .inl (cpF (BB (k - 1)) bs (Bn (k - 1)))))]) 0 0 := by
  refine ef_startV (cc := cX0_restore) (maxL := 2) (by decide) rfl (Nat.le_of_ble_eq_true rfl) ?_
  intro p e s m args below meth c Q A hx hb hml hown hts hP hG hD hA hin hret ls hl
  have hown : s.vm.findClass RX0 = some m.cls := hown
  have hl : lv_has ls 2 [(0, .ref h), (1, .ref b)] := hl
  have hS : va_S A s.heap s.heap [] := va_S.rf
  rcases (show k = 1 ∨ k = 2 ∨ k = 3 ∨ k = 4 by omega) with rfl | rfl | rfl | rfl
  · skip
    refine lv_aload_n hx hb dX0_restore_0 rfl (lv_at hl 0 rfl) ?_
    refine pu_V (As := []) (rest := []) ⟨hx, hb, hml, hown, hts⟩ hG hP (k_X0_isEmpty l D cI cB h qs 1 bA bH bB BH BB Bn Ba (by omega)) (cwV 0 hts gX0_restore_X0_isEmpty rfl rfl rfl (by decide +kernel) ⟨(Nat.le_of_ble_eq_true rfl), (Nat.le_of_ble_eq_true rfl)⟩) [0, 1] rfl 0 rfl rfl rfl rfl hl.1 rfl (Nat.le_of_ble_eq_true rfl) dX0_restore_1 ⟨Nat.zero_le _, Nat.zero_le _⟩ ?_
    refine lv_if_ne (tgt := 30) hx hb dX0_restore_4 (by decide) (fun c_1 => ?_) (fun c_1 => ?_)
    · skip
      have c_1 : (decide (1 = 0)) = true := bI_t.mp c_1
      exact absurd (of_decide_eq_true c_1) (by decide)
    · skip
      have c_1 : (decide (1 = 0)) = false := bI_f.mp c_1
      refine lv_aload_n hx hb dX0_restore_7 rfl (lv_at hl 0 rfl) ?_
      refine lv_dup hx hb dX0_restore_8 rfl ?_
      refine va_get (D := D) (ci := 0) (v := .int (nI 1)) (C := RX0) (T := TX0) (N := 2) hx hb hts ilX0_restore_0 hown hG.1 hP 0 rfl rfl 1 (by decide) (hts (.fieldLink RX0 18 "HornEngine$History" "count" "I") (List.mem_of_getElem? (i := 1) rfl)) (fun _ h9 => h9) rfl dX0_restore_9 ?_
      refine lv_iconst (v := nI 1) hx hb dX0_restore_12 (by decide) ?_
      refine lv_isub hx hb dX0_restore_13 ?_
      refine lv_eqi (show (nI 1) - (nI 1) = nI 0 by decide) ?_
      refine va_put (D := D) (ci := 0) (v := .int (nI 0)) (ty := .int) (C := RX0) (T := TX0) (N := 2) hx hb hts ilX0_restore_0 tyX0 tyX0_ok nmX0 hown hG.1 hP hD hS 0 rfl rfl 1 (by decide) (hts (.fieldLink RX0 18 "HornEngine$History" "count" "I") (List.mem_of_getElem? (i := 1) rfl)) (fun _ h9 => h9) rfl (by decide +kernel) rfl rfl (Nat.le_of_ble_eq_true rfl) dX0_restore_14 (fun H locs hP hD hS => ?_)
      have hP : va_P D vwCl [(h, .inr (0, [.ref qs, .int (nI 0)])), (qs, .inl (cB, 4, .inr (.inr (.inr (.inr (svF bA)))))), (bA 0, .inr (4, [.ref (bH 0), .ref (bB 0), .int (nI (Bn 0)), .int (Ba 0)])), (bH 0, .inl (cI, 24, .inl (BH 0))), (bB 0, .inl (cI, 24, .inl (BB 0))), (bA 1, .inr (4, [.ref (bH 1), .ref (bB 1), .int (nI (Bn 1)), .int (Ba 1)])), (bH 1, .inl (cI, 24, .inl (BH 1))), (bB 1, .inl (cI, 24, .inl (BB 1))), (bA 2, .inr (4, [.ref (bH 2), .ref (bB 2), .int (nI (Bn 2)), .int (Ba 2)])), (bH 2, .inl (cI, 24, .inl (BH 2))), (bB 2, .inl (cI, 24, .inl (BB 2))), (bA 3, .inr (4, [.ref (bH 3), .ref (bB 3), .int (nI (Bn 3)), .int (Ba 3)])), (bH 3, .inl (cI, 24, .inl (BH 3))), (bB 3, .inl (cI, 24, .inl (BB 3))), (b, .inr (4, [.ref qh, .ref qb, .int (nI n), .int as_])), (qh, .inl (cI, 24, .inl hs)), (qb, .inl (cI, 24, .inl bs))] H := hP
      have hD : va_D A [(h, .inr (0, [.ref qs, .int (nI 0)])), (qs, .inl (cB, 4, .inr (.inr (.inr (.inr (svF bA)))))), (bA 0, .inr (4, [.ref (bH 0), .ref (bB 0), .int (nI (Bn 0)), .int (Ba 0)])), (bH 0, .inl (cI, 24, .inl (BH 0))), (bB 0, .inl (cI, 24, .inl (BB 0))), (bA 1, .inr (4, [.ref (bH 1), .ref (bB 1), .int (nI (Bn 1)), .int (Ba 1)])), (bH 1, .inl (cI, 24, .inl (BH 1))), (bB 1, .inl (cI, 24, .inl (BB 1))), (bA 2, .inr (4, [.ref (bH 2), .ref (bB 2), .int (nI (Bn 2)), .int (Ba 2)])), (bH 2, .inl (cI, 24, .inl (BH 2))), (bB 2, .inl (cI, 24, .inl (BB 2))), (bA 3, .inr (4, [.ref (bH 3), .ref (bB 3), .int (nI (Bn 3)), .int (Ba 3)])), (bH 3, .inl (cI, 24, .inl (BH 3))), (bB 3, .inl (cI, 24, .inl (BB 3))), (b, .inr (4, [.ref qh, .ref qb, .int (nI n), .int as_])), (qh, .inl (cI, 24, .inl hs)), (qb, .inl (cI, 24, .inl bs))] := hD
      refine lv_aload_n hx hb dX0_restore_17 rfl (lv_at hl 1 rfl) ?_
      refine lv_aload_n hx hb dX0_restore_18 rfl (lv_at hl 0 rfl) ?_
      refine va_get (D := D) (ci := 0) (v := .ref qs) (C := RX0) (T := TX0) (N := 2) hx hb hts ilX0_restore_0 hown hG.1 hP 0 rfl rfl 0 (by decide) (hts (.fieldLink RX0 11 "HornEngine$History" "saved" "[LHornEngine$Rulebook;") (List.mem_of_getElem? (i := 2) rfl)) (fun _ h9 => h9) rfl dX0_restore_19 ?_
      refine lv_aload_n hx hb dX0_restore_22 rfl (lv_at hl 0 rfl) ?_
      refine va_get (D := D) (ci := 0) (v := .int (nI 0)) (C := RX0) (T := TX0) (N := 2) hx hb hts ilX0_restore_0 hown hG.1 hP 0 rfl rfl 1 (by decide) (hts (.fieldLink RX0 18 "HornEngine$History" "count" "I") (List.mem_of_getElem? (i := 1) rfl)) (fun _ h9 => h9) rfl dX0_restore_23 ?_
      refine qa_ld hx hb hG hP 1 rfl 0 rfl (by omega) (by decide) rfl dX0_restore_26 ?_
      refine ef_V (As := [.ref (bA 0)]) (rest := []) (wr := [(h, .inr (0, [.ref qs, .int (nI 0)])), (qs, .inl (cB, 4, .inr (.inr (.inr (.inr (svF bA)))))), (bA 1, .inr (4, [.ref (bH 1), .ref (bB 1), .int (nI (Bn 1)), .int (Ba 1)])), (bH 1, .inl (cI, 24, .inl (BH 1))), (bB 1, .inl (cI, 24, .inl (BB 1))), (bA 2, .inr (4, [.ref (bH 2), .ref (bB 2), .int (nI (Bn 2)), .int (Ba 2)])), (bH 2, .inl (cI, 24, .inl (BH 2))), (bB 2, .inl (cI, 24, .inl (BB 2))), (bA 3, .inr (4, [.ref (bH 3), .ref (bB 3), .int (nI (Bn 3)), .int (Ba 3)])), (bH 3, .inl (cI, 24, .inl (BH 3))), (bB 3, .inl (cI, 24, .inl (BB 3)))]) ⟨hx, hb, hml, hown, hts⟩ hG hP hD hS hA (k_X4_copyFrom l D cI cB b qh qb hs bs n as_ (bA 0) (bH 0) (bB 0) (BH 0) (BB 0) (Bn 0) (Ba 0) (hB _ (by decide)) _) (cwV 1 hts gX0_restore_X4_copyFrom rfl rfl rfl (by decide +kernel) ⟨(Nat.le_of_ble_eq_true rfl), (Nat.le_of_ble_eq_true rfl)⟩) [14, 15, 16, 2, 3, 4] [0, 1, 5, 6, 7, 8, 9, 10, 11, 12, 13] rfl rfl rfl rfl (by decide) 14 rfl rfl rfl rfl hl.1 rfl (Nat.le_of_ble_eq_true rfl) dX0_restore_27 ⟨(Nat.le_of_ble_eq_true rfl), (Nat.le_of_ble_eq_true rfl)⟩ (fun v_2 u_2 H locs w_2 hP hD hS => ?_)
      have w_2 : v_2 = none := w_2
      subst w_2
      have hP : va_P D vwCl [(h, .inr (0, [.ref qs, .int (nI 0)])), (qs, .inl (cB, 4, .inr (.inr (.inr (.inr (svF bA)))))), ((bA 0), .inr (4, [.ref (bH 0), .ref (bB 0), .int (nI (Bn 0)), .int (Ba 0)])), ((bH 0), .inl (cI, 24, .inl (BH 0))), ((bB 0), .inl (cI, 24, .inl (BB 0))), (bA 1, .inr (4, [.ref (bH 1), .ref (bB 1), .int (nI (Bn 1)), .int (Ba 1)])), (bH 1, .inl (cI, 24, .inl (BH 1))), (bB 1, .inl (cI, 24, .inl (BB 1))), (bA 2, .inr (4, [.ref (bH 2), .ref (bB 2), .int (nI (Bn 2)), .int (Ba 2)])), (bH 2, .inl (cI, 24, .inl (BH 2))), (bB 2, .inl (cI, 24, .inl (BB 2))), (bA 3, .inr (4, [.ref (bH 3), .ref (bB 3), .int (nI (Bn 3)), .int (Ba 3)])), (bH 3, .inl (cI, 24, .inl (BH 3))), (bB 3, .inl (cI, 24, .inl (BB 3))), (b, .inr (4, [.ref qh, .ref qb, .int (nI (Bn 0)), .int (Ba 0)])), (qh, .inl (cI, 24, .inl (cpF (BH 0) hs (Bn 0)))), (qb, .inl (cI, 24, .inl (cpF (BB 0) bs (Bn 0))))] H := hP.sub [0, 1, 14, 15, 16, 2, 3, 4, 5, 6, 7, 8, 9, 10, 11, 12, 13] rfl
      have hD : va_D A [(h, .inr (0, [.ref qs, .int (nI 0)])), (qs, .inl (cB, 4, .inr (.inr (.inr (.inr (svF bA)))))), ((bA 0), .inr (4, [.ref (bH 0), .ref (bB 0), .int (nI (Bn 0)), .int (Ba 0)])), ((bH 0), .inl (cI, 24, .inl (BH 0))), ((bB 0), .inl (cI, 24, .inl (BB 0))), (bA 1, .inr (4, [.ref (bH 1), .ref (bB 1), .int (nI (Bn 1)), .int (Ba 1)])), (bH 1, .inl (cI, 24, .inl (BH 1))), (bB 1, .inl (cI, 24, .inl (BB 1))), (bA 2, .inr (4, [.ref (bH 2), .ref (bB 2), .int (nI (Bn 2)), .int (Ba 2)])), (bH 2, .inl (cI, 24, .inl (BH 2))), (bB 2, .inl (cI, 24, .inl (BB 2))), (bA 3, .inr (4, [.ref (bH 3), .ref (bB 3), .int (nI (Bn 3)), .int (Ba 3)])), (bH 3, .inl (cI, 24, .inl (BH 3))), (bB 3, .inl (cI, 24, .inl (BB 3))), (b, .inr (4, [.ref qh, .ref qb, .int (nI (Bn 0)), .int (Ba 0)])), (qh, .inl (cI, 24, .inl (cpF (BH 0) hs (Bn 0)))), (qb, .inl (cI, 24, .inl (cpF (BB 0) bs (Bn 0))))] := hD.sub [0, 1, 14, 15, 16, 2, 3, 4, 5, 6, 7, 8, 9, 10, 11, 12, 13] rfl rfl
      refine W.eq (g2 := F0 m 30 ls []) rfl ?_
      exact hret () _ _ _ _ (rfl) (hP) (hD) hS dX0_restore_30
  · skip
    refine lv_aload_n hx hb dX0_restore_0 rfl (lv_at hl 0 rfl) ?_
    refine pu_V (As := []) (rest := []) ⟨hx, hb, hml, hown, hts⟩ hG hP (k_X0_isEmpty l D cI cB h qs 2 bA bH bB BH BB Bn Ba (by omega)) (cwV 0 hts gX0_restore_X0_isEmpty rfl rfl rfl (by decide +kernel) ⟨(Nat.le_of_ble_eq_true rfl), (Nat.le_of_ble_eq_true rfl)⟩) [0, 1] rfl 0 rfl rfl rfl rfl hl.1 rfl (Nat.le_of_ble_eq_true rfl) dX0_restore_1 ⟨Nat.zero_le _, Nat.zero_le _⟩ ?_
    refine lv_if_ne (tgt := 30) hx hb dX0_restore_4 (by decide) (fun c_3 => ?_) (fun c_3 => ?_)
    · skip
      have c_3 : (decide (2 = 0)) = true := bI_t.mp c_3
      exact absurd (of_decide_eq_true c_3) (by decide)
    · skip
      have c_3 : (decide (2 = 0)) = false := bI_f.mp c_3
      refine lv_aload_n hx hb dX0_restore_7 rfl (lv_at hl 0 rfl) ?_
      refine lv_dup hx hb dX0_restore_8 rfl ?_
      refine va_get (D := D) (ci := 0) (v := .int (nI 2)) (C := RX0) (T := TX0) (N := 2) hx hb hts ilX0_restore_0 hown hG.1 hP 0 rfl rfl 1 (by decide) (hts (.fieldLink RX0 18 "HornEngine$History" "count" "I") (List.mem_of_getElem? (i := 1) rfl)) (fun _ h9 => h9) rfl dX0_restore_9 ?_
      refine lv_iconst (v := nI 1) hx hb dX0_restore_12 (by decide) ?_
      refine lv_isub hx hb dX0_restore_13 ?_
      refine lv_eqi (show (nI 2) - (nI 1) = nI 1 by decide) ?_
      refine va_put (D := D) (ci := 0) (v := .int (nI 1)) (ty := .int) (C := RX0) (T := TX0) (N := 2) hx hb hts ilX0_restore_0 tyX0 tyX0_ok nmX0 hown hG.1 hP hD hS 0 rfl rfl 1 (by decide) (hts (.fieldLink RX0 18 "HornEngine$History" "count" "I") (List.mem_of_getElem? (i := 1) rfl)) (fun _ h9 => h9) rfl (by decide +kernel) rfl rfl (Nat.le_of_ble_eq_true rfl) dX0_restore_14 (fun H locs hP hD hS => ?_)
      have hP : va_P D vwCl [(h, .inr (0, [.ref qs, .int (nI 1)])), (qs, .inl (cB, 4, .inr (.inr (.inr (.inr (svF bA)))))), (bA 0, .inr (4, [.ref (bH 0), .ref (bB 0), .int (nI (Bn 0)), .int (Ba 0)])), (bH 0, .inl (cI, 24, .inl (BH 0))), (bB 0, .inl (cI, 24, .inl (BB 0))), (bA 1, .inr (4, [.ref (bH 1), .ref (bB 1), .int (nI (Bn 1)), .int (Ba 1)])), (bH 1, .inl (cI, 24, .inl (BH 1))), (bB 1, .inl (cI, 24, .inl (BB 1))), (bA 2, .inr (4, [.ref (bH 2), .ref (bB 2), .int (nI (Bn 2)), .int (Ba 2)])), (bH 2, .inl (cI, 24, .inl (BH 2))), (bB 2, .inl (cI, 24, .inl (BB 2))), (bA 3, .inr (4, [.ref (bH 3), .ref (bB 3), .int (nI (Bn 3)), .int (Ba 3)])), (bH 3, .inl (cI, 24, .inl (BH 3))), (bB 3, .inl (cI, 24, .inl (BB 3))), (b, .inr (4, [.ref qh, .ref qb, .int (nI n), .int as_])), (qh, .inl (cI, 24, .inl hs)), (qb, .inl (cI, 24, .inl bs))] H := hP
      have hD : va_D A [(h, .inr (0, [.ref qs, .int (nI 1)])), (qs, .inl (cB, 4, .inr (.inr (.inr (.inr (svF bA)))))), (bA 0, .inr (4, [.ref (bH 0), .ref (bB 0), .int (nI (Bn 0)), .int (Ba 0)])), (bH 0, .inl (cI, 24, .inl (BH 0))), (bB 0, .inl (cI, 24, .inl (BB 0))), (bA 1, .inr (4, [.ref (bH 1), .ref (bB 1), .int (nI (Bn 1)), .int (Ba 1)])), (bH 1, .inl (cI, 24, .inl (BH 1))), (bB 1, .inl (cI, 24, .inl (BB 1))), (bA 2, .inr (4, [.ref (bH 2), .ref (bB 2), .int (nI (Bn 2)), .int (Ba 2)])), (bH 2, .inl (cI, 24, .inl (BH 2))), (bB 2, .inl (cI, 24, .inl (BB 2))), (bA 3, .inr (4, [.ref (bH 3), .ref (bB 3), .int (nI (Bn 3)), .int (Ba 3)])), (bH 3, .inl (cI, 24, .inl (BH 3))), (bB 3, .inl (cI, 24, .inl (BB 3))), (b, .inr (4, [.ref qh, .ref qb, .int (nI n), .int as_])), (qh, .inl (cI, 24, .inl hs)), (qb, .inl (cI, 24, .inl bs))] := hD
      refine lv_aload_n hx hb dX0_restore_17 rfl (lv_at hl 1 rfl) ?_
      refine lv_aload_n hx hb dX0_restore_18 rfl (lv_at hl 0 rfl) ?_
      refine va_get (D := D) (ci := 0) (v := .ref qs) (C := RX0) (T := TX0) (N := 2) hx hb hts ilX0_restore_0 hown hG.1 hP 0 rfl rfl 0 (by decide) (hts (.fieldLink RX0 11 "HornEngine$History" "saved" "[LHornEngine$Rulebook;") (List.mem_of_getElem? (i := 2) rfl)) (fun _ h9 => h9) rfl dX0_restore_19 ?_
      refine lv_aload_n hx hb dX0_restore_22 rfl (lv_at hl 0 rfl) ?_
      refine va_get (D := D) (ci := 0) (v := .int (nI 1)) (C := RX0) (T := TX0) (N := 2) hx hb hts ilX0_restore_0 hown hG.1 hP 0 rfl rfl 1 (by decide) (hts (.fieldLink RX0 18 "HornEngine$History" "count" "I") (List.mem_of_getElem? (i := 1) rfl)) (fun _ h9 => h9) rfl dX0_restore_23 ?_
      refine qa_ld hx hb hG hP 1 rfl 1 rfl (by omega) (by decide) rfl dX0_restore_26 ?_
      refine ef_V (As := [.ref (bA 1)]) (rest := []) (wr := [(h, .inr (0, [.ref qs, .int (nI 1)])), (qs, .inl (cB, 4, .inr (.inr (.inr (.inr (svF bA)))))), (bA 0, .inr (4, [.ref (bH 0), .ref (bB 0), .int (nI (Bn 0)), .int (Ba 0)])), (bH 0, .inl (cI, 24, .inl (BH 0))), (bB 0, .inl (cI, 24, .inl (BB 0))), (bA 2, .inr (4, [.ref (bH 2), .ref (bB 2), .int (nI (Bn 2)), .int (Ba 2)])), (bH 2, .inl (cI, 24, .inl (BH 2))), (bB 2, .inl (cI, 24, .inl (BB 2))), (bA 3, .inr (4, [.ref (bH 3), .ref (bB 3), .int (nI (Bn 3)), .int (Ba 3)])), (bH 3, .inl (cI, 24, .inl (BH 3))), (bB 3, .inl (cI, 24, .inl (BB 3)))]) ⟨hx, hb, hml, hown, hts⟩ hG hP hD hS hA (k_X4_copyFrom l D cI cB b qh qb hs bs n as_ (bA 1) (bH 1) (bB 1) (BH 1) (BB 1) (Bn 1) (Ba 1) (hB _ (by decide)) _) (cwV 1 hts gX0_restore_X4_copyFrom rfl rfl rfl (by decide +kernel) ⟨(Nat.le_of_ble_eq_true rfl), (Nat.le_of_ble_eq_true rfl)⟩) [14, 15, 16, 5, 6, 7] [0, 1, 2, 3, 4, 8, 9, 10, 11, 12, 13] rfl rfl rfl rfl (by decide) 14 rfl rfl rfl rfl hl.1 rfl (Nat.le_of_ble_eq_true rfl) dX0_restore_27 ⟨(Nat.le_of_ble_eq_true rfl), (Nat.le_of_ble_eq_true rfl)⟩ (fun v_4 u_4 H locs w_4 hP hD hS => ?_)
      have w_4 : v_4 = none := w_4
      subst w_4
      have hP : va_P D vwCl [(h, .inr (0, [.ref qs, .int (nI 1)])), (qs, .inl (cB, 4, .inr (.inr (.inr (.inr (svF bA)))))), (bA 0, .inr (4, [.ref (bH 0), .ref (bB 0), .int (nI (Bn 0)), .int (Ba 0)])), (bH 0, .inl (cI, 24, .inl (BH 0))), (bB 0, .inl (cI, 24, .inl (BB 0))), ((bA 1), .inr (4, [.ref (bH 1), .ref (bB 1), .int (nI (Bn 1)), .int (Ba 1)])), ((bH 1), .inl (cI, 24, .inl (BH 1))), ((bB 1), .inl (cI, 24, .inl (BB 1))), (bA 2, .inr (4, [.ref (bH 2), .ref (bB 2), .int (nI (Bn 2)), .int (Ba 2)])), (bH 2, .inl (cI, 24, .inl (BH 2))), (bB 2, .inl (cI, 24, .inl (BB 2))), (bA 3, .inr (4, [.ref (bH 3), .ref (bB 3), .int (nI (Bn 3)), .int (Ba 3)])), (bH 3, .inl (cI, 24, .inl (BH 3))), (bB 3, .inl (cI, 24, .inl (BB 3))), (b, .inr (4, [.ref qh, .ref qb, .int (nI (Bn 1)), .int (Ba 1)])), (qh, .inl (cI, 24, .inl (cpF (BH 1) hs (Bn 1)))), (qb, .inl (cI, 24, .inl (cpF (BB 1) bs (Bn 1))))] H := hP.sub [0, 1, 2, 3, 4, 14, 15, 16, 5, 6, 7, 8, 9, 10, 11, 12, 13] rfl
      have hD : va_D A [(h, .inr (0, [.ref qs, .int (nI 1)])), (qs, .inl (cB, 4, .inr (.inr (.inr (.inr (svF bA)))))), (bA 0, .inr (4, [.ref (bH 0), .ref (bB 0), .int (nI (Bn 0)), .int (Ba 0)])), (bH 0, .inl (cI, 24, .inl (BH 0))), (bB 0, .inl (cI, 24, .inl (BB 0))), ((bA 1), .inr (4, [.ref (bH 1), .ref (bB 1), .int (nI (Bn 1)), .int (Ba 1)])), ((bH 1), .inl (cI, 24, .inl (BH 1))), ((bB 1), .inl (cI, 24, .inl (BB 1))), (bA 2, .inr (4, [.ref (bH 2), .ref (bB 2), .int (nI (Bn 2)), .int (Ba 2)])), (bH 2, .inl (cI, 24, .inl (BH 2))), (bB 2, .inl (cI, 24, .inl (BB 2))), (bA 3, .inr (4, [.ref (bH 3), .ref (bB 3), .int (nI (Bn 3)), .int (Ba 3)])), (bH 3, .inl (cI, 24, .inl (BH 3))), (bB 3, .inl (cI, 24, .inl (BB 3))), (b, .inr (4, [.ref qh, .ref qb, .int (nI (Bn 1)), .int (Ba 1)])), (qh, .inl (cI, 24, .inl (cpF (BH 1) hs (Bn 1)))), (qb, .inl (cI, 24, .inl (cpF (BB 1) bs (Bn 1))))] := hD.sub [0, 1, 2, 3, 4, 14, 15, 16, 5, 6, 7, 8, 9, 10, 11, 12, 13] rfl rfl
      refine W.eq (g2 := F0 m 30 ls []) rfl ?_
      exact hret () _ _ _ _ (rfl) (hP) (hD) hS dX0_restore_30
  · skip
    refine lv_aload_n hx hb dX0_restore_0 rfl (lv_at hl 0 rfl) ?_
    refine pu_V (As := []) (rest := []) ⟨hx, hb, hml, hown, hts⟩ hG hP (k_X0_isEmpty l D cI cB h qs 3 bA bH bB BH BB Bn Ba (by omega)) (cwV 0 hts gX0_restore_X0_isEmpty rfl rfl rfl (by decide +kernel) ⟨(Nat.le_of_ble_eq_true rfl), (Nat.le_of_ble_eq_true rfl)⟩) [0, 1] rfl 0 rfl rfl rfl rfl hl.1 rfl (Nat.le_of_ble_eq_true rfl) dX0_restore_1 ⟨Nat.zero_le _, Nat.zero_le _⟩ ?_
    refine lv_if_ne (tgt := 30) hx hb dX0_restore_4 (by decide) (fun c_5 => ?_) (fun c_5 => ?_)
    · skip
      have c_5 : (decide (3 = 0)) = true := bI_t.mp c_5
      exact absurd (of_decide_eq_true c_5) (by decide)
    · skip
      have c_5 : (decide (3 = 0)) = false := bI_f.mp c_5
      refine lv_aload_n hx hb dX0_restore_7 rfl (lv_at hl 0 rfl) ?_
      refine lv_dup hx hb dX0_restore_8 rfl ?_
      refine va_get (D := D) (ci := 0) (v := .int (nI 3)) (C := RX0) (T := TX0) (N := 2) hx hb hts ilX0_restore_0 hown hG.1 hP 0 rfl rfl 1 (by decide) (hts (.fieldLink RX0 18 "HornEngine$History" "count" "I") (List.mem_of_getElem? (i := 1) rfl)) (fun _ h9 => h9) rfl dX0_restore_9 ?_
      refine lv_iconst (v := nI 1) hx hb dX0_restore_12 (by decide) ?_
      refine lv_isub hx hb dX0_restore_13 ?_
      refine lv_eqi (show (nI 3) - (nI 1) = nI 2 by decide) ?_
      refine va_put (D := D) (ci := 0) (v := .int (nI 2)) (ty := .int) (C := RX0) (T := TX0) (N := 2) hx hb hts ilX0_restore_0 tyX0 tyX0_ok nmX0 hown hG.1 hP hD hS 0 rfl rfl 1 (by decide) (hts (.fieldLink RX0 18 "HornEngine$History" "count" "I") (List.mem_of_getElem? (i := 1) rfl)) (fun _ h9 => h9) rfl (by decide +kernel) rfl rfl (Nat.le_of_ble_eq_true rfl) dX0_restore_14 (fun H locs hP hD hS => ?_)
      have hP : va_P D vwCl [(h, .inr (0, [.ref qs, .int (nI 2)])), (qs, .inl (cB, 4, .inr (.inr (.inr (.inr (svF bA)))))), (bA 0, .inr (4, [.ref (bH 0), .ref (bB 0), .int (nI (Bn 0)), .int (Ba 0)])), (bH 0, .inl (cI, 24, .inl (BH 0))), (bB 0, .inl (cI, 24, .inl (BB 0))), (bA 1, .inr (4, [.ref (bH 1), .ref (bB 1), .int (nI (Bn 1)), .int (Ba 1)])), (bH 1, .inl (cI, 24, .inl (BH 1))), (bB 1, .inl (cI, 24, .inl (BB 1))), (bA 2, .inr (4, [.ref (bH 2), .ref (bB 2), .int (nI (Bn 2)), .int (Ba 2)])), (bH 2, .inl (cI, 24, .inl (BH 2))), (bB 2, .inl (cI, 24, .inl (BB 2))), (bA 3, .inr (4, [.ref (bH 3), .ref (bB 3), .int (nI (Bn 3)), .int (Ba 3)])), (bH 3, .inl (cI, 24, .inl (BH 3))), (bB 3, .inl (cI, 24, .inl (BB 3))), (b, .inr (4, [.ref qh, .ref qb, .int (nI n), .int as_])), (qh, .inl (cI, 24, .inl hs)), (qb, .inl (cI, 24, .inl bs))] H := hP
      have hD : va_D A [(h, .inr (0, [.ref qs, .int (nI 2)])), (qs, .inl (cB, 4, .inr (.inr (.inr (.inr (svF bA)))))), (bA 0, .inr (4, [.ref (bH 0), .ref (bB 0), .int (nI (Bn 0)), .int (Ba 0)])), (bH 0, .inl (cI, 24, .inl (BH 0))), (bB 0, .inl (cI, 24, .inl (BB 0))), (bA 1, .inr (4, [.ref (bH 1), .ref (bB 1), .int (nI (Bn 1)), .int (Ba 1)])), (bH 1, .inl (cI, 24, .inl (BH 1))), (bB 1, .inl (cI, 24, .inl (BB 1))), (bA 2, .inr (4, [.ref (bH 2), .ref (bB 2), .int (nI (Bn 2)), .int (Ba 2)])), (bH 2, .inl (cI, 24, .inl (BH 2))), (bB 2, .inl (cI, 24, .inl (BB 2))), (bA 3, .inr (4, [.ref (bH 3), .ref (bB 3), .int (nI (Bn 3)), .int (Ba 3)])), (bH 3, .inl (cI, 24, .inl (BH 3))), (bB 3, .inl (cI, 24, .inl (BB 3))), (b, .inr (4, [.ref qh, .ref qb, .int (nI n), .int as_])), (qh, .inl (cI, 24, .inl hs)), (qb, .inl (cI, 24, .inl bs))] := hD
      refine lv_aload_n hx hb dX0_restore_17 rfl (lv_at hl 1 rfl) ?_
      refine lv_aload_n hx hb dX0_restore_18 rfl (lv_at hl 0 rfl) ?_
      refine va_get (D := D) (ci := 0) (v := .ref qs) (C := RX0) (T := TX0) (N := 2) hx hb hts ilX0_restore_0 hown hG.1 hP 0 rfl rfl 0 (by decide) (hts (.fieldLink RX0 11 "HornEngine$History" "saved" "[LHornEngine$Rulebook;") (List.mem_of_getElem? (i := 2) rfl)) (fun _ h9 => h9) rfl dX0_restore_19 ?_
      refine lv_aload_n hx hb dX0_restore_22 rfl (lv_at hl 0 rfl) ?_
      refine va_get (D := D) (ci := 0) (v := .int (nI 2)) (C := RX0) (T := TX0) (N := 2) hx hb hts ilX0_restore_0 hown hG.1 hP 0 rfl rfl 1 (by decide) (hts (.fieldLink RX0 18 "HornEngine$History" "count" "I") (List.mem_of_getElem? (i := 1) rfl)) (fun _ h9 => h9) rfl dX0_restore_23 ?_
      refine qa_ld hx hb hG hP 1 rfl 2 rfl (by omega) (by decide) rfl dX0_restore_26 ?_
      refine ef_V (As := [.ref (bA 2)]) (rest := []) (wr := [(h, .inr (0, [.ref qs, .int (nI 2)])), (qs, .inl (cB, 4, .inr (.inr (.inr (.inr (svF bA)))))), (bA 0, .inr (4, [.ref (bH 0), .ref (bB 0), .int (nI (Bn 0)), .int (Ba 0)])), (bH 0, .inl (cI, 24, .inl (BH 0))), (bB 0, .inl (cI, 24, .inl (BB 0))), (bA 1, .inr (4, [.ref (bH 1), .ref (bB 1), .int (nI (Bn 1)), .int (Ba 1)])), (bH 1, .inl (cI, 24, .inl (BH 1))), (bB 1, .inl (cI, 24, .inl (BB 1))), (bA 3, .inr (4, [.ref (bH 3), .ref (bB 3), .int (nI (Bn 3)), .int (Ba 3)])), (bH 3, .inl (cI, 24, .inl (BH 3))), (bB 3, .inl (cI, 24, .inl (BB 3)))]) ⟨hx, hb, hml, hown, hts⟩ hG hP hD hS hA (k_X4_copyFrom l D cI cB b qh qb hs bs n as_ (bA 2) (bH 2) (bB 2) (BH 2) (BB 2) (Bn 2) (Ba 2) (hB _ (by decide)) _) (cwV 1 hts gX0_restore_X4_copyFrom rfl rfl rfl (by decide +kernel) ⟨(Nat.le_of_ble_eq_true rfl), (Nat.le_of_ble_eq_true rfl)⟩) [14, 15, 16, 8, 9, 10] [0, 1, 2, 3, 4, 5, 6, 7, 11, 12, 13] rfl rfl rfl rfl (by decide) 14 rfl rfl rfl rfl hl.1 rfl (Nat.le_of_ble_eq_true rfl) dX0_restore_27 ⟨(Nat.le_of_ble_eq_true rfl), (Nat.le_of_ble_eq_true rfl)⟩ (fun v_6 u_6 H locs w_6 hP hD hS => ?_)
      have w_6 : v_6 = none := w_6
      subst w_6
      have hP : va_P D vwCl [(h, .inr (0, [.ref qs, .int (nI 2)])), (qs, .inl (cB, 4, .inr (.inr (.inr (.inr (svF bA)))))), (bA 0, .inr (4, [.ref (bH 0), .ref (bB 0), .int (nI (Bn 0)), .int (Ba 0)])), (bH 0, .inl (cI, 24, .inl (BH 0))), (bB 0, .inl (cI, 24, .inl (BB 0))), (bA 1, .inr (4, [.ref (bH 1), .ref (bB 1), .int (nI (Bn 1)), .int (Ba 1)])), (bH 1, .inl (cI, 24, .inl (BH 1))), (bB 1, .inl (cI, 24, .inl (BB 1))), ((bA 2), .inr (4, [.ref (bH 2), .ref (bB 2), .int (nI (Bn 2)), .int (Ba 2)])), ((bH 2), .inl (cI, 24, .inl (BH 2))), ((bB 2), .inl (cI, 24, .inl (BB 2))), (bA 3, .inr (4, [.ref (bH 3), .ref (bB 3), .int (nI (Bn 3)), .int (Ba 3)])), (bH 3, .inl (cI, 24, .inl (BH 3))), (bB 3, .inl (cI, 24, .inl (BB 3))), (b, .inr (4, [.ref qh, .ref qb, .int (nI (Bn 2)), .int (Ba 2)])), (qh, .inl (cI, 24, .inl (cpF (BH 2) hs (Bn 2)))), (qb, .inl (cI, 24, .inl (cpF (BB 2) bs (Bn 2))))] H := hP.sub [0, 1, 2, 3, 4, 5, 6, 7, 14, 15, 16, 8, 9, 10, 11, 12, 13] rfl
      have hD : va_D A [(h, .inr (0, [.ref qs, .int (nI 2)])), (qs, .inl (cB, 4, .inr (.inr (.inr (.inr (svF bA)))))), (bA 0, .inr (4, [.ref (bH 0), .ref (bB 0), .int (nI (Bn 0)), .int (Ba 0)])), (bH 0, .inl (cI, 24, .inl (BH 0))), (bB 0, .inl (cI, 24, .inl (BB 0))), (bA 1, .inr (4, [.ref (bH 1), .ref (bB 1), .int (nI (Bn 1)), .int (Ba 1)])), (bH 1, .inl (cI, 24, .inl (BH 1))), (bB 1, .inl (cI, 24, .inl (BB 1))), ((bA 2), .inr (4, [.ref (bH 2), .ref (bB 2), .int (nI (Bn 2)), .int (Ba 2)])), ((bH 2), .inl (cI, 24, .inl (BH 2))), ((bB 2), .inl (cI, 24, .inl (BB 2))), (bA 3, .inr (4, [.ref (bH 3), .ref (bB 3), .int (nI (Bn 3)), .int (Ba 3)])), (bH 3, .inl (cI, 24, .inl (BH 3))), (bB 3, .inl (cI, 24, .inl (BB 3))), (b, .inr (4, [.ref qh, .ref qb, .int (nI (Bn 2)), .int (Ba 2)])), (qh, .inl (cI, 24, .inl (cpF (BH 2) hs (Bn 2)))), (qb, .inl (cI, 24, .inl (cpF (BB 2) bs (Bn 2))))] := hD.sub [0, 1, 2, 3, 4, 5, 6, 7, 14, 15, 16, 8, 9, 10, 11, 12, 13] rfl rfl
      refine W.eq (g2 := F0 m 30 ls []) rfl ?_
      exact hret () _ _ _ _ (rfl) (hP) (hD) hS dX0_restore_30
  · skip
    refine lv_aload_n hx hb dX0_restore_0 rfl (lv_at hl 0 rfl) ?_
    refine pu_V (As := []) (rest := []) ⟨hx, hb, hml, hown, hts⟩ hG hP (k_X0_isEmpty l D cI cB h qs 4 bA bH bB BH BB Bn Ba (by omega)) (cwV 0 hts gX0_restore_X0_isEmpty rfl rfl rfl (by decide +kernel) ⟨(Nat.le_of_ble_eq_true rfl), (Nat.le_of_ble_eq_true rfl)⟩) [0, 1] rfl 0 rfl rfl rfl rfl hl.1 rfl (Nat.le_of_ble_eq_true rfl) dX0_restore_1 ⟨Nat.zero_le _, Nat.zero_le _⟩ ?_
    refine lv_if_ne (tgt := 30) hx hb dX0_restore_4 (by decide) (fun c_7 => ?_) (fun c_7 => ?_)
    · skip
      have c_7 : (decide (4 = 0)) = true := bI_t.mp c_7
      exact absurd (of_decide_eq_true c_7) (by decide)
    · skip
      have c_7 : (decide (4 = 0)) = false := bI_f.mp c_7
      refine lv_aload_n hx hb dX0_restore_7 rfl (lv_at hl 0 rfl) ?_
      refine lv_dup hx hb dX0_restore_8 rfl ?_
      refine va_get (D := D) (ci := 0) (v := .int (nI 4)) (C := RX0) (T := TX0) (N := 2) hx hb hts ilX0_restore_0 hown hG.1 hP 0 rfl rfl 1 (by decide) (hts (.fieldLink RX0 18 "HornEngine$History" "count" "I") (List.mem_of_getElem? (i := 1) rfl)) (fun _ h9 => h9) rfl dX0_restore_9 ?_
      refine lv_iconst (v := nI 1) hx hb dX0_restore_12 (by decide) ?_
      refine lv_isub hx hb dX0_restore_13 ?_
      refine lv_eqi (show (nI 4) - (nI 1) = nI 3 by decide) ?_
      refine va_put (D := D) (ci := 0) (v := .int (nI 3)) (ty := .int) (C := RX0) (T := TX0) (N := 2) hx hb hts ilX0_restore_0 tyX0 tyX0_ok nmX0 hown hG.1 hP hD hS 0 rfl rfl 1 (by decide) (hts (.fieldLink RX0 18 "HornEngine$History" "count" "I") (List.mem_of_getElem? (i := 1) rfl)) (fun _ h9 => h9) rfl (by decide +kernel) rfl rfl (Nat.le_of_ble_eq_true rfl) dX0_restore_14 (fun H locs hP hD hS => ?_)
      have hP : va_P D vwCl [(h, .inr (0, [.ref qs, .int (nI 3)])), (qs, .inl (cB, 4, .inr (.inr (.inr (.inr (svF bA)))))), (bA 0, .inr (4, [.ref (bH 0), .ref (bB 0), .int (nI (Bn 0)), .int (Ba 0)])), (bH 0, .inl (cI, 24, .inl (BH 0))), (bB 0, .inl (cI, 24, .inl (BB 0))), (bA 1, .inr (4, [.ref (bH 1), .ref (bB 1), .int (nI (Bn 1)), .int (Ba 1)])), (bH 1, .inl (cI, 24, .inl (BH 1))), (bB 1, .inl (cI, 24, .inl (BB 1))), (bA 2, .inr (4, [.ref (bH 2), .ref (bB 2), .int (nI (Bn 2)), .int (Ba 2)])), (bH 2, .inl (cI, 24, .inl (BH 2))), (bB 2, .inl (cI, 24, .inl (BB 2))), (bA 3, .inr (4, [.ref (bH 3), .ref (bB 3), .int (nI (Bn 3)), .int (Ba 3)])), (bH 3, .inl (cI, 24, .inl (BH 3))), (bB 3, .inl (cI, 24, .inl (BB 3))), (b, .inr (4, [.ref qh, .ref qb, .int (nI n), .int as_])), (qh, .inl (cI, 24, .inl hs)), (qb, .inl (cI, 24, .inl bs))] H := hP
      have hD : va_D A [(h, .inr (0, [.ref qs, .int (nI 3)])), (qs, .inl (cB, 4, .inr (.inr (.inr (.inr (svF bA)))))), (bA 0, .inr (4, [.ref (bH 0), .ref (bB 0), .int (nI (Bn 0)), .int (Ba 0)])), (bH 0, .inl (cI, 24, .inl (BH 0))), (bB 0, .inl (cI, 24, .inl (BB 0))), (bA 1, .inr (4, [.ref (bH 1), .ref (bB 1), .int (nI (Bn 1)), .int (Ba 1)])), (bH 1, .inl (cI, 24, .inl (BH 1))), (bB 1, .inl (cI, 24, .inl (BB 1))), (bA 2, .inr (4, [.ref (bH 2), .ref (bB 2), .int (nI (Bn 2)), .int (Ba 2)])), (bH 2, .inl (cI, 24, .inl (BH 2))), (bB 2, .inl (cI, 24, .inl (BB 2))), (bA 3, .inr (4, [.ref (bH 3), .ref (bB 3), .int (nI (Bn 3)), .int (Ba 3)])), (bH 3, .inl (cI, 24, .inl (BH 3))), (bB 3, .inl (cI, 24, .inl (BB 3))), (b, .inr (4, [.ref qh, .ref qb, .int (nI n), .int as_])), (qh, .inl (cI, 24, .inl hs)), (qb, .inl (cI, 24, .inl bs))] := hD
      refine lv_aload_n hx hb dX0_restore_17 rfl (lv_at hl 1 rfl) ?_
      refine lv_aload_n hx hb dX0_restore_18 rfl (lv_at hl 0 rfl) ?_
      refine va_get (D := D) (ci := 0) (v := .ref qs) (C := RX0) (T := TX0) (N := 2) hx hb hts ilX0_restore_0 hown hG.1 hP 0 rfl rfl 0 (by decide) (hts (.fieldLink RX0 11 "HornEngine$History" "saved" "[LHornEngine$Rulebook;") (List.mem_of_getElem? (i := 2) rfl)) (fun _ h9 => h9) rfl dX0_restore_19 ?_
      refine lv_aload_n hx hb dX0_restore_22 rfl (lv_at hl 0 rfl) ?_
      refine va_get (D := D) (ci := 0) (v := .int (nI 3)) (C := RX0) (T := TX0) (N := 2) hx hb hts ilX0_restore_0 hown hG.1 hP 0 rfl rfl 1 (by decide) (hts (.fieldLink RX0 18 "HornEngine$History" "count" "I") (List.mem_of_getElem? (i := 1) rfl)) (fun _ h9 => h9) rfl dX0_restore_23 ?_
      refine qa_ld hx hb hG hP 1 rfl 3 rfl (by omega) (by decide) rfl dX0_restore_26 ?_
      refine ef_V (As := [.ref (bA 3)]) (rest := []) (wr := [(h, .inr (0, [.ref qs, .int (nI 3)])), (qs, .inl (cB, 4, .inr (.inr (.inr (.inr (svF bA)))))), (bA 0, .inr (4, [.ref (bH 0), .ref (bB 0), .int (nI (Bn 0)), .int (Ba 0)])), (bH 0, .inl (cI, 24, .inl (BH 0))), (bB 0, .inl (cI, 24, .inl (BB 0))), (bA 1, .inr (4, [.ref (bH 1), .ref (bB 1), .int (nI (Bn 1)), .int (Ba 1)])), (bH 1, .inl (cI, 24, .inl (BH 1))), (bB 1, .inl (cI, 24, .inl (BB 1))), (bA 2, .inr (4, [.ref (bH 2), .ref (bB 2), .int (nI (Bn 2)), .int (Ba 2)])), (bH 2, .inl (cI, 24, .inl (BH 2))), (bB 2, .inl (cI, 24, .inl (BB 2)))]) ⟨hx, hb, hml, hown, hts⟩ hG hP hD hS hA (k_X4_copyFrom l D cI cB b qh qb hs bs n as_ (bA 3) (bH 3) (bB 3) (BH 3) (BB 3) (Bn 3) (Ba 3) (hB _ (by decide)) _) (cwV 1 hts gX0_restore_X4_copyFrom rfl rfl rfl (by decide +kernel) ⟨(Nat.le_of_ble_eq_true rfl), (Nat.le_of_ble_eq_true rfl)⟩) [14, 15, 16, 11, 12, 13] [0, 1, 2, 3, 4, 5, 6, 7, 8, 9, 10] rfl rfl rfl rfl (by decide) 14 rfl rfl rfl rfl hl.1 rfl (Nat.le_of_ble_eq_true rfl) dX0_restore_27 ⟨(Nat.le_of_ble_eq_true rfl), (Nat.le_of_ble_eq_true rfl)⟩ (fun v_8 u_8 H locs w_8 hP hD hS => ?_)
      have w_8 : v_8 = none := w_8
      subst w_8
      have hP : va_P D vwCl [(h, .inr (0, [.ref qs, .int (nI 3)])), (qs, .inl (cB, 4, .inr (.inr (.inr (.inr (svF bA)))))), (bA 0, .inr (4, [.ref (bH 0), .ref (bB 0), .int (nI (Bn 0)), .int (Ba 0)])), (bH 0, .inl (cI, 24, .inl (BH 0))), (bB 0, .inl (cI, 24, .inl (BB 0))), (bA 1, .inr (4, [.ref (bH 1), .ref (bB 1), .int (nI (Bn 1)), .int (Ba 1)])), (bH 1, .inl (cI, 24, .inl (BH 1))), (bB 1, .inl (cI, 24, .inl (BB 1))), (bA 2, .inr (4, [.ref (bH 2), .ref (bB 2), .int (nI (Bn 2)), .int (Ba 2)])), (bH 2, .inl (cI, 24, .inl (BH 2))), (bB 2, .inl (cI, 24, .inl (BB 2))), ((bA 3), .inr (4, [.ref (bH 3), .ref (bB 3), .int (nI (Bn 3)), .int (Ba 3)])), ((bH 3), .inl (cI, 24, .inl (BH 3))), ((bB 3), .inl (cI, 24, .inl (BB 3))), (b, .inr (4, [.ref qh, .ref qb, .int (nI (Bn 3)), .int (Ba 3)])), (qh, .inl (cI, 24, .inl (cpF (BH 3) hs (Bn 3)))), (qb, .inl (cI, 24, .inl (cpF (BB 3) bs (Bn 3))))] H := hP.sub [0, 1, 2, 3, 4, 5, 6, 7, 8, 9, 10, 14, 15, 16, 11, 12, 13] rfl
      have hD : va_D A [(h, .inr (0, [.ref qs, .int (nI 3)])), (qs, .inl (cB, 4, .inr (.inr (.inr (.inr (svF bA)))))), (bA 0, .inr (4, [.ref (bH 0), .ref (bB 0), .int (nI (Bn 0)), .int (Ba 0)])), (bH 0, .inl (cI, 24, .inl (BH 0))), (bB 0, .inl (cI, 24, .inl (BB 0))), (bA 1, .inr (4, [.ref (bH 1), .ref (bB 1), .int (nI (Bn 1)), .int (Ba 1)])), (bH 1, .inl (cI, 24, .inl (BH 1))), (bB 1, .inl (cI, 24, .inl (BB 1))), (bA 2, .inr (4, [.ref (bH 2), .ref (bB 2), .int (nI (Bn 2)), .int (Ba 2)])), (bH 2, .inl (cI, 24, .inl (BH 2))), (bB 2, .inl (cI, 24, .inl (BB 2))), ((bA 3), .inr (4, [.ref (bH 3), .ref (bB 3), .int (nI (Bn 3)), .int (Ba 3)])), ((bH 3), .inl (cI, 24, .inl (BH 3))), ((bB 3), .inl (cI, 24, .inl (BB 3))), (b, .inr (4, [.ref qh, .ref qb, .int (nI (Bn 3)), .int (Ba 3)])), (qh, .inl (cI, 24, .inl (cpF (BH 3) hs (Bn 3)))), (qb, .inl (cI, 24, .inl (cpF (BB 3) bs (Bn 3))))] := hD.sub [0, 1, 2, 3, 4, 5, 6, 7, 8, 9, 10, 14, 15, 16, 11, 12, 13] rfl rfl
      refine W.eq (g2 := F0 m 30 ls []) rfl ?_
      exact hret () _ _ _ _ (rfl) (hP) (hD) hS dX0_restore_30
end
