section
-- ===== PART A: goes FIRST, ahead of the names: the tables' words, and 'selects' of the private methods out of them =====
/-- a private method of a class that the tables say can be made, by its rows of tables_1 -/
def lw_okq (q : MethodName × Nat) : Prop := (q.1.cls ≠ "java/lang/invoke/MethodHandle" ∧ q.1.cls ≠ "java/lang/invoke/VarHandle") ∧ Cond.instantiable q.1.cls q.2 ∈ tables_1 ∧ Cond.privateMethod q.1 ∈ tables_1 ∧ Cond.instanceMethod q.1 ∈ tables_1
theorem lw_p0 : lw_okq (⟨"ClaimChains$Machine", "renewSteps", "()V"⟩, 15) := ⟨⟨by decide +kernel, by decide +kernel⟩, List.mem_of_getElem? (i := 72) (by decide +kernel), List.mem_of_getElem? (i := 79) (by decide +kernel), List.mem_of_getElem? (i := 80) (by decide +kernel)⟩
theorem lw_p1 : lw_okq (⟨"ClaimChains$Machine", "nextTable", "(I)J"⟩, 15) := ⟨⟨by decide +kernel, by decide +kernel⟩, List.mem_of_getElem? (i := 72) (by decide +kernel), List.mem_of_getElem? (i := 83) (by decide +kernel), List.mem_of_getElem? (i := 84) (by decide +kernel)⟩
theorem lw_p2 : lw_okq (⟨"ClaimChains$Terms", "has", "(I)Z"⟩, 10) := ⟨⟨by decide +kernel, by decide +kernel⟩, List.mem_of_getElem? (i := 20) (by decide +kernel), List.mem_of_getElem? (i := 87) (by decide +kernel), List.mem_of_getElem? (i := 88) (by decide +kernel)⟩
theorem lw_p3 : lw_okq (⟨"ClaimChains$Machine", "target", "(II)I"⟩, 15) := ⟨⟨by decide +kernel, by decide +kernel⟩, List.mem_of_getElem? (i := 72) (by decide +kernel), List.mem_of_getElem? (i := 93) (by decide +kernel), List.mem_of_getElem? (i := 94) (by decide +kernel)⟩
theorem lw_p4 : lw_okq (⟨"ClaimChains$Machine", "renewDistances", "()V"⟩, 15) := ⟨⟨by decide +kernel, by decide +kernel⟩, List.mem_of_getElem? (i := 72) (by decide +kernel), List.mem_of_getElem? (i := 97) (by decide +kernel), List.mem_of_getElem? (i := 98) (by decide +kernel)⟩
theorem lw_p5 : lw_okq (⟨"ClaimChains$Machine", "image", "(I)I"⟩, 15) := ⟨⟨by decide +kernel, by decide +kernel⟩, List.mem_of_getElem? (i := 72) (by decide +kernel), List.mem_of_getElem? (i := 104) (by decide +kernel), List.mem_of_getElem? (i := 105) (by decide +kernel)⟩
theorem lw_p6 : lw_okq (⟨"ClaimChains$Terms", "elderOrNew", "(IIII)I"⟩, 10) := ⟨⟨by decide +kernel, by decide +kernel⟩, List.mem_of_getElem? (i := 20) (by decide +kernel), List.mem_of_getElem? (i := 297) (by decide +kernel), List.mem_of_getElem? (i := 298) (by decide +kernel)⟩
theorem lw_p7 : lw_okq (⟨"ClaimChains$Terms", "isJust", "(IIIII)Z"⟩, 10) := ⟨⟨by decide +kernel, by decide +kernel⟩, List.mem_of_getElem? (i := 20) (by decide +kernel), List.mem_of_getElem? (i := 301) (by decide +kernel), List.mem_of_getElem? (i := 302) (by decide +kernel)⟩
theorem lw_p8 : lw_okq (⟨"ClaimChains$Terms", "fillLeaf", "(I)V"⟩, 10) := ⟨⟨by decide +kernel, by decide +kernel⟩, List.mem_of_getElem? (i := 20) (by decide +kernel), List.mem_of_getElem? (i := 305) (by decide +kernel), List.mem_of_getElem? (i := 306) (by decide +kernel)⟩
theorem lw_p9 : lw_okq (⟨"ClaimChains$Terms", "fillFromParts", "(I)V"⟩, 10) := ⟨⟨by decide +kernel, by decide +kernel⟩, List.mem_of_getElem? (i := 20) (by decide +kernel), List.mem_of_getElem? (i := 317) (by decide +kernel), List.mem_of_getElem? (i := 318) (by decide +kernel)⟩
theorem lw_p10 : lw_okq (⟨"ClaimChains$Terms", "addPart", "(II)V"⟩, 10) := ⟨⟨by decide +kernel, by decide +kernel⟩, List.mem_of_getElem? (i := 20) (by decide +kernel), List.mem_of_getElem? (i := 321) (by decide +kernel), List.mem_of_getElem? (i := 322) (by decide +kernel)⟩
theorem lw_p11 : lw_okq (⟨"ClaimChains$Terms", "tableOf", "(I)J"⟩, 10) := ⟨⟨by decide +kernel, by decide +kernel⟩, List.mem_of_getElem? (i := 20) (by decide +kernel), List.mem_of_getElem? (i := 329) (by decide +kernel), List.mem_of_getElem? (i := 330) (by decide +kernel)⟩
theorem lw_p12 : lw_okq (⟨"ClaimChains$Terms", "trueStates", "(II)I"⟩, 10) := ⟨⟨by decide +kernel, by decide +kernel⟩, List.mem_of_getElem? (i := 20) (by decide +kernel), List.mem_of_getElem? (i := 365) (by decide +kernel), List.mem_of_getElem? (i := 366) (by decide +kernel)⟩
theorem lw_p13 : lw_okq (⟨"ClaimChains$Lemmas", "forgetAll", "()V"⟩, 5) := ⟨⟨by decide +kernel, by decide +kernel⟩, List.mem_of_getElem? (i := 166) (by decide +kernel), List.mem_of_getElem? (i := 385) (by decide +kernel), List.mem_of_getElem? (i := 386) (by decide +kernel)⟩
theorem lw_p14 : lw_okq (⟨"ClaimChains$Machine", "tellStarts", "(I)I"⟩, 15) := ⟨⟨by decide +kernel, by decide +kernel⟩, List.mem_of_getElem? (i := 72) (by decide +kernel), List.mem_of_getElem? (i := 389) (by decide +kernel), List.mem_of_getElem? (i := 390) (by decide +kernel)⟩
theorem lw_p15 : lw_okq (⟨"ClaimChains$Machine", "renewWay", "()V"⟩, 15) := ⟨⟨by decide +kernel, by decide +kernel⟩, List.mem_of_getElem? (i := 72) (by decide +kernel), List.mem_of_getElem? (i := 394) (by decide +kernel), List.mem_of_getElem? (i := 395) (by decide +kernel)⟩
def lw_privs_1 : List (MethodName × Nat) := [(⟨"ClaimChains$Machine", "renewSteps", "()V"⟩, 15), (⟨"ClaimChains$Machine", "nextTable", "(I)J"⟩, 15), (⟨"ClaimChains$Terms", "has", "(I)Z"⟩, 10), (⟨"ClaimChains$Machine", "target", "(II)I"⟩, 15), (⟨"ClaimChains$Machine", "renewDistances", "()V"⟩, 15), (⟨"ClaimChains$Machine", "image", "(I)I"⟩, 15), (⟨"ClaimChains$Terms", "elderOrNew", "(IIII)I"⟩, 10), (⟨"ClaimChains$Terms", "isJust", "(IIIII)Z"⟩, 10), (⟨"ClaimChains$Terms", "fillLeaf", "(I)V"⟩, 10), (⟨"ClaimChains$Terms", "fillFromParts", "(I)V"⟩, 10), (⟨"ClaimChains$Terms", "addPart", "(II)V"⟩, 10), (⟨"ClaimChains$Terms", "tableOf", "(I)J"⟩, 10), (⟨"ClaimChains$Terms", "trueStates", "(II)I"⟩, 10), (⟨"ClaimChains$Lemmas", "forgetAll", "()V"⟩, 5), (⟨"ClaimChains$Machine", "tellStarts", "(I)I"⟩, 15), (⟨"ClaimChains$Machine", "renewWay", "()V"⟩, 15)]
theorem lw_r1 : ∀ q ∈ lw_privs_1, lw_okq q := List.forall_mem_cons.mpr ⟨lw_p0, List.forall_mem_cons.mpr ⟨lw_p1, List.forall_mem_cons.mpr ⟨lw_p2, List.forall_mem_cons.mpr ⟨lw_p3, List.forall_mem_cons.mpr ⟨lw_p4, List.forall_mem_cons.mpr ⟨lw_p5, List.forall_mem_cons.mpr ⟨lw_p6, List.forall_mem_cons.mpr ⟨lw_p7, List.forall_mem_cons.mpr ⟨lw_p8, List.forall_mem_cons.mpr ⟨lw_p9, List.forall_mem_cons.mpr ⟨lw_p10, List.forall_mem_cons.mpr ⟨lw_p11, List.forall_mem_cons.mpr ⟨lw_p12, List.forall_mem_cons.mpr ⟨lw_p13, List.forall_mem_cons.mpr ⟨lw_p14, List.forall_mem_cons.mpr ⟨lw_p15, fun _ h => absurd h List.not_mem_nil⟩⟩⟩⟩⟩⟩⟩⟩⟩⟩⟩⟩⟩⟩⟩⟩
theorem lw_p16 : lw_okq (⟨"ClaimChains$Machine", "leastBrokenDistance", "()I"⟩, 15) := ⟨⟨by decide +kernel, by decide +kernel⟩, List.mem_of_getElem? (i := 72) (by decide +kernel), List.mem_of_getElem? (i := 398) (by decide +kernel), List.mem_of_getElem? (i := 399) (by decide +kernel)⟩
theorem lw_p17 : lw_okq (⟨"ClaimChains$Machine", "sources", "(I)I"⟩, 15) := ⟨⟨by decide +kernel, by decide +kernel⟩, List.mem_of_getElem? (i := 72) (by decide +kernel), List.mem_of_getElem? (i := 402) (by decide +kernel), List.mem_of_getElem? (i := 403) (by decide +kernel)⟩
theorem lw_p18 : lw_okq (⟨"ClaimChains$Machine", "leastRowInto", "(II)I"⟩, 15) := ⟨⟨by decide +kernel, by decide +kernel⟩, List.mem_of_getElem? (i := 72) (by decide +kernel), List.mem_of_getElem? (i := 411) (by decide +kernel), List.mem_of_getElem? (i := 412) (by decide +kernel)⟩
theorem lw_p19 : lw_okq (⟨"ClaimChains$Machine", "tellNext", "(II)I"⟩, 15) := ⟨⟨by decide +kernel, by decide +kernel⟩, List.mem_of_getElem? (i := 72) (by decide +kernel), List.mem_of_getElem? (i := 419) (by decide +kernel), List.mem_of_getElem? (i := 420) (by decide +kernel)⟩
theorem lw_p20 : lw_okq (⟨"ClaimChains$Machine", "tellClaim", "(I)I"⟩, 15) := ⟨⟨by decide +kernel, by decide +kernel⟩, List.mem_of_getElem? (i := 72) (by decide +kernel), List.mem_of_getElem? (i := 427) (by decide +kernel), List.mem_of_getElem? (i := 428) (by decide +kernel)⟩
theorem lw_p21 : lw_okq (⟨"ClaimChains$Machine", "greatestDistance", "()I"⟩, 15) := ⟨⟨by decide +kernel, by decide +kernel⟩, List.mem_of_getElem? (i := 72) (by decide +kernel), List.mem_of_getElem? (i := 455) (by decide +kernel), List.mem_of_getElem? (i := 456) (by decide +kernel)⟩
theorem lw_p22 : lw_okq (⟨"ClaimChains$Machine", "looseInStart", "()I"⟩, 15) := ⟨⟨by decide +kernel, by decide +kernel⟩, List.mem_of_getElem? (i := 72) (by decide +kernel), List.mem_of_getElem? (i := 467) (by decide +kernel), List.mem_of_getElem? (i := 468) (by decide +kernel)⟩
theorem lw_p23 : lw_okq (⟨"ClaimChains$Machine", "endsBroken", "(III)Z"⟩, 15) := ⟨⟨by decide +kernel, by decide +kernel⟩, List.mem_of_getElem? (i := 72) (by decide +kernel), List.mem_of_getElem? (i := 471) (by decide +kernel), List.mem_of_getElem? (i := 472) (by decide +kernel)⟩
theorem lw_p24 : lw_okq (⟨"ClaimChains$Machine", "looseInRow", "(I)I"⟩, 15) := ⟨⟨by decide +kernel, by decide +kernel⟩, List.mem_of_getElem? (i := 72) (by decide +kernel), List.mem_of_getElem? (i := 475) (by decide +kernel), List.mem_of_getElem? (i := 476) (by decide +kernel)⟩
theorem lw_p25 : lw_okq (⟨"ClaimChains$Machine", "coneVariables", "()I"⟩, 15) := ⟨⟨by decide +kernel, by decide +kernel⟩, List.mem_of_getElem? (i := 72) (by decide +kernel), List.mem_of_getElem? (i := 483) (by decide +kernel), List.mem_of_getElem? (i := 484) (by decide +kernel)⟩
theorem lw_p26 : lw_okq (⟨"ClaimChains$Machine", "inputsOf", "(I)I"⟩, 15) := ⟨⟨by decide +kernel, by decide +kernel⟩, List.mem_of_getElem? (i := 72) (by decide +kernel), List.mem_of_getElem? (i := 487) (by decide +kernel), List.mem_of_getElem? (i := 488) (by decide +kernel)⟩
theorem lw_p27 : lw_okq (⟨"ClaimChains$Machine", "isClear", "(I)Z"⟩, 15) := ⟨⟨by decide +kernel, by decide +kernel⟩, List.mem_of_getElem? (i := 72) (by decide +kernel), List.mem_of_getElem? (i := 495) (by decide +kernel), List.mem_of_getElem? (i := 496) (by decide +kernel)⟩
theorem lw_p28 : lw_okq (⟨"ClaimChains$Chains", "find", "(I)Z"⟩, 10) := ⟨⟨by decide +kernel, by decide +kernel⟩, List.mem_of_getElem? (i := 192) (by decide +kernel), List.mem_of_getElem? (i := 503) (by decide +kernel), List.mem_of_getElem? (i := 504) (by decide +kernel)⟩
theorem lw_p29 : lw_okq (⟨"ClaimChains$Chains", "isKept", "(I)Z"⟩, 10) := ⟨⟨by decide +kernel, by decide +kernel⟩, List.mem_of_getElem? (i := 192) (by decide +kernel), List.mem_of_getElem? (i := 507) (by decide +kernel), List.mem_of_getElem? (i := 508) (by decide +kernel)⟩
theorem lw_p30 : lw_okq (⟨"ClaimChains$Lemmas", "goodStates", "()I"⟩, 5) := ⟨⟨by decide +kernel, by decide +kernel⟩, List.mem_of_getElem? (i := 166) (by decide +kernel), List.mem_of_getElem? (i := 511) (by decide +kernel), List.mem_of_getElem? (i := 512) (by decide +kernel)⟩
theorem lw_p31 : lw_okq (⟨"ClaimChains$Lemmas", "threats", "()I"⟩, 5) := ⟨⟨by decide +kernel, by decide +kernel⟩, List.mem_of_getElem? (i := 166) (by decide +kernel), List.mem_of_getElem? (i := 515) (by decide +kernel), List.mem_of_getElem? (i := 516) (by decide +kernel)⟩
def lw_privs_2 : List (MethodName × Nat) := [(⟨"ClaimChains$Machine", "leastBrokenDistance", "()I"⟩, 15), (⟨"ClaimChains$Machine", "sources", "(I)I"⟩, 15), (⟨"ClaimChains$Machine", "leastRowInto", "(II)I"⟩, 15), (⟨"ClaimChains$Machine", "tellNext", "(II)I"⟩, 15), (⟨"ClaimChains$Machine", "tellClaim", "(I)I"⟩, 15), (⟨"ClaimChains$Machine", "greatestDistance", "()I"⟩, 15), (⟨"ClaimChains$Machine", "looseInStart", "()I"⟩, 15), (⟨"ClaimChains$Machine", "endsBroken", "(III)Z"⟩, 15), (⟨"ClaimChains$Machine", "looseInRow", "(I)I"⟩, 15), (⟨"ClaimChains$Machine", "coneVariables", "()I"⟩, 15), (⟨"ClaimChains$Machine", "inputsOf", "(I)I"⟩, 15), (⟨"ClaimChains$Machine", "isClear", "(I)Z"⟩, 15), (⟨"ClaimChains$Chains", "find", "(I)Z"⟩, 10), (⟨"ClaimChains$Chains", "isKept", "(I)Z"⟩, 10), (⟨"ClaimChains$Lemmas", "goodStates", "()I"⟩, 5), (⟨"ClaimChains$Lemmas", "threats", "()I"⟩, 5)]
theorem lw_r2 : ∀ q ∈ lw_privs_2, lw_okq q := List.forall_mem_cons.mpr ⟨lw_p16, List.forall_mem_cons.mpr ⟨lw_p17, List.forall_mem_cons.mpr ⟨lw_p18, List.forall_mem_cons.mpr ⟨lw_p19, List.forall_mem_cons.mpr ⟨lw_p20, List.forall_mem_cons.mpr ⟨lw_p21, List.forall_mem_cons.mpr ⟨lw_p22, List.forall_mem_cons.mpr ⟨lw_p23, List.forall_mem_cons.mpr ⟨lw_p24, List.forall_mem_cons.mpr ⟨lw_p25, List.forall_mem_cons.mpr ⟨lw_p26, List.forall_mem_cons.mpr ⟨lw_p27, List.forall_mem_cons.mpr ⟨lw_p28, List.forall_mem_cons.mpr ⟨lw_p29, List.forall_mem_cons.mpr ⟨lw_p30, List.forall_mem_cons.mpr ⟨lw_p31, fun _ h => absurd h List.not_mem_nil⟩⟩⟩⟩⟩⟩⟩⟩⟩⟩⟩⟩⟩⟩⟩⟩
theorem lw_p32 : lw_okq (⟨"ClaimChains$Chains", "search", "(I)Z"⟩, 10) := ⟨⟨by decide +kernel, by decide +kernel⟩, List.mem_of_getElem? (i := 192) (by decide +kernel), List.mem_of_getElem? (i := 519) (by decide +kernel), List.mem_of_getElem? (i := 520) (by decide +kernel)⟩
theorem lw_p33 : lw_okq (⟨"ClaimChains$Chains", "extend", "(IIII)Z"⟩, 10) := ⟨⟨by decide +kernel, by decide +kernel⟩, List.mem_of_getElem? (i := 192) (by decide +kernel), List.mem_of_getElem? (i := 525) (by decide +kernel), List.mem_of_getElem? (i := 526) (by decide +kernel)⟩
theorem lw_p34 : lw_okq (⟨"ClaimChains$Lemmas", "weakStates", "()I"⟩, 5) := ⟨⟨by decide +kernel, by decide +kernel⟩, List.mem_of_getElem? (i := 166) (by decide +kernel), List.mem_of_getElem? (i := 543) (by decide +kernel), List.mem_of_getElem? (i := 544) (by decide +kernel)⟩
theorem lw_p35 : lw_okq (⟨"ClaimChains$Lemmas", "addByStrengthening", "()I"⟩, 5) := ⟨⟨by decide +kernel, by decide +kernel⟩, List.mem_of_getElem? (i := 166) (by decide +kernel), List.mem_of_getElem? (i := 555) (by decide +kernel), List.mem_of_getElem? (i := 556) (by decide +kernel)⟩
theorem lw_p36 : lw_okq (⟨"ClaimChains$Lemmas", "leastThatCanGo", "(I)I"⟩, 5) := ⟨⟨by decide +kernel, by decide +kernel⟩, List.mem_of_getElem? (i := 166) (by decide +kernel), List.mem_of_getElem? (i := 560) (by decide +kernel), List.mem_of_getElem? (i := 561) (by decide +kernel)⟩
theorem lw_p37 : lw_okq (⟨"ClaimChains$Lemmas", "fits", "(I)Z"⟩, 5) := ⟨⟨by decide +kernel, by decide +kernel⟩, List.mem_of_getElem? (i := 166) (by decide +kernel), List.mem_of_getElem? (i := 565) (by decide +kernel), List.mem_of_getElem? (i := 566) (by decide +kernel)⟩
theorem lw_p38 : lw_okq (⟨"ClaimChains$Lemmas", "widestNames", "(I)I"⟩, 5) := ⟨⟨by decide +kernel, by decide +kernel⟩, List.mem_of_getElem? (i := 166) (by decide +kernel), List.mem_of_getElem? (i := 570) (by decide +kernel), List.mem_of_getElem? (i := 571) (by decide +kernel)⟩
theorem lw_p39 : lw_okq (⟨"ClaimChains$Lemmas", "add", "(II)I"⟩, 5) := ⟨⟨by decide +kernel, by decide +kernel⟩, List.mem_of_getElem? (i := 166) (by decide +kernel), List.mem_of_getElem? (i := 577) (by decide +kernel), List.mem_of_getElem? (i := 578) (by decide +kernel)⟩
theorem lw_p40 : lw_okq (⟨"ClaimChains$Lemmas", "addIfFitting", "(I)I"⟩, 5) := ⟨⟨by decide +kernel, by decide +kernel⟩, List.mem_of_getElem? (i := 166) (by decide +kernel), List.mem_of_getElem? (i := 585) (by decide +kernel), List.mem_of_getElem? (i := 586) (by decide +kernel)⟩
theorem lw_p41 : lw_okq (⟨"ClaimChains$Box", "hasRow", "()Z"⟩, 3) := ⟨⟨by decide +kernel, by decide +kernel⟩, List.mem_of_getElem? (i := 248) (by decide +kernel), List.mem_of_getElem? (i := 596) (by decide +kernel), List.mem_of_getElem? (i := 597) (by decide +kernel)⟩
theorem lw_p42 : lw_okq (⟨"ClaimChains", "faulted", "(I)I"⟩, 8) := ⟨⟨by decide +kernel, by decide +kernel⟩, List.mem_of_getElem? (i := 12) (by decide +kernel), List.mem_of_getElem? (i := 600) (by decide +kernel), List.mem_of_getElem? (i := 601) (by decide +kernel)⟩
theorem lw_p43 : lw_okq (⟨"ClaimChains$Lemmas", "removeLast", "()I"⟩, 5) := ⟨⟨by decide +kernel, by decide +kernel⟩, List.mem_of_getElem? (i := 166) (by decide +kernel), List.mem_of_getElem? (i := 609) (by decide +kernel), List.mem_of_getElem? (i := 610) (by decide +kernel)⟩
theorem lw_p44 : lw_okq (⟨"ClaimChains$Walks", "countSafe", "(I)I"⟩, 3) := ⟨⟨by decide +kernel, by decide +kernel⟩, List.mem_of_getElem? (i := 231) (by decide +kernel), List.mem_of_getElem? (i := 625) (by decide +kernel), List.mem_of_getElem? (i := 626) (by decide +kernel)⟩
theorem lw_p45 : lw_okq (⟨"ClaimChains$Walks", "lengthen", "()V"⟩, 3) := ⟨⟨by decide +kernel, by decide +kernel⟩, List.mem_of_getElem? (i := 231) (by decide +kernel), List.mem_of_getElem? (i := 631) (by decide +kernel), List.mem_of_getElem? (i := 632) (by decide +kernel)⟩
theorem lw_p46 : lw_okq (⟨"ClaimChains$Machine", "sumOfDistances", "()I"⟩, 15) := ⟨⟨by decide +kernel, by decide +kernel⟩, List.mem_of_getElem? (i := 72) (by decide +kernel), List.mem_of_getElem? (i := 644) (by decide +kernel), List.mem_of_getElem? (i := 645) (by decide +kernel)⟩
theorem lw_p47 : lw_okq (⟨"ClaimChains$Box", "getNewRow", "(II)V"⟩, 3) := ⟨⟨by decide +kernel, by decide +kernel⟩, List.mem_of_getElem? (i := 248) (by decide +kernel), List.mem_of_getElem? (i := 652) (by decide +kernel), List.mem_of_getElem? (i := 653) (by decide +kernel)⟩
def lw_privs_3 : List (MethodName × Nat) := [(⟨"ClaimChains$Chains", "search", "(I)Z"⟩, 10), (⟨"ClaimChains$Chains", "extend", "(IIII)Z"⟩, 10), (⟨"ClaimChains$Lemmas", "weakStates", "()I"⟩, 5), (⟨"ClaimChains$Lemmas", "addByStrengthening", "()I"⟩, 5), (⟨"ClaimChains$Lemmas", "leastThatCanGo", "(I)I"⟩, 5), (⟨"ClaimChains$Lemmas", "fits", "(I)Z"⟩, 5), (⟨"ClaimChains$Lemmas", "widestNames", "(I)I"⟩, 5), (⟨"ClaimChains$Lemmas", "add", "(II)I"⟩, 5), (⟨"ClaimChains$Lemmas", "addIfFitting", "(I)I"⟩, 5), (⟨"ClaimChains$Box", "hasRow", "()Z"⟩, 3), (⟨"ClaimChains", "faulted", "(I)I"⟩, 8), (⟨"ClaimChains$Lemmas", "removeLast", "()I"⟩, 5), (⟨"ClaimChains$Walks", "countSafe", "(I)I"⟩, 3), (⟨"ClaimChains$Walks", "lengthen", "()V"⟩, 3), (⟨"ClaimChains$Machine", "sumOfDistances", "()I"⟩, 15), (⟨"ClaimChains$Box", "getNewRow", "(II)V"⟩, 3)]
theorem lw_r3 : ∀ q ∈ lw_privs_3, lw_okq q := List.forall_mem_cons.mpr ⟨lw_p32, List.forall_mem_cons.mpr ⟨lw_p33, List.forall_mem_cons.mpr ⟨lw_p34, List.forall_mem_cons.mpr ⟨lw_p35, List.forall_mem_cons.mpr ⟨lw_p36, List.forall_mem_cons.mpr ⟨lw_p37, List.forall_mem_cons.mpr ⟨lw_p38, List.forall_mem_cons.mpr ⟨lw_p39, List.forall_mem_cons.mpr ⟨lw_p40, List.forall_mem_cons.mpr ⟨lw_p41, List.forall_mem_cons.mpr ⟨lw_p42, List.forall_mem_cons.mpr ⟨lw_p43, List.forall_mem_cons.mpr ⟨lw_p44, List.forall_mem_cons.mpr ⟨lw_p45, List.forall_mem_cons.mpr ⟨lw_p46, List.forall_mem_cons.mpr ⟨lw_p47, fun _ h => absurd h List.not_mem_nil⟩⟩⟩⟩⟩⟩⟩⟩⟩⟩⟩⟩⟩⟩⟩⟩
theorem lw_p48 : lw_okq (⟨"ClaimChains$Box", "hasPlace", "(I)Z"⟩, 3) := ⟨⟨by decide +kernel, by decide +kernel⟩, List.mem_of_getElem? (i := 248) (by decide +kernel), List.mem_of_getElem? (i := 660) (by decide +kernel), List.mem_of_getElem? (i := 661) (by decide +kernel)⟩
theorem lw_p49 : lw_okq (⟨"ClaimChains$Box", "admits", "(I)Z"⟩, 3) := ⟨⟨by decide +kernel, by decide +kernel⟩, List.mem_of_getElem? (i := 248) (by decide +kernel), List.mem_of_getElem? (i := 664) (by decide +kernel), List.mem_of_getElem? (i := 665) (by decide +kernel)⟩
theorem lw_p50 : lw_okq (⟨"ClaimChains$Box", "becomeLike", "(LClaimChains$Box;)V"⟩, 3) := ⟨⟨by decide +kernel, by decide +kernel⟩, List.mem_of_getElem? (i := 248) (by decide +kernel), List.mem_of_getElem? (i := 676) (by decide +kernel), List.mem_of_getElem? (i := 677) (by decide +kernel)⟩
theorem lw_p51 : lw_okq (⟨"ClaimChains$Box", "hasRange", "(II)Z"⟩, 3) := ⟨⟨by decide +kernel, by decide +kernel⟩, List.mem_of_getElem? (i := 248) (by decide +kernel), List.mem_of_getElem? (i := 684) (by decide +kernel), List.mem_of_getElem? (i := 685) (by decide +kernel)⟩
theorem lw_p52 : lw_okq (⟨"ClaimChains$Box", "loseRow", "()V"⟩, 3) := ⟨⟨by decide +kernel, by decide +kernel⟩, List.mem_of_getElem? (i := 248) (by decide +kernel), List.mem_of_getElem? (i := 696) (by decide +kernel), List.mem_of_getElem? (i := 697) (by decide +kernel)⟩
theorem lw_p53 : lw_okq (⟨"ClaimChains", "countFilledBoxes", "()I"⟩, 8) := ⟨⟨by decide +kernel, by decide +kernel⟩, List.mem_of_getElem? (i := 12) (by decide +kernel), List.mem_of_getElem? (i := 708) (by decide +kernel), List.mem_of_getElem? (i := 709) (by decide +kernel)⟩
theorem lw_p54 : lw_okq (⟨"ClaimChainsModel", "comes", "(IIII)I"⟩, 30) := ⟨⟨by decide +kernel, by decide +kernel⟩, List.mem_of_getElem? (i := 712) (by decide +kernel), List.mem_of_getElem? (i := 816) (by decide +kernel), List.mem_of_getElem? (i := 817) (by decide +kernel)⟩
theorem lw_p55 : lw_okq (⟨"ClaimChainsModel", "find", "(IIII)I"⟩, 30) := ⟨⟨by decide +kernel, by decide +kernel⟩, List.mem_of_getElem? (i := 712) (by decide +kernel), List.mem_of_getElem? (i := 820) (by decide +kernel), List.mem_of_getElem? (i := 821) (by decide +kernel)⟩
theorem lw_p56 : lw_okq (⟨"ClaimChainsModel", "takes", "(II)V"⟩, 30) := ⟨⟨by decide +kernel, by decide +kernel⟩, List.mem_of_getElem? (i := 712) (by decide +kernel), List.mem_of_getElem? (i := 824) (by decide +kernel), List.mem_of_getElem? (i := 825) (by decide +kernel)⟩
theorem lw_p57 : lw_okq (⟨"ClaimChainsModel", "evaluated", "(III)I"⟩, 30) := ⟨⟨by decide +kernel, by decide +kernel⟩, List.mem_of_getElem? (i := 712) (by decide +kernel), List.mem_of_getElem? (i := 828) (by decide +kernel), List.mem_of_getElem? (i := 829) (by decide +kernel)⟩
theorem lw_p58 : lw_okq (⟨"ClaimChainsModel", "valueIn", "(III)I"⟩, 30) := ⟨⟨by decide +kernel, by decide +kernel⟩, List.mem_of_getElem? (i := 712) (by decide +kernel), List.mem_of_getElem? (i := 832) (by decide +kernel), List.mem_of_getElem? (i := 833) (by decide +kernel)⟩
theorem lw_p59 : lw_okq (⟨"ClaimChainsModel", "isTerm", "(I)Z"⟩, 30) := ⟨⟨by decide +kernel, by decide +kernel⟩, List.mem_of_getElem? (i := 712) (by decide +kernel), List.mem_of_getElem? (i := 843) (by decide +kernel), List.mem_of_getElem? (i := 844) (by decide +kernel)⟩
theorem lw_p60 : lw_okq (⟨"ClaimChainsModel", "holdsOf", "(II)I"⟩, 30) := ⟨⟨by decide +kernel, by decide +kernel⟩, List.mem_of_getElem? (i := 712) (by decide +kernel), List.mem_of_getElem? (i := 874) (by decide +kernel), List.mem_of_getElem? (i := 875) (by decide +kernel)⟩
theorem lw_p61 : lw_okq (⟨"ClaimChainsModel", "againstStates", "(I)I"⟩, 30) := ⟨⟨by decide +kernel, by decide +kernel⟩, List.mem_of_getElem? (i := 712) (by decide +kernel), List.mem_of_getElem? (i := 886) (by decide +kernel), List.mem_of_getElem? (i := 887) (by decide +kernel)⟩
theorem lw_p62 : lw_okq (⟨"ClaimChainsModel", "stepOf", "(II)I"⟩, 30) := ⟨⟨by decide +kernel, by decide +kernel⟩, List.mem_of_getElem? (i := 712) (by decide +kernel), List.mem_of_getElem? (i := 902) (by decide +kernel), List.mem_of_getElem? (i := 903) (by decide +kernel)⟩
theorem lw_p63 : lw_okq (⟨"ClaimChainsModel", "beforeOf", "(I)I"⟩, 30) := ⟨⟨by decide +kernel, by decide +kernel⟩, List.mem_of_getElem? (i := 712) (by decide +kernel), List.mem_of_getElem? (i := 910) (by decide +kernel), List.mem_of_getElem? (i := 911) (by decide +kernel)⟩
def lw_privs_4 : List (MethodName × Nat) := [(⟨"ClaimChains$Box", "hasPlace", "(I)Z"⟩, 3), (⟨"ClaimChains$Box", "admits", "(I)Z"⟩, 3), (⟨"ClaimChains$Box", "becomeLike", "(LClaimChains$Box;)V"⟩, 3), (⟨"ClaimChains$Box", "hasRange", "(II)Z"⟩, 3), (⟨"ClaimChains$Box", "loseRow", "()V"⟩, 3), (⟨"ClaimChains", "countFilledBoxes", "()I"⟩, 8), (⟨"ClaimChainsModel", "comes", "(IIII)I"⟩, 30), (⟨"ClaimChainsModel", "find", "(IIII)I"⟩, 30), (⟨"ClaimChainsModel", "takes", "(II)V"⟩, 30), (⟨"ClaimChainsModel", "evaluated", "(III)I"⟩, 30), (⟨"ClaimChainsModel", "valueIn", "(III)I"⟩, 30), (⟨"ClaimChainsModel", "isTerm", "(I)Z"⟩, 30), (⟨"ClaimChainsModel", "holdsOf", "(II)I"⟩, 30), (⟨"ClaimChainsModel", "againstStates", "(I)I"⟩, 30), (⟨"ClaimChainsModel", "stepOf", "(II)I"⟩, 30), (⟨"ClaimChainsModel", "beforeOf", "(I)I"⟩, 30)]
theorem lw_r4 : ∀ q ∈ lw_privs_4, lw_okq q := List.forall_mem_cons.mpr ⟨lw_p48, List.forall_mem_cons.mpr ⟨lw_p49, List.forall_mem_cons.mpr ⟨lw_p50, List.forall_mem_cons.mpr ⟨lw_p51, List.forall_mem_cons.mpr ⟨lw_p52, List.forall_mem_cons.mpr ⟨lw_p53, List.forall_mem_cons.mpr ⟨lw_p54, List.forall_mem_cons.mpr ⟨lw_p55, List.forall_mem_cons.mpr ⟨lw_p56, List.forall_mem_cons.mpr ⟨lw_p57, List.forall_mem_cons.mpr ⟨lw_p58, List.forall_mem_cons.mpr ⟨lw_p59, List.forall_mem_cons.mpr ⟨lw_p60, List.forall_mem_cons.mpr ⟨lw_p61, List.forall_mem_cons.mpr ⟨lw_p62, List.forall_mem_cons.mpr ⟨lw_p63, fun _ h => absurd h List.not_mem_nil⟩⟩⟩⟩⟩⟩⟩⟩⟩⟩⟩⟩⟩⟩⟩⟩
theorem lw_p64 : lw_okq (⟨"ClaimChainsModel", "findFar", "()V"⟩, 30) := ⟨⟨by decide +kernel, by decide +kernel⟩, List.mem_of_getElem? (i := 712) (by decide +kernel), List.mem_of_getElem? (i := 918) (by decide +kernel), List.mem_of_getElem? (i := 919) (by decide +kernel)⟩
theorem lw_p65 : lw_okq (⟨"ClaimChainsModel", "startSet", "()I"⟩, 30) := ⟨⟨by decide +kernel, by decide +kernel⟩, List.mem_of_getElem? (i := 712) (by decide +kernel), List.mem_of_getElem? (i := 922) (by decide +kernel), List.mem_of_getElem? (i := 923) (by decide +kernel)⟩
theorem lw_p66 : lw_okq (⟨"ClaimChainsModel", "metSet", "()I"⟩, 30) := ⟨⟨by decide +kernel, by decide +kernel⟩, List.mem_of_getElem? (i := 712) (by decide +kernel), List.mem_of_getElem? (i := 931) (by decide +kernel), List.mem_of_getElem? (i := 932) (by decide +kernel)⟩
theorem lw_p67 : lw_okq (⟨"ClaimChainsModel", "greatestFar", "()I"⟩, 30) := ⟨⟨by decide +kernel, by decide +kernel⟩, List.mem_of_getElem? (i := 712) (by decide +kernel), List.mem_of_getElem? (i := 938) (by decide +kernel), List.mem_of_getElem? (i := 939) (by decide +kernel)⟩
theorem lw_p68 : lw_okq (⟨"ClaimChainsModel", "wayLong", "()I"⟩, 30) := ⟨⟨by decide +kernel, by decide +kernel⟩, List.mem_of_getElem? (i := 712) (by decide +kernel), List.mem_of_getElem? (i := 942) (by decide +kernel), List.mem_of_getElem? (i := 943) (by decide +kernel)⟩
theorem lw_p69 : lw_okq (⟨"ClaimChainsModel", "brokenSet", "()I"⟩, 30) := ⟨⟨by decide +kernel, by decide +kernel⟩, List.mem_of_getElem? (i := 712) (by decide +kernel), List.mem_of_getElem? (i := 946) (by decide +kernel), List.mem_of_getElem? (i := 947) (by decide +kernel)⟩
theorem lw_p70 : lw_okq (⟨"ClaimChainsModel", "findWay", "()V"⟩, 30) := ⟨⟨by decide +kernel, by decide +kernel⟩, List.mem_of_getElem? (i := 712) (by decide +kernel), List.mem_of_getElem? (i := 954) (by decide +kernel), List.mem_of_getElem? (i := 955) (by decide +kernel)⟩
theorem lw_p71 : lw_okq (⟨"ClaimChainsModel", "cameFrom", "(I)I"⟩, 30) := ⟨⟨by decide +kernel, by decide +kernel⟩, List.mem_of_getElem? (i := 712) (by decide +kernel), List.mem_of_getElem? (i := 958) (by decide +kernel), List.mem_of_getElem? (i := 959) (by decide +kernel)⟩
theorem lw_p72 : lw_okq (⟨"ClaimChainsModel", "isStillBroken", "(III)Z"⟩, 30) := ⟨⟨by decide +kernel, by decide +kernel⟩, List.mem_of_getElem? (i := 712) (by decide +kernel), List.mem_of_getElem? (i := 966) (by decide +kernel), List.mem_of_getElem? (i := 967) (by decide +kernel)⟩
theorem lw_p73 : lw_okq (⟨"ClaimChainsModel", "isClear", "(I)Z"⟩, 30) := ⟨⟨by decide +kernel, by decide +kernel⟩, List.mem_of_getElem? (i := 712) (by decide +kernel), List.mem_of_getElem? (i := 978) (by decide +kernel), List.mem_of_getElem? (i := 979) (by decide +kernel)⟩
theorem lw_p74 : lw_okq (⟨"ClaimChainsModel", "findChain", "(I)Z"⟩, 30) := ⟨⟨by decide +kernel, by decide +kernel⟩, List.mem_of_getElem? (i := 712) (by decide +kernel), List.mem_of_getElem? (i := 986) (by decide +kernel), List.mem_of_getElem? (i := 987) (by decide +kernel)⟩
theorem lw_p75 : lw_okq (⟨"ClaimChainsModel", "goodSet", "()I"⟩, 30) := ⟨⟨by decide +kernel, by decide +kernel⟩, List.mem_of_getElem? (i := 712) (by decide +kernel), List.mem_of_getElem? (i := 990) (by decide +kernel), List.mem_of_getElem? (i := 991) (by decide +kernel)⟩
theorem lw_p76 : lw_okq (⟨"ClaimChainsModel", "inAll", "()I"⟩, 30) := ⟨⟨by decide +kernel, by decide +kernel⟩, List.mem_of_getElem? (i := 712) (by decide +kernel), List.mem_of_getElem? (i := 994) (by decide +kernel), List.mem_of_getElem? (i := 995) (by decide +kernel)⟩
theorem lw_p77 : lw_okq (⟨"ClaimChainsModel", "lastSet", "()I"⟩, 30) := ⟨⟨by decide +kernel, by decide +kernel⟩, List.mem_of_getElem? (i := 712) (by decide +kernel), List.mem_of_getElem? (i := 998) (by decide +kernel), List.mem_of_getElem? (i := 999) (by decide +kernel)⟩
theorem lw_p78 : lw_okq (⟨"ClaimChainsModel", "extend", "(I)Z"⟩, 30) := ⟨⟨by decide +kernel, by decide +kernel⟩, List.mem_of_getElem? (i := 712) (by decide +kernel), List.mem_of_getElem? (i := 1002) (by decide +kernel), List.mem_of_getElem? (i := 1003) (by decide +kernel)⟩
theorem lw_p79 : lw_okq (⟨"ClaimChainsModel", "nextRow", "(II)I"⟩, 30) := ⟨⟨by decide +kernel, by decide +kernel⟩, List.mem_of_getElem? (i := 712) (by decide +kernel), List.mem_of_getElem? (i := 1006) (by decide +kernel), List.mem_of_getElem? (i := 1007) (by decide +kernel)⟩
def lw_privs_5 : List (MethodName × Nat) := [(⟨"ClaimChainsModel", "findFar", "()V"⟩, 30), (⟨"ClaimChainsModel", "startSet", "()I"⟩, 30), (⟨"ClaimChainsModel", "metSet", "()I"⟩, 30), (⟨"ClaimChainsModel", "greatestFar", "()I"⟩, 30), (⟨"ClaimChainsModel", "wayLong", "()I"⟩, 30), (⟨"ClaimChainsModel", "brokenSet", "()I"⟩, 30), (⟨"ClaimChainsModel", "findWay", "()V"⟩, 30), (⟨"ClaimChainsModel", "cameFrom", "(I)I"⟩, 30), (⟨"ClaimChainsModel", "isStillBroken", "(III)Z"⟩, 30), (⟨"ClaimChainsModel", "isClear", "(I)Z"⟩, 30), (⟨"ClaimChainsModel", "findChain", "(I)Z"⟩, 30), (⟨"ClaimChainsModel", "goodSet", "()I"⟩, 30), (⟨"ClaimChainsModel", "inAll", "()I"⟩, 30), (⟨"ClaimChainsModel", "lastSet", "()I"⟩, 30), (⟨"ClaimChainsModel", "extend", "(I)Z"⟩, 30), (⟨"ClaimChainsModel", "nextRow", "(II)I"⟩, 30)]
theorem lw_r5 : ∀ q ∈ lw_privs_5, lw_okq q := List.forall_mem_cons.mpr ⟨lw_p64, List.forall_mem_cons.mpr ⟨lw_p65, List.forall_mem_cons.mpr ⟨lw_p66, List.forall_mem_cons.mpr ⟨lw_p67, List.forall_mem_cons.mpr ⟨lw_p68, List.forall_mem_cons.mpr ⟨lw_p69, List.forall_mem_cons.mpr ⟨lw_p70, List.forall_mem_cons.mpr ⟨lw_p71, List.forall_mem_cons.mpr ⟨lw_p72, List.forall_mem_cons.mpr ⟨lw_p73, List.forall_mem_cons.mpr ⟨lw_p74, List.forall_mem_cons.mpr ⟨lw_p75, List.forall_mem_cons.mpr ⟨lw_p76, List.forall_mem_cons.mpr ⟨lw_p77, List.forall_mem_cons.mpr ⟨lw_p78, List.forall_mem_cons.mpr ⟨lw_p79, fun _ h => absurd h List.not_mem_nil⟩⟩⟩⟩⟩⟩⟩⟩⟩⟩⟩⟩⟩⟩⟩⟩
theorem lw_p80 : lw_okq (⟨"ClaimChainsModel", "isNew", "(II)Z"⟩, 30) := ⟨⟨by decide +kernel, by decide +kernel⟩, List.mem_of_getElem? (i := 712) (by decide +kernel), List.mem_of_getElem? (i := 1010) (by decide +kernel), List.mem_of_getElem? (i := 1011) (by decide +kernel)⟩
theorem lw_p81 : lw_okq (⟨"ClaimChainsModel", "weakSet", "()I"⟩, 30) := ⟨⟨by decide +kernel, by decide +kernel⟩, List.mem_of_getElem? (i := 712) (by decide +kernel), List.mem_of_getElem? (i := 1026) (by decide +kernel), List.mem_of_getElem? (i := 1027) (by decide +kernel)⟩
theorem lw_p82 : lw_okq (⟨"ClaimChainsModel", "firstWeak", "(I)I"⟩, 30) := ⟨⟨by decide +kernel, by decide +kernel⟩, List.mem_of_getElem? (i := 712) (by decide +kernel), List.mem_of_getElem? (i := 1034) (by decide +kernel), List.mem_of_getElem? (i := 1035) (by decide +kernel)⟩
theorem lw_p83 : lw_okq (⟨"ClaimChainsModel", "isFit", "(I)Z"⟩, 30) := ⟨⟨by decide +kernel, by decide +kernel⟩, List.mem_of_getElem? (i := 712) (by decide +kernel), List.mem_of_getElem? (i := 1038) (by decide +kernel), List.mem_of_getElem? (i := 1039) (by decide +kernel)⟩
theorem lw_p84 : lw_okq (⟨"ClaimChainsModel", "notes", "(II)I"⟩, 30) := ⟨⟨by decide +kernel, by decide +kernel⟩, List.mem_of_getElem? (i := 712) (by decide +kernel), List.mem_of_getElem? (i := 1045) (by decide +kernel), List.mem_of_getElem? (i := 1046) (by decide +kernel)⟩
theorem lw_p85 : lw_okq (⟨"ClaimChainsModel", "lemmaBy", "(I)I"⟩, 30) := ⟨⟨by decide +kernel, by decide +kernel⟩, List.mem_of_getElem? (i := 712) (by decide +kernel), List.mem_of_getElem? (i := 1053) (by decide +kernel), List.mem_of_getElem? (i := 1054) (by decide +kernel)⟩
theorem lw_p86 : lw_okq (⟨"ClaimChainsModel", "fails", "(I)I"⟩, 30) := ⟨⟨by decide +kernel, by decide +kernel⟩, List.mem_of_getElem? (i := 712) (by decide +kernel), List.mem_of_getElem? (i := 1064) (by decide +kernel), List.mem_of_getElem? (i := 1065) (by decide +kernel)⟩
theorem lw_p87 : lw_okq (⟨"ClaimChainsModel", "goesTo", "(II)Z"⟩, 30) := ⟨⟨by decide +kernel, by decide +kernel⟩, List.mem_of_getElem? (i := 712) (by decide +kernel), List.mem_of_getElem? (i := 1100) (by decide +kernel), List.mem_of_getElem? (i := 1101) (by decide +kernel)⟩
theorem lw_p88 : lw_okq (⟨"ClaimChainsModel", "manyBoxes", "()I"⟩, 30) := ⟨⟨by decide +kernel, by decide +kernel⟩, List.mem_of_getElem? (i := 712) (by decide +kernel), List.mem_of_getElem? (i := 1132) (by decide +kernel), List.mem_of_getElem? (i := 1133) (by decide +kernel)⟩
def lw_privs_6 : List (MethodName × Nat) := [(⟨"ClaimChainsModel", "isNew", "(II)Z"⟩, 30), (⟨"ClaimChainsModel", "weakSet", "()I"⟩, 30), (⟨"ClaimChainsModel", "firstWeak", "(I)I"⟩, 30), (⟨"ClaimChainsModel", "isFit", "(I)Z"⟩, 30), (⟨"ClaimChainsModel", "notes", "(II)I"⟩, 30), (⟨"ClaimChainsModel", "lemmaBy", "(I)I"⟩, 30), (⟨"ClaimChainsModel", "fails", "(I)I"⟩, 30), (⟨"ClaimChainsModel", "goesTo", "(II)Z"⟩, 30), (⟨"ClaimChainsModel", "manyBoxes", "()I"⟩, 30)]
theorem lw_r6 : ∀ q ∈ lw_privs_6, lw_okq q := List.forall_mem_cons.mpr ⟨lw_p80, List.forall_mem_cons.mpr ⟨lw_p81, List.forall_mem_cons.mpr ⟨lw_p82, List.forall_mem_cons.mpr ⟨lw_p83, List.forall_mem_cons.mpr ⟨lw_p84, List.forall_mem_cons.mpr ⟨lw_p85, List.forall_mem_cons.mpr ⟨lw_p86, List.forall_mem_cons.mpr ⟨lw_p87, List.forall_mem_cons.mpr ⟨lw_p88, fun _ h => absurd h List.not_mem_nil⟩⟩⟩⟩⟩⟩⟩⟩⟩
def lw_privs : List (MethodName × Nat) := lw_privs_1 ++ (lw_privs_2 ++ (lw_privs_3 ++ (lw_privs_4 ++ (lw_privs_5 ++ (lw_privs_6)))))
def lw_tbl : List Cond := k2_sels lw_privs ++ tables_1
theorem lw_privs_ok : ∀ q ∈ lw_privs, lw_okq q := by
  show ∀ q ∈ lw_privs_1 ++ (lw_privs_2 ++ (lw_privs_3 ++ (lw_privs_4 ++ (lw_privs_5 ++ (lw_privs_6))))), lw_okq q
  exact List.forall_mem_append.mpr ⟨lw_r1, List.forall_mem_append.mpr ⟨lw_r2, List.forall_mem_append.mpr ⟨lw_r3, List.forall_mem_append.mpr ⟨lw_r4, List.forall_mem_append.mpr ⟨lw_r5, lw_r6⟩⟩⟩⟩⟩
end
section
/-! classes, fields, methods: names as the task prints them -/
abbrev MI : Type := String × MethodName × ByteArray × Nat × Option FieldType
def RX0 : String := "ClaimChains$Box"
def TX0 : u_T := fun k => match k with
  | 0 => ("ClaimChains$Box", "places", "[I", true)
  | 1 => ("ClaimChains$Box", "sort", "I", false)
  | _ => ("ClaimChains$Box", "length", "I", false)
def tyX0 : Nat → FieldType := fun k => match k with
  | 0 => .array .int
  | 1 => .int
  | _ => .int
theorem nmX0 : ∀ a, a < 3 → ∀ b, b < 3 → a ≠ b → (TX0 a).2.1 ≠ (TX0 b).2.1 := by decide +kernel
theorem tyX0_ok : ∀ k, k < 3 → parseFieldDescriptor (TX0 k).2.2.1 = some (tyX0 k) := by decide +kernel
abbrev cX0_init : ByteArray := prog_2_method_1_code
def yX0_init : MethodName := ⟨RX0, "<init>", "()V"⟩
abbrev cX0_hasRow : ByteArray := prog_2_method_2_code
def yX0_hasRow : MethodName := ⟨RX0, "hasRow", "()Z"⟩
abbrev cX0_hasPlace : ByteArray := prog_2_method_3_code
def yX0_hasPlace : MethodName := ⟨RX0, "hasPlace", "(I)Z"⟩
abbrev cX0_hasRange : ByteArray := prog_2_method_4_code
def yX0_hasRange : MethodName := ⟨RX0, "hasRange", "(II)Z"⟩
abbrev cX0_admits : ByteArray := prog_2_method_5_code
def yX0_admits : MethodName := ⟨RX0, "admits", "(I)Z"⟩
abbrev cX0_getNewRow : ByteArray := prog_2_method_6_code
def yX0_getNewRow : MethodName := ⟨RX0, "getNewRow", "(II)V"⟩
abbrev cX0_becomeLike : ByteArray := prog_2_method_7_code
def yX0_becomeLike : MethodName := ⟨RX0, "becomeLike", "(LClaimChains$Box;)V"⟩
abbrev cX0_loseRow : ByteArray := prog_2_method_8_code
def yX0_loseRow : MethodName := ⟨RX0, "loseRow", "()V"⟩
def RX1 : String := "ClaimChains$Chains"
def TX1 : u_T := fun k => match k with
  | 0 => ("ClaimChains$Chains", "machine", "LClaimChains$Machine;", true)
  | 1 => ("ClaimChains$Chains", "lemmas", "LClaimChains$Lemmas;", true)
  | 2 => ("ClaimChains$Chains", "path", "[I", true)
  | 3 => ("ClaimChains$Chains", "rows", "[I", true)
  | 4 => ("ClaimChains$Chains", "leading", "[I", true)
  | 5 => ("ClaimChains$Chains", "found", "Z", false)
  | 6 => ("ClaimChains$Chains", "keptLength", "I", false)
  | 7 => ("ClaimChains$Chains", "keptGood", "I", false)
  | 8 => ("ClaimChains$Chains", "keptThreats", "I", false)
  | _ => ("ClaimChains$Chains", "keptVersion", "I", false)
def tyX1 : Nat → FieldType := fun k => match k with
  | 0 => .object "ClaimChains$Machine"
  | 1 => .object "ClaimChains$Lemmas"
  | 2 => .array .int
  | 3 => .array .int
  | 4 => .array .int
  | 5 => .boolean
  | 6 => .int
  | 7 => .int
  | 8 => .int
  | _ => .int
theorem nmX1 : ∀ a, a < 10 → ∀ b, b < 10 → a ≠ b → (TX1 a).2.1 ≠ (TX1 b).2.1 := by decide +kernel
theorem tyX1_ok : ∀ k, k < 10 → parseFieldDescriptor (TX1 k).2.2.1 = some (tyX1 k) := by decide +kernel
abbrev cX1_init : ByteArray := prog_3_method_1_code
def yX1_init : MethodName := ⟨RX1, "<init>", "(LClaimChains$Machine;LClaimChains$Lemmas;)V"⟩
abbrev cX1_find : ByteArray := prog_3_method_2_code
def yX1_find : MethodName := ⟨RX1, "find", "(I)Z"⟩
abbrev cX1_isKept : ByteArray := prog_3_method_3_code
def yX1_isKept : MethodName := ⟨RX1, "isKept", "(I)Z"⟩
abbrev cX1_search : ByteArray := prog_3_method_4_code
def yX1_search : MethodName := ⟨RX1, "search", "(I)Z"⟩
abbrev cX1_extend : ByteArray := prog_3_method_5_code
def yX1_extend : MethodName := ⟨RX1, "extend", "(IIII)Z"⟩
def RX2 : String := "ClaimChains$Lemmas"
def TX2 : u_T := fun k => match k with
  | 0 => ("ClaimChains$Lemmas", "machine", "LClaimChains$Machine;", true)
  | 1 => ("ClaimChains$Lemmas", "sets", "[I", true)
  | 2 => ("ClaimChains$Lemmas", "cubes", "[I", true)
  | 3 => ("ClaimChains$Lemmas", "count", "I", false)
  | _ => ("ClaimChains$Lemmas", "common", "I", false)
def tyX2 : Nat → FieldType := fun k => match k with
  | 0 => .object "ClaimChains$Machine"
  | 1 => .array .int
  | 2 => .array .int
  | 3 => .int
  | _ => .int
theorem nmX2 : ∀ a, a < 5 → ∀ b, b < 5 → a ≠ b → (TX2 a).2.1 ≠ (TX2 b).2.1 := by decide +kernel
theorem tyX2_ok : ∀ k, k < 5 → parseFieldDescriptor (TX2 k).2.2.1 = some (tyX2 k) := by decide +kernel
abbrev cX2_init : ByteArray := prog_4_method_1_code
def yX2_init : MethodName := ⟨RX2, "<init>", "(LClaimChains$Machine;)V"⟩
abbrev cX2_forgetAll : ByteArray := prog_4_method_2_code
def yX2_forgetAll : MethodName := ⟨RX2, "forgetAll", "()V"⟩
abbrev cX2_goodStates : ByteArray := prog_4_method_3_code
def yX2_goodStates : MethodName := ⟨RX2, "goodStates", "()I"⟩
abbrev cX2_threats : ByteArray := prog_4_method_4_code
def yX2_threats : MethodName := ⟨RX2, "threats", "()I"⟩
abbrev cX2_weakStates : ByteArray := prog_4_method_5_code
def yX2_weakStates : MethodName := ⟨RX2, "weakStates", "()I"⟩
abbrev cX2_fits : ByteArray := prog_4_method_6_code
def yX2_fits : MethodName := ⟨RX2, "fits", "(I)Z"⟩
abbrev cX2_addIfFitting : ByteArray := prog_4_method_7_code
def yX2_addIfFitting : MethodName := ⟨RX2, "addIfFitting", "(I)I"⟩
abbrev cX2_add : ByteArray := prog_4_method_8_code
def yX2_add : MethodName := ⟨RX2, "add", "(II)I"⟩
abbrev cX2_removeLast : ByteArray := prog_4_method_9_code
def yX2_removeLast : MethodName := ⟨RX2, "removeLast", "()I"⟩
abbrev cX2_addByStrengthening : ByteArray := prog_4_method_10_code
def yX2_addByStrengthening : MethodName := ⟨RX2, "addByStrengthening", "()I"⟩
abbrev cX2_leastThatCanGo : ByteArray := prog_4_method_11_code
def yX2_leastThatCanGo : MethodName := ⟨RX2, "leastThatCanGo", "(I)I"⟩
abbrev cX2_widestNames : ByteArray := prog_4_method_12_code
def yX2_widestNames : MethodName := ⟨RX2, "widestNames", "(I)I"⟩
abbrev cX2_outside : ByteArray := prog_4_method_13_code
def yX2_outside : MethodName := ⟨RX2, "outside", "(II)I"⟩
def RX3 : String := "ClaimChains$Machine"
def TX3 : u_T := fun k => match k with
  | 0 => ("ClaimChains$Machine", "terms", "LClaimChains$Terms;", true)
  | 1 => ("ClaimChains$Machine", "startsTerm", "I", false)
  | 2 => ("ClaimChains$Machine", "claimTerm", "I", false)
  | 3 => ("ClaimChains$Machine", "nextTerms", "[I", true)
  | 4 => ("ClaimChains$Machine", "startStates", "I", false)
  | 5 => ("ClaimChains$Machine", "brokenStates", "I", false)
  | 6 => ("ClaimChains$Machine", "targets", "[I", true)
  | 7 => ("ClaimChains$Machine", "reached", "[I", true)
  | 8 => ("ClaimChains$Machine", "stepsVersion", "I", false)
  | 9 => ("ClaimChains$Machine", "distances", "[I", true)
  | 10 => ("ClaimChains$Machine", "metStates", "I", false)
  | 11 => ("ClaimChains$Machine", "wayLength", "I", false)
  | 12 => ("ClaimChains$Machine", "wayStates", "[I", true)
  | 13 => ("ClaimChains$Machine", "wayRows", "[I", true)
  | _ => ("ClaimChains$Machine", "leading", "[I", true)
def tyX3 : Nat → FieldType := fun k => match k with
  | 0 => .object "ClaimChains$Terms"
  | 1 => .int
  | 2 => .int
  | 3 => .array .int
  | 4 => .int
  | 5 => .int
  | 6 => .array .int
  | 7 => .array .int
  | 8 => .int
  | 9 => .array .int
  | 10 => .int
  | 11 => .int
  | 12 => .array .int
  | 13 => .array .int
  | _ => .array .int
theorem nmX3 : ∀ a, a < 15 → ∀ b, b < 15 → a ≠ b → (TX3 a).2.1 ≠ (TX3 b).2.1 := by decide +kernel
theorem tyX3_ok : ∀ k, k < 15 → parseFieldDescriptor (TX3 k).2.2.1 = some (tyX3 k) := by decide +kernel
abbrev cX3_init : ByteArray := prog_5_method_1_code
def yX3_init : MethodName := ⟨RX3, "<init>", "(LClaimChains$Terms;)V"⟩
abbrev cX3_tellStarts : ByteArray := prog_5_method_2_code
def yX3_tellStarts : MethodName := ⟨RX3, "tellStarts", "(I)I"⟩
abbrev cX3_tellNext : ByteArray := prog_5_method_3_code
def yX3_tellNext : MethodName := ⟨RX3, "tellNext", "(II)I"⟩
abbrev cX3_tellClaim : ByteArray := prog_5_method_4_code
def yX3_tellClaim : MethodName := ⟨RX3, "tellClaim", "(I)I"⟩
abbrev cX3_target : ByteArray := prog_5_method_5_code
def yX3_target : MethodName := ⟨RX3, "target", "(II)I"⟩
abbrev cX3_renewSteps : ByteArray := prog_5_method_6_code
def yX3_renewSteps : MethodName := ⟨RX3, "renewSteps", "()V"⟩
abbrev cX3_nextTable : ByteArray := prog_5_method_7_code
def yX3_nextTable : MethodName := ⟨RX3, "nextTable", "(I)J"⟩
abbrev cX3_image : ByteArray := prog_5_method_8_code
def yX3_image : MethodName := ⟨RX3, "image", "(I)I"⟩
abbrev cX3_sources : ByteArray := prog_5_method_9_code
def yX3_sources : MethodName := ⟨RX3, "sources", "(I)I"⟩
abbrev cX3_renewDistances : ByteArray := prog_5_method_10_code
def yX3_renewDistances : MethodName := ⟨RX3, "renewDistances", "()V"⟩
abbrev cX3_greatestDistance : ByteArray := prog_5_method_11_code
def yX3_greatestDistance : MethodName := ⟨RX3, "greatestDistance", "()I"⟩
abbrev cX3_sumOfDistances : ByteArray := prog_5_method_12_code
def yX3_sumOfDistances : MethodName := ⟨RX3, "sumOfDistances", "()I"⟩
abbrev cX3_leastBrokenDistance : ByteArray := prog_5_method_13_code
def yX3_leastBrokenDistance : MethodName := ⟨RX3, "leastBrokenDistance", "()I"⟩
abbrev cX3_isClear : ByteArray := prog_5_method_14_code
def yX3_isClear : MethodName := ⟨RX3, "isClear", "(I)Z"⟩
abbrev cX3_renewWay : ByteArray := prog_5_method_15_code
def yX3_renewWay : MethodName := ⟨RX3, "renewWay", "()V"⟩
abbrev cX3_leastRowInto : ByteArray := prog_5_method_16_code
def yX3_leastRowInto : MethodName := ⟨RX3, "leastRowInto", "(II)I"⟩
abbrev cX3_looseInStart : ByteArray := prog_5_method_17_code
def yX3_looseInStart : MethodName := ⟨RX3, "looseInStart", "()I"⟩
abbrev cX3_looseInRow : ByteArray := prog_5_method_18_code
def yX3_looseInRow : MethodName := ⟨RX3, "looseInRow", "(I)I"⟩
abbrev cX3_endsBroken : ByteArray := prog_5_method_19_code
def yX3_endsBroken : MethodName := ⟨RX3, "endsBroken", "(III)Z"⟩
abbrev cX3_coneVariables : ByteArray := prog_5_method_20_code
def yX3_coneVariables : MethodName := ⟨RX3, "coneVariables", "()I"⟩
abbrev cX3_inputsOf : ByteArray := prog_5_method_21_code
def yX3_inputsOf : MethodName := ⟨RX3, "inputsOf", "(I)I"⟩
def RX4 : String := "ClaimChains$Terms"
def TX4 : u_T := fun k => match k with
  | 0 => ("ClaimChains$Terms", "kinds", "[I", true)
  | 1 => ("ClaimChains$Terms", "firsts", "[I", true)
  | 2 => ("ClaimChains$Terms", "seconds", "[I", true)
  | 3 => ("ClaimChains$Terms", "thirds", "[I", true)
  | 4 => ("ClaimChains$Terms", "variables", "[I", true)
  | 5 => ("ClaimChains$Terms", "inputs", "[I", true)
  | 6 => ("ClaimChains$Terms", "depths", "[I", true)
  | 7 => ("ClaimChains$Terms", "leafCounts", "[J", true)
  | 8 => ("ClaimChains$Terms", "tables", "[J", true)
  | _ => ("ClaimChains$Terms", "count", "I", false)
def tyX4 : Nat → FieldType := fun k => match k with
  | 0 => .array .int
  | 1 => .array .int
  | 2 => .array .int
  | 3 => .array .int
  | 4 => .array .int
  | 5 => .array .int
  | 6 => .array .int
  | 7 => .array .long
  | 8 => .array .long
  | _ => .int
theorem nmX4 : ∀ a, a < 10 → ∀ b, b < 10 → a ≠ b → (TX4 a).2.1 ≠ (TX4 b).2.1 := by decide +kernel
theorem tyX4_ok : ∀ k, k < 10 → parseFieldDescriptor (TX4 k).2.2.1 = some (tyX4 k) := by decide +kernel
abbrev cX4_init : ByteArray := prog_6_method_1_code
def yX4_init : MethodName := ⟨RX4, "<init>", "()V"⟩
abbrev cX4_has : ByteArray := prog_6_method_2_code
def yX4_has : MethodName := ⟨RX4, "has", "(I)Z"⟩
abbrev cX4_trueStates : ByteArray := prog_6_method_3_code
def yX4_trueStates : MethodName := ⟨RX4, "trueStates", "(II)I"⟩
abbrev cX4_elderOrNew : ByteArray := prog_6_method_4_code
def yX4_elderOrNew : MethodName := ⟨RX4, "elderOrNew", "(IIII)I"⟩
abbrev cX4_isJust : ByteArray := prog_6_method_5_code
def yX4_isJust : MethodName := ⟨RX4, "isJust", "(IIIII)Z"⟩
abbrev cX4_fillLeaf : ByteArray := prog_6_method_6_code
def yX4_fillLeaf : MethodName := ⟨RX4, "fillLeaf", "(I)V"⟩
abbrev cX4_leafTable : ByteArray := prog_6_method_7_code
def yX4_leafTable : MethodName := ⟨RX4, "leafTable", "(II)J"⟩
abbrev cX4_fillFromParts : ByteArray := prog_6_method_8_code
def yX4_fillFromParts : MethodName := ⟨RX4, "fillFromParts", "(I)V"⟩
abbrev cX4_addPart : ByteArray := prog_6_method_9_code
def yX4_addPart : MethodName := ⟨RX4, "addPart", "(II)V"⟩
abbrev cX4_tableOf : ByteArray := prog_6_method_10_code
def yX4_tableOf : MethodName := ⟨RX4, "tableOf", "(I)J"⟩
abbrev cX4_joinedTable : ByteArray := prog_6_method_11_code
def yX4_joinedTable : MethodName := ⟨RX4, "joinedTable", "(IJJJ)J"⟩
def RX5 : String := "ClaimChains$Walks"
def TX5 : u_T := fun k => match k with
  | 0 => ("ClaimChains$Walks", "machine", "LClaimChains$Machine;", true)
  | 1 => ("ClaimChains$Walks", "shorter", "[I", true)
  | _ => ("ClaimChains$Walks", "safe", "[I", true)
def tyX5 : Nat → FieldType := fun k => match k with
  | 0 => .object "ClaimChains$Machine"
  | 1 => .array .int
  | _ => .array .int
theorem nmX5 : ∀ a, a < 3 → ∀ b, b < 3 → a ≠ b → (TX5 a).2.1 ≠ (TX5 b).2.1 := by decide +kernel
theorem tyX5_ok : ∀ k, k < 3 → parseFieldDescriptor (TX5 k).2.2.1 = some (tyX5 k) := by decide +kernel
abbrev cX5_init : ByteArray := prog_7_method_1_code
def yX5_init : MethodName := ⟨RX5, "<init>", "(LClaimChains$Machine;)V"⟩
abbrev cX5_countSafe : ByteArray := prog_7_method_2_code
def yX5_countSafe : MethodName := ⟨RX5, "countSafe", "(I)I"⟩
abbrev cX5_lengthen : ByteArray := prog_7_method_3_code
def yX5_lengthen : MethodName := ⟨RX5, "lengthen", "()V"⟩
def RX6 : String := "ClaimChains"
def TX6 : u_T := fun k => match k with
  | 0 => ("ClaimChains", "terms", "LClaimChains$Terms;", true)
  | 1 => ("ClaimChains", "machine", "LClaimChains$Machine;", true)
  | 2 => ("ClaimChains", "lemmas", "LClaimChains$Lemmas;", true)
  | 3 => ("ClaimChains", "chains", "LClaimChains$Chains;", true)
  | 4 => ("ClaimChains", "walks", "LClaimChains$Walks;", true)
  | 5 => ("ClaimChains", "boxes", "[LClaimChains$Box;", true)
  | 6 => ("ClaimChains", "carried", "[I", true)
  | _ => ("ClaimChains", "latestFault", "I", false)
def tyX6 : Nat → FieldType := fun k => match k with
  | 0 => .object "ClaimChains$Terms"
  | 1 => .object "ClaimChains$Machine"
  | 2 => .object "ClaimChains$Lemmas"
  | 3 => .object "ClaimChains$Chains"
  | 4 => .object "ClaimChains$Walks"
  | 5 => .array (.object "ClaimChains$Box")
  | 6 => .array .int
  | _ => .int
theorem nmX6 : ∀ a, a < 8 → ∀ b, b < 8 → a ≠ b → (TX6 a).2.1 ≠ (TX6 b).2.1 := by decide +kernel
theorem tyX6_ok : ∀ k, k < 8 → parseFieldDescriptor (TX6 k).2.2.1 = some (tyX6 k) := by decide +kernel
abbrev cX6_init : ByteArray := prog_1_method_1_code
def yX6_init : MethodName := ⟨RX6, "<init>", "()V"⟩
abbrev cX6_leaf : ByteArray := prog_1_method_2_code
def yX6_leaf : MethodName := ⟨RX6, "leaf", "(II)I"⟩
abbrev cX6_gate : ByteArray := prog_1_method_3_code
def yX6_gate : MethodName := ⟨RX6, "gate", "(III)I"⟩
abbrev cX6_choice : ByteArray := prog_1_method_4_code
def yX6_choice : MethodName := ⟨RX6, "choice", "(III)I"⟩
abbrev cX6_ofTerm : ByteArray := prog_1_method_5_code
def yX6_ofTerm : MethodName := ⟨RX6, "ofTerm", "(II)I"⟩
abbrev cX6_leaves : ByteArray := prog_1_method_6_code
def yX6_leaves : MethodName := ⟨RX6, "leaves", "(I)J"⟩
abbrev cX6_value : ByteArray := prog_1_method_7_code
def yX6_value : MethodName := ⟨RX6, "value", "(III)I"⟩
abbrev cX6_holds : ByteArray := prog_1_method_8_code
def yX6_holds : MethodName := ⟨RX6, "holds", "(II)I"⟩
abbrev cX6_alike : ByteArray := prog_1_method_9_code
def yX6_alike : MethodName := ⟨RX6, "alike", "(II)I"⟩
abbrev cX6_starts : ByteArray := prog_1_method_10_code
def yX6_starts : MethodName := ⟨RX6, "starts", "(I)I"⟩
abbrev cX6_next : ByteArray := prog_1_method_11_code
def yX6_next : MethodName := ⟨RX6, "next", "(II)I"⟩
abbrev cX6_claim : ByteArray := prog_1_method_12_code
def yX6_claim : MethodName := ⟨RX6, "claim", "(I)I"⟩
abbrev cX6_step : ByteArray := prog_1_method_13_code
def yX6_step : MethodName := ⟨RX6, "step", "(II)I"⟩
abbrev cX6_before : ByteArray := prog_1_method_14_code
def yX6_before : MethodName := ⟨RX6, "before", "(I)I"⟩
abbrev cX6_distance : ByteArray := prog_1_method_15_code
def yX6_distance : MethodName := ⟨RX6, "distance", "(I)I"⟩
abbrev cX6_met : ByteArray := prog_1_method_16_code
def yX6_met : MethodName := ⟨RX6, "met", "(I)I"⟩
abbrev cX6_way : ByteArray := prog_1_method_17_code
def yX6_way : MethodName := ⟨RX6, "way", "(II)I"⟩
abbrev cX6_loose : ByteArray := prog_1_method_18_code
def yX6_loose : MethodName := ⟨RX6, "loose", "(I)I"⟩
abbrev cX6_cone : ByteArray := prog_1_method_19_code
def yX6_cone : MethodName := ⟨RX6, "cone", "(I)I"⟩
abbrev cX6_clear : ByteArray := prog_1_method_20_code
def yX6_clear : MethodName := ⟨RX6, "clear", "(I)I"⟩
abbrev cX6_shut : ByteArray := prog_1_method_21_code
def yX6_shut : MethodName := ⟨RX6, "shut", "(I)I"⟩
abbrev cX6_settle : ByteArray := prog_1_method_22_code
def yX6_settle : MethodName := ⟨RX6, "settle", "(I)I"⟩
abbrev cX6_chain : ByteArray := prog_1_method_23_code
def yX6_chain : MethodName := ⟨RX6, "chain", "(III)I"⟩
abbrev cX6_weak : ByteArray := prog_1_method_24_code
def yX6_weak : MethodName := ⟨RX6, "weak", "(I)I"⟩
abbrev cX6_strengthen : ByteArray := prog_1_method_25_code
def yX6_strengthen : MethodName := ⟨RX6, "strengthen", "()I"⟩
abbrev cX6_lemma : ByteArray := prog_1_method_26_code
def yX6_lemma : MethodName := ⟨RX6, "lemma", "(I)I"⟩
abbrev cX6_block : ByteArray := prog_1_method_27_code
def yX6_block : MethodName := ⟨RX6, "block", "(I)I"⟩
abbrev cX6_back : ByteArray := prog_1_method_28_code
def yX6_back : MethodName := ⟨RX6, "back", "()I"⟩
abbrev cX6_ofLemma : ByteArray := prog_1_method_29_code
def yX6_ofLemma : MethodName := ⟨RX6, "ofLemma", "(II)I"⟩
abbrev cX6_closed : ByteArray := prog_1_method_30_code
def yX6_closed : MethodName := ⟨RX6, "closed", "()I"⟩
abbrev cX6_chance : ByteArray := prog_1_method_31_code
def yX6_chance : MethodName := ⟨RX6, "chance", "(I)I"⟩
abbrev cX6_mean : ByteArray := prog_1_method_32_code
def yX6_mean : MethodName := ⟨RX6, "mean", "()J"⟩
abbrev cX6_box : ByteArray := prog_1_method_33_code
def yX6_box : MethodName := ⟨RX6, "box", "(III)I"⟩
abbrev cX6_lay : ByteArray := prog_1_method_34_code
def yX6_lay : MethodName := ⟨RX6, "lay", "(III)I"⟩
abbrev cX6_take : ByteArray := prog_1_method_35_code
def yX6_take : MethodName := ⟨RX6, "take", "(II)I"⟩
abbrev cX6_same : ByteArray := prog_1_method_36_code
def yX6_same : MethodName := ⟨RX6, "same", "(II)I"⟩
abbrev cX6_move : ByteArray := prog_1_method_37_code
def yX6_move : MethodName := ⟨RX6, "move", "(IIIII)I"⟩
abbrev cX6_states : ByteArray := prog_1_method_38_code
def yX6_states : MethodName := ⟨RX6, "states", "(III)I"⟩
abbrev cX6_lose : ByteArray := prog_1_method_39_code
def yX6_lose : MethodName := ⟨RX6, "lose", "(I)I"⟩
abbrev cX6_fault : ByteArray := prog_1_method_40_code
def yX6_fault : MethodName := ⟨RX6, "fault", "()I"⟩
abbrev cX6_many : ByteArray := prog_1_method_41_code
def yX6_many : MethodName := ⟨RX6, "many", "(I)I"⟩
abbrev cX6_countFilledBoxes : ByteArray := prog_1_method_42_code
def yX6_countFilledBoxes : MethodName := ⟨RX6, "countFilledBoxes", "()I"⟩
abbrev cX6_faulted : ByteArray := prog_1_method_43_code
def yX6_faulted : MethodName := ⟨RX6, "faulted", "(I)I"⟩
abbrev cX6_isState : ByteArray := prog_1_method_44_code
def yX6_isState : MethodName := ⟨RX6, "isState", "(I)Z"⟩
abbrev cX6_isRow : ByteArray := prog_1_method_45_code
def yX6_isRow : MethodName := ⟨RX6, "isRow", "(I)Z"⟩
abbrev cX6_isBox : ByteArray := prog_1_method_46_code
def yX6_isBox : MethodName := ⟨RX6, "isBox", "(I)Z"⟩
abbrev cX6_isIn : ByteArray := prog_1_method_47_code
def yX6_isIn : MethodName := ⟨RX6, "isIn", "(II)Z"⟩
abbrev cX6_bit : ByteArray := prog_1_method_48_code
def yX6_bit : MethodName := ⟨RX6, "bit", "(Z)I"⟩
abbrev cX6_leastOf : ByteArray := prog_1_method_49_code
def yX6_leastOf : MethodName := ⟨RX6, "leastOf", "(I)I"⟩
abbrev cX6_nearestBits : ByteArray := prog_1_method_50_code
def yX6_nearestBits : MethodName := ⟨RX6, "nearestBits", "(JJII)J"⟩
def RX7 : String := "ClaimChainsModel"
def TX7 : u_T := fun k => match k with
  | 0 => ("ClaimChainsModel", "fault", "I", false)
  | 1 => ("ClaimChainsModel", "many", "I", false)
  | 2 => ("ClaimChainsModel", "kind", "[I", true)
  | 3 => ("ClaimChainsModel", "part", "[I", true)
  | 4 => ("ClaimChainsModel", "variables", "[I", true)
  | 5 => ("ClaimChainsModel", "inputs", "[I", true)
  | 6 => ("ClaimChainsModel", "deep", "[I", true)
  | 7 => ("ClaimChainsModel", "leavesOf", "[J", true)
  | 8 => ("ClaimChainsModel", "values", "[I", true)
  | 9 => ("ClaimChainsModel", "startTerm", "I", false)
  | 10 => ("ClaimChainsModel", "claimTerm", "I", false)
  | 11 => ("ClaimChainsModel", "nextTerm", "[I", true)
  | 12 => ("ClaimChainsModel", "far", "[I", true)
  | 13 => ("ClaimChainsModel", "wayMany", "I", false)
  | 14 => ("ClaimChainsModel", "wayState", "[I", true)
  | 15 => ("ClaimChainsModel", "wayRow", "[I", true)
  | 16 => ("ClaimChainsModel", "lemmas", "I", false)
  | 17 => ("ClaimChainsModel", "lemmaOf", "[I", true)
  | 18 => ("ClaimChainsModel", "cubeOf", "[I", true)
  | 19 => ("ClaimChainsModel", "chainState", "[I", true)
  | 20 => ("ClaimChainsModel", "chainRow", "[I", true)
  | 21 => ("ClaimChainsModel", "steps", "[I", true)
  | 22 => ("ClaimChainsModel", "good", "I", false)
  | 23 => ("ClaimChainsModel", "last", "I", false)
  | 24 => ("ClaimChainsModel", "wrong", "[I", true)
  | 25 => ("ClaimChainsModel", "wrongThen", "[I", true)
  | 26 => ("ClaimChainsModel", "sortOf", "[I", true)
  | 27 => ("ClaimChainsModel", "longOf", "[I", true)
  | 28 => ("ClaimChainsModel", "place", "[I", true)
  | _ => ("ClaimChainsModel", "moved", "[I", true)
def tyX7 : Nat → FieldType := fun k => match k with
  | 0 => .int
  | 1 => .int
  | 2 => .array .int
  | 3 => .array .int
  | 4 => .array .int
  | 5 => .array .int
  | 6 => .array .int
  | 7 => .array .long
  | 8 => .array .int
  | 9 => .int
  | 10 => .int
  | 11 => .array .int
  | 12 => .array .int
  | 13 => .int
  | 14 => .array .int
  | 15 => .array .int
  | 16 => .int
  | 17 => .array .int
  | 18 => .array .int
  | 19 => .array .int
  | 20 => .array .int
  | 21 => .array .int
  | 22 => .int
  | 23 => .int
  | 24 => .array .int
  | 25 => .array .int
  | 26 => .array .int
  | 27 => .array .int
  | 28 => .array .int
  | _ => .array .int
theorem nmX7 : ∀ a, a < 30 → ∀ b, b < 30 → a ≠ b → (TX7 a).2.1 ≠ (TX7 b).2.1 := by decide +kernel
theorem tyX7_ok : ∀ k, k < 30 → parseFieldDescriptor (TX7 k).2.2.1 = some (tyX7 k) := by decide +kernel
abbrev cX7_init : ByteArray := prog_9_method_1_code
def yX7_init : MethodName := ⟨RX7, "<init>", "()V"⟩
abbrev cX7_fails : ByteArray := prog_9_method_3_code
def yX7_fails : MethodName := ⟨RX7, "fails", "(I)I"⟩
abbrev cX7_within : ByteArray := prog_9_method_4_code
def yX7_within : MethodName := ⟨RX7, "within", "(III)Z"⟩
abbrev cX7_isIn : ByteArray := prog_9_method_5_code
def yX7_isIn : MethodName := ⟨RX7, "isIn", "(II)I"⟩
abbrev cX7_sizeOf : ByteArray := prog_9_method_6_code
def yX7_sizeOf : MethodName := ⟨RX7, "sizeOf", "(I)I"⟩
abbrev cX7_isTerm : ByteArray := prog_9_method_7_code
def yX7_isTerm : MethodName := ⟨RX7, "isTerm", "(I)Z"⟩
abbrev cX7_isState : ByteArray := prog_9_method_8_code
def yX7_isState : MethodName := ⟨RX7, "isState", "(I)Z"⟩
abbrev cX7_isRow : ByteArray := prog_9_method_9_code
def yX7_isRow : MethodName := ⟨RX7, "isRow", "(I)Z"⟩
abbrev cX7_valueIn : ByteArray := prog_9_method_10_code
def yX7_valueIn : MethodName := ⟨RX7, "valueIn", "(III)I"⟩
abbrev cX7_find : ByteArray := prog_9_method_11_code
def yX7_find : MethodName := ⟨RX7, "find", "(IIII)I"⟩
abbrev cX7_evaluated : ByteArray := prog_9_method_12_code
def yX7_evaluated : MethodName := ⟨RX7, "evaluated", "(III)I"⟩
abbrev cX7_takes : ByteArray := prog_9_method_13_code
def yX7_takes : MethodName := ⟨RX7, "takes", "(II)V"⟩
abbrev cX7_comes : ByteArray := prog_9_method_14_code
def yX7_comes : MethodName := ⟨RX7, "comes", "(IIII)I"⟩
abbrev cX7_leaf : ByteArray := prog_9_method_15_code
def yX7_leaf : MethodName := ⟨RX7, "leaf", "(II)I"⟩
abbrev cX7_gate : ByteArray := prog_9_method_16_code
def yX7_gate : MethodName := ⟨RX7, "gate", "(III)I"⟩
abbrev cX7_choice : ByteArray := prog_9_method_17_code
def yX7_choice : MethodName := ⟨RX7, "choice", "(III)I"⟩
abbrev cX7_ofTerm : ByteArray := prog_9_method_18_code
def yX7_ofTerm : MethodName := ⟨RX7, "ofTerm", "(II)I"⟩
abbrev cX7_leaves : ByteArray := prog_9_method_19_code
def yX7_leaves : MethodName := ⟨RX7, "leaves", "(I)J"⟩
abbrev cX7_value : ByteArray := prog_9_method_20_code
def yX7_value : MethodName := ⟨RX7, "value", "(III)I"⟩
abbrev cX7_holdsOf : ByteArray := prog_9_method_21_code
def yX7_holdsOf : MethodName := ⟨RX7, "holdsOf", "(II)I"⟩
abbrev cX7_holds : ByteArray := prog_9_method_22_code
def yX7_holds : MethodName := ⟨RX7, "holds", "(II)I"⟩
abbrev cX7_alike : ByteArray := prog_9_method_23_code
def yX7_alike : MethodName := ⟨RX7, "alike", "(II)I"⟩
abbrev cX7_startSet : ByteArray := prog_9_method_24_code
def yX7_startSet : MethodName := ⟨RX7, "startSet", "()I"⟩
abbrev cX7_brokenSet : ByteArray := prog_9_method_25_code
def yX7_brokenSet : MethodName := ⟨RX7, "brokenSet", "()I"⟩
abbrev cX7_againstStates : ByteArray := prog_9_method_26_code
def yX7_againstStates : MethodName := ⟨RX7, "againstStates", "(I)I"⟩
abbrev cX7_starts : ByteArray := prog_9_method_27_code
def yX7_starts : MethodName := ⟨RX7, "starts", "(I)I"⟩
abbrev cX7_next : ByteArray := prog_9_method_28_code
def yX7_next : MethodName := ⟨RX7, "next", "(II)I"⟩
abbrev cX7_claim : ByteArray := prog_9_method_29_code
def yX7_claim : MethodName := ⟨RX7, "claim", "(I)I"⟩
abbrev cX7_stepOf : ByteArray := prog_9_method_30_code
def yX7_stepOf : MethodName := ⟨RX7, "stepOf", "(II)I"⟩
abbrev cX7_step : ByteArray := prog_9_method_31_code
def yX7_step : MethodName := ⟨RX7, "step", "(II)I"⟩
abbrev cX7_beforeOf : ByteArray := prog_9_method_32_code
def yX7_beforeOf : MethodName := ⟨RX7, "beforeOf", "(I)I"⟩
abbrev cX7_before : ByteArray := prog_9_method_33_code
def yX7_before : MethodName := ⟨RX7, "before", "(I)I"⟩
abbrev cX7_findFar : ByteArray := prog_9_method_34_code
def yX7_findFar : MethodName := ⟨RX7, "findFar", "()V"⟩
abbrev cX7_distance : ByteArray := prog_9_method_35_code
def yX7_distance : MethodName := ⟨RX7, "distance", "(I)I"⟩
abbrev cX7_metSet : ByteArray := prog_9_method_36_code
def yX7_metSet : MethodName := ⟨RX7, "metSet", "()I"⟩
abbrev cX7_wayLong : ByteArray := prog_9_method_37_code
def yX7_wayLong : MethodName := ⟨RX7, "wayLong", "()I"⟩
abbrev cX7_greatestFar : ByteArray := prog_9_method_38_code
def yX7_greatestFar : MethodName := ⟨RX7, "greatestFar", "()I"⟩
abbrev cX7_met : ByteArray := prog_9_method_39_code
def yX7_met : MethodName := ⟨RX7, "met", "(I)I"⟩
abbrev cX7_cameFrom : ByteArray := prog_9_method_40_code
def yX7_cameFrom : MethodName := ⟨RX7, "cameFrom", "(I)I"⟩
abbrev cX7_findWay : ByteArray := prog_9_method_41_code
def yX7_findWay : MethodName := ⟨RX7, "findWay", "()V"⟩
abbrev cX7_way : ByteArray := prog_9_method_42_code
def yX7_way : MethodName := ⟨RX7, "way", "(II)I"⟩
abbrev cX7_isStillBroken : ByteArray := prog_9_method_43_code
def yX7_isStillBroken : MethodName := ⟨RX7, "isStillBroken", "(III)Z"⟩
abbrev cX7_loose : ByteArray := prog_9_method_44_code
def yX7_loose : MethodName := ⟨RX7, "loose", "(I)I"⟩
abbrev cX7_cone : ByteArray := prog_9_method_45_code
def yX7_cone : MethodName := ⟨RX7, "cone", "(I)I"⟩
abbrev cX7_inAll : ByteArray := prog_9_method_46_code
def yX7_inAll : MethodName := ⟨RX7, "inAll", "()I"⟩
abbrev cX7_goodSet : ByteArray := prog_9_method_47_code
def yX7_goodSet : MethodName := ⟨RX7, "goodSet", "()I"⟩
abbrev cX7_lastSet : ByteArray := prog_9_method_48_code
def yX7_lastSet : MethodName := ⟨RX7, "lastSet", "()I"⟩
abbrev cX7_isClear : ByteArray := prog_9_method_49_code
def yX7_isClear : MethodName := ⟨RX7, "isClear", "(I)Z"⟩
abbrev cX7_clear : ByteArray := prog_9_method_50_code
def yX7_clear : MethodName := ⟨RX7, "clear", "(I)I"⟩
abbrev cX7_isNew : ByteArray := prog_9_method_51_code
def yX7_isNew : MethodName := ⟨RX7, "isNew", "(II)Z"⟩
abbrev cX7_nextRow : ByteArray := prog_9_method_52_code
def yX7_nextRow : MethodName := ⟨RX7, "nextRow", "(II)I"⟩
abbrev cX7_extend : ByteArray := prog_9_method_53_code
def yX7_extend : MethodName := ⟨RX7, "extend", "(I)Z"⟩
abbrev cX7_findChain : ByteArray := prog_9_method_54_code
def yX7_findChain : MethodName := ⟨RX7, "findChain", "(I)Z"⟩
abbrev cX7_shut : ByteArray := prog_9_method_55_code
def yX7_shut : MethodName := ⟨RX7, "shut", "(I)I"⟩
abbrev cX7_settle : ByteArray := prog_9_method_56_code
def yX7_settle : MethodName := ⟨RX7, "settle", "(I)I"⟩
abbrev cX7_chain : ByteArray := prog_9_method_57_code
def yX7_chain : MethodName := ⟨RX7, "chain", "(III)I"⟩
abbrev cX7_weakSet : ByteArray := prog_9_method_58_code
def yX7_weakSet : MethodName := ⟨RX7, "weakSet", "()I"⟩
abbrev cX7_weak : ByteArray := prog_9_method_59_code
def yX7_weak : MethodName := ⟨RX7, "weak", "(I)I"⟩
abbrev cX7_isFit : ByteArray := prog_9_method_60_code
def yX7_isFit : MethodName := ⟨RX7, "isFit", "(I)Z"⟩
abbrev cX7_outside : ByteArray := prog_9_method_61_code
def yX7_outside : MethodName := ⟨RX7, "outside", "(II)I"⟩
abbrev cX7_notes : ByteArray := prog_9_method_62_code
def yX7_notes : MethodName := ⟨RX7, "notes", "(II)I"⟩
abbrev cX7_firstWeak : ByteArray := prog_9_method_63_code
def yX7_firstWeak : MethodName := ⟨RX7, "firstWeak", "(I)I"⟩
abbrev cX7_strengthen : ByteArray := prog_9_method_64_code
def yX7_strengthen : MethodName := ⟨RX7, "strengthen", "()I"⟩
abbrev cX7_lemmaBy : ByteArray := prog_9_method_65_code
def yX7_lemmaBy : MethodName := ⟨RX7, "lemmaBy", "(I)I"⟩
abbrev cX7_lemma : ByteArray := prog_9_method_66_code
def yX7_lemma : MethodName := ⟨RX7, "lemma", "(I)I"⟩
abbrev cX7_block : ByteArray := prog_9_method_67_code
def yX7_block : MethodName := ⟨RX7, "block", "(I)I"⟩
abbrev cX7_back : ByteArray := prog_9_method_68_code
def yX7_back : MethodName := ⟨RX7, "back", "()I"⟩
abbrev cX7_ofLemma : ByteArray := prog_9_method_69_code
def yX7_ofLemma : MethodName := ⟨RX7, "ofLemma", "(II)I"⟩
abbrev cX7_closed : ByteArray := prog_9_method_70_code
def yX7_closed : MethodName := ⟨RX7, "closed", "()I"⟩
abbrev cX7_nearestBits : ByteArray := prog_9_method_71_code
def yX7_nearestBits : MethodName := ⟨RX7, "nearestBits", "(IIII)J"⟩
abbrev cX7_chance : ByteArray := prog_9_method_72_code
def yX7_chance : MethodName := ⟨RX7, "chance", "(I)I"⟩
abbrev cX7_mean : ByteArray := prog_9_method_73_code
def yX7_mean : MethodName := ⟨RX7, "mean", "()J"⟩
abbrev cX7_isBox : ByteArray := prog_9_method_74_code
def yX7_isBox : MethodName := ⟨RX7, "isBox", "(I)Z"⟩
abbrev cX7_goesTo : ByteArray := prog_9_method_75_code
def yX7_goesTo : MethodName := ⟨RX7, "goesTo", "(II)Z"⟩
abbrev cX7_box : ByteArray := prog_9_method_76_code
def yX7_box : MethodName := ⟨RX7, "box", "(III)I"⟩
abbrev cX7_lay : ByteArray := prog_9_method_77_code
def yX7_lay : MethodName := ⟨RX7, "lay", "(III)I"⟩
abbrev cX7_take : ByteArray := prog_9_method_78_code
def yX7_take : MethodName := ⟨RX7, "take", "(II)I"⟩
abbrev cX7_same : ByteArray := prog_9_method_79_code
def yX7_same : MethodName := ⟨RX7, "same", "(II)I"⟩
abbrev cX7_move : ByteArray := prog_9_method_80_code
def yX7_move : MethodName := ⟨RX7, "move", "(IIIII)I"⟩
abbrev cX7_states : ByteArray := prog_9_method_81_code
def yX7_states : MethodName := ⟨RX7, "states", "(III)I"⟩
abbrev cX7_lose : ByteArray := prog_9_method_82_code
def yX7_lose : MethodName := ⟨RX7, "lose", "(I)I"⟩
abbrev cX7_fault : ByteArray := prog_9_method_83_code
def yX7_fault : MethodName := ⟨RX7, "fault", "()I"⟩
abbrev cX7_manyBoxes : ByteArray := prog_9_method_84_code
def yX7_manyBoxes : MethodName := ⟨RX7, "manyBoxes", "()I"⟩
abbrev cX7_many : ByteArray := prog_9_method_85_code
def yX7_many : MethodName := ⟨RX7, "many", "(I)I"⟩
def RJ6 : String := "java/lang/Integer"
abbrev cJ6_bitCount_0f7a4 : ByteArray := prog_10_method_49_code
def yJ6_bitCount_0f7a4 : MethodName := ⟨RJ6, "bitCount", "(I)I"⟩
def RJ9 : String := "java/lang/Math"
abbrev cJ9_max_7cf53 : ByteArray := prog_11_method_65_code
def yJ9_max_7cf53 : MethodName := ⟨RJ9, "max", "(II)I"⟩
def RL : String := "ClaimChainsLaw"
abbrev cL_law : ByteArray := code
def yL_law : MethodName := ⟨RL, "law", "([I)Z"⟩
def mX0_init : MI := (RX0, yX0_init, cX0_init, 1, none)
def mX0_hasRow : MI := (RX0, yX0_hasRow, cX0_hasRow, 1, (some .boolean))
def mX0_hasPlace : MI := (RX0, yX0_hasPlace, cX0_hasPlace, 2, (some .boolean))
def mX0_hasRange : MI := (RX0, yX0_hasRange, cX0_hasRange, 3, (some .boolean))
def mX0_admits : MI := (RX0, yX0_admits, cX0_admits, 2, (some .boolean))
def mX0_getNewRow : MI := (RX0, yX0_getNewRow, cX0_getNewRow, 4, none)
def mX0_becomeLike : MI := (RX0, yX0_becomeLike, cX0_becomeLike, 3, none)
def mX0_loseRow : MI := (RX0, yX0_loseRow, cX0_loseRow, 1, none)
def mX1_init : MI := (RX1, yX1_init, cX1_init, 3, none)
def mX1_find : MI := (RX1, yX1_find, cX1_find, 2, (some .boolean))
def mX1_isKept : MI := (RX1, yX1_isKept, cX1_isKept, 2, (some .boolean))
def mX1_search : MI := (RX1, yX1_search, cX1_search, 3, (some .boolean))
def mX1_extend : MI := (RX1, yX1_extend, cX1_extend, 8, (some .boolean))
def mX2_init : MI := (RX2, yX2_init, cX2_init, 2, none)
def mX2_forgetAll : MI := (RX2, yX2_forgetAll, cX2_forgetAll, 1, none)
def mX2_goodStates : MI := (RX2, yX2_goodStates, cX2_goodStates, 1, (some .int))
def mX2_threats : MI := (RX2, yX2_threats, cX2_threats, 1, (some .int))
def mX2_weakStates : MI := (RX2, yX2_weakStates, cX2_weakStates, 1, (some .int))
def mX2_fits : MI := (RX2, yX2_fits, cX2_fits, 2, (some .boolean))
def mX2_addIfFitting : MI := (RX2, yX2_addIfFitting, cX2_addIfFitting, 2, (some .int))
def mX2_add : MI := (RX2, yX2_add, cX2_add, 3, (some .int))
def mX2_removeLast : MI := (RX2, yX2_removeLast, cX2_removeLast, 2, (some .int))
def mX2_addByStrengthening : MI := (RX2, yX2_addByStrengthening, cX2_addByStrengthening, 4, (some .int))
def mX2_leastThatCanGo : MI := (RX2, yX2_leastThatCanGo, cX2_leastThatCanGo, 3, (some .int))
def mX2_widestNames : MI := (RX2, yX2_widestNames, cX2_widestNames, 5, (some .int))
def mX2_outside : MI := (RX2, yX2_outside, cX2_outside, 4, (some .int))
def mX3_init : MI := (RX3, yX3_init, cX3_init, 3, none)
def mX3_tellStarts : MI := (RX3, yX3_tellStarts, cX3_tellStarts, 3, (some .int))
def mX3_tellNext : MI := (RX3, yX3_tellNext, cX3_tellNext, 4, (some .int))
def mX3_tellClaim : MI := (RX3, yX3_tellClaim, cX3_tellClaim, 3, (some .int))
def mX3_target : MI := (RX3, yX3_target, cX3_target, 3, (some .int))
def mX3_renewSteps : MI := (RX3, yX3_renewSteps, cX3_renewSteps, 4, none)
def mX3_nextTable : MI := (RX3, yX3_nextTable, cX3_nextTable, 3, (some .long))
def mX3_image : MI := (RX3, yX3_image, cX3_image, 4, (some .int))
def mX3_sources : MI := (RX3, yX3_sources, cX3_sources, 4, (some .int))
def mX3_renewDistances : MI := (RX3, yX3_renewDistances, cX3_renewDistances, 4, none)
def mX3_greatestDistance : MI := (RX3, yX3_greatestDistance, cX3_greatestDistance, 3, (some .int))
def mX3_sumOfDistances : MI := (RX3, yX3_sumOfDistances, cX3_sumOfDistances, 3, (some .int))
def mX3_leastBrokenDistance : MI := (RX3, yX3_leastBrokenDistance, cX3_leastBrokenDistance, 3, (some .int))
def mX3_isClear : MI := (RX3, yX3_isClear, cX3_isClear, 3, (some .boolean))
def mX3_renewWay : MI := (RX3, yX3_renewWay, cX3_renewWay, 3, none)
def mX3_leastRowInto : MI := (RX3, yX3_leastRowInto, cX3_leastRowInto, 4, (some .int))
def mX3_looseInStart : MI := (RX3, yX3_looseInStart, cX3_looseInStart, 4, (some .int))
def mX3_looseInRow : MI := (RX3, yX3_looseInRow, cX3_looseInRow, 4, (some .int))
def mX3_endsBroken : MI := (RX3, yX3_endsBroken, cX3_endsBroken, 7, (some .boolean))
def mX3_coneVariables : MI := (RX3, yX3_coneVariables, cX3_coneVariables, 4, (some .int))
def mX3_inputsOf : MI := (RX3, yX3_inputsOf, cX3_inputsOf, 4, (some .int))
def mX4_init : MI := (RX4, yX4_init, cX4_init, 1, none)
def mX4_has : MI := (RX4, yX4_has, cX4_has, 2, (some .boolean))
def mX4_trueStates : MI := (RX4, yX4_trueStates, cX4_trueStates, 3, (some .int))
def mX4_elderOrNew : MI := (RX4, yX4_elderOrNew, cX4_elderOrNew, 6, (some .int))
def mX4_isJust : MI := (RX4, yX4_isJust, cX4_isJust, 6, (some .boolean))
def mX4_fillLeaf : MI := (RX4, yX4_fillLeaf, cX4_fillLeaf, 3, none)
def mX4_leafTable : MI := (RX4, yX4_leafTable, cX4_leafTable, 2, (some .long))
def mX4_fillFromParts : MI := (RX4, yX4_fillFromParts, cX4_fillFromParts, 2, none)
def mX4_addPart : MI := (RX4, yX4_addPart, cX4_addPart, 3, none)
def mX4_tableOf : MI := (RX4, yX4_tableOf, cX4_tableOf, 2, (some .long))
def mX4_joinedTable : MI := (RX4, yX4_joinedTable, cX4_joinedTable, 7, (some .long))
def mX5_init : MI := (RX5, yX5_init, cX5_init, 2, none)
def mX5_countSafe : MI := (RX5, yX5_countSafe, cX5_countSafe, 4, (some .int))
def mX5_lengthen : MI := (RX5, yX5_lengthen, cX5_lengthen, 3, none)
def mX6_init : MI := (RX6, yX6_init, cX6_init, 2, none)
def mX6_leaf : MI := (RX6, yX6_leaf, cX6_leaf, 3, (some .int))
def mX6_gate : MI := (RX6, yX6_gate, cX6_gate, 4, (some .int))
def mX6_choice : MI := (RX6, yX6_choice, cX6_choice, 4, (some .int))
def mX6_ofTerm : MI := (RX6, yX6_ofTerm, cX6_ofTerm, 3, (some .int))
def mX6_leaves : MI := (RX6, yX6_leaves, cX6_leaves, 2, (some .long))
def mX6_value : MI := (RX6, yX6_value, cX6_value, 4, (some .int))
def mX6_holds : MI := (RX6, yX6_holds, cX6_holds, 3, (some .int))
def mX6_alike : MI := (RX6, yX6_alike, cX6_alike, 3, (some .int))
def mX6_starts : MI := (RX6, yX6_starts, cX6_starts, 2, (some .int))
def mX6_next : MI := (RX6, yX6_next, cX6_next, 3, (some .int))
def mX6_claim : MI := (RX6, yX6_claim, cX6_claim, 2, (some .int))
def mX6_step : MI := (RX6, yX6_step, cX6_step, 3, (some .int))
def mX6_before : MI := (RX6, yX6_before, cX6_before, 2, (some .int))
def mX6_distance : MI := (RX6, yX6_distance, cX6_distance, 2, (some .int))
def mX6_met : MI := (RX6, yX6_met, cX6_met, 2, (some .int))
def mX6_way : MI := (RX6, yX6_way, cX6_way, 3, (some .int))
def mX6_loose : MI := (RX6, yX6_loose, cX6_loose, 2, (some .int))
def mX6_cone : MI := (RX6, yX6_cone, cX6_cone, 3, (some .int))
def mX6_clear : MI := (RX6, yX6_clear, cX6_clear, 2, (some .int))
def mX6_shut : MI := (RX6, yX6_shut, cX6_shut, 2, (some .int))
def mX6_settle : MI := (RX6, yX6_settle, cX6_settle, 3, (some .int))
def mX6_chain : MI := (RX6, yX6_chain, cX6_chain, 5, (some .int))
def mX6_weak : MI := (RX6, yX6_weak, cX6_weak, 2, (some .int))
def mX6_strengthen : MI := (RX6, yX6_strengthen, cX6_strengthen, 1, (some .int))
def mX6_lemma : MI := (RX6, yX6_lemma, cX6_lemma, 2, (some .int))
def mX6_block : MI := (RX6, yX6_block, cX6_block, 6, (some .int))
def mX6_back : MI := (RX6, yX6_back, cX6_back, 1, (some .int))
def mX6_ofLemma : MI := (RX6, yX6_ofLemma, cX6_ofLemma, 3, (some .int))
def mX6_closed : MI := (RX6, yX6_closed, cX6_closed, 2, (some .int))
def mX6_chance : MI := (RX6, yX6_chance, cX6_chance, 4, (some .int))
def mX6_mean : MI := (RX6, yX6_mean, cX6_mean, 2, (some .long))
def mX6_box : MI := (RX6, yX6_box, cX6_box, 4, (some .int))
def mX6_lay : MI := (RX6, yX6_lay, cX6_lay, 5, (some .int))
def mX6_take : MI := (RX6, yX6_take, cX6_take, 4, (some .int))
def mX6_same : MI := (RX6, yX6_same, cX6_same, 4, (some .int))
def mX6_move : MI := (RX6, yX6_move, cX6_move, 10, (some .int))
def mX6_states : MI := (RX6, yX6_states, cX6_states, 9, (some .int))
def mX6_lose : MI := (RX6, yX6_lose, cX6_lose, 2, (some .int))
def mX6_fault : MI := (RX6, yX6_fault, cX6_fault, 1, (some .int))
def mX6_many : MI := (RX6, yX6_many, cX6_many, 2, (some .int))
def mX6_countFilledBoxes : MI := (RX6, yX6_countFilledBoxes, cX6_countFilledBoxes, 3, (some .int))
def mX6_faulted : MI := (RX6, yX6_faulted, cX6_faulted, 2, (some .int))
def mX6_isState : MI := (RX6, yX6_isState, cX6_isState, 1, (some .boolean))
def mX6_isRow : MI := (RX6, yX6_isRow, cX6_isRow, 1, (some .boolean))
def mX6_isBox : MI := (RX6, yX6_isBox, cX6_isBox, 1, (some .boolean))
def mX6_isIn : MI := (RX6, yX6_isIn, cX6_isIn, 2, (some .boolean))
def mX6_bit : MI := (RX6, yX6_bit, cX6_bit, 1, (some .int))
def mX6_leastOf : MI := (RX6, yX6_leastOf, cX6_leastOf, 2, (some .int))
def mX6_nearestBits : MI := (RX6, yX6_nearestBits, cX6_nearestBits, 13, (some .long))
def mX7_init : MI := (RX7, yX7_init, cX7_init, 1, none)
def mX7_fails : MI := (RX7, yX7_fails, cX7_fails, 2, (some .int))
def mX7_within : MI := (RX7, yX7_within, cX7_within, 3, (some .boolean))
def mX7_isIn : MI := (RX7, yX7_isIn, cX7_isIn, 2, (some .int))
def mX7_sizeOf : MI := (RX7, yX7_sizeOf, cX7_sizeOf, 3, (some .int))
def mX7_isTerm : MI := (RX7, yX7_isTerm, cX7_isTerm, 2, (some .boolean))
def mX7_isState : MI := (RX7, yX7_isState, cX7_isState, 1, (some .boolean))
def mX7_isRow : MI := (RX7, yX7_isRow, cX7_isRow, 1, (some .boolean))
def mX7_valueIn : MI := (RX7, yX7_valueIn, cX7_valueIn, 4, (some .int))
def mX7_find : MI := (RX7, yX7_find, cX7_find, 7, (some .int))
def mX7_evaluated : MI := (RX7, yX7_evaluated, cX7_evaluated, 7, (some .int))
def mX7_takes : MI := (RX7, yX7_takes, cX7_takes, 3, none)
def mX7_comes : MI := (RX7, yX7_comes, cX7_comes, 9, (some .int))
def mX7_leaf : MI := (RX7, yX7_leaf, cX7_leaf, 3, (some .int))
def mX7_gate : MI := (RX7, yX7_gate, cX7_gate, 4, (some .int))
def mX7_choice : MI := (RX7, yX7_choice, cX7_choice, 4, (some .int))
def mX7_ofTerm : MI := (RX7, yX7_ofTerm, cX7_ofTerm, 3, (some .int))
def mX7_leaves : MI := (RX7, yX7_leaves, cX7_leaves, 2, (some .long))
def mX7_value : MI := (RX7, yX7_value, cX7_value, 4, (some .int))
def mX7_holdsOf : MI := (RX7, yX7_holdsOf, cX7_holdsOf, 5, (some .int))
def mX7_holds : MI := (RX7, yX7_holds, cX7_holds, 3, (some .int))
def mX7_alike : MI := (RX7, yX7_alike, cX7_alike, 4, (some .int))
def mX7_startSet : MI := (RX7, yX7_startSet, cX7_startSet, 1, (some .int))
def mX7_brokenSet : MI := (RX7, yX7_brokenSet, cX7_brokenSet, 1, (some .int))
def mX7_againstStates : MI := (RX7, yX7_againstStates, cX7_againstStates, 2, (some .int))
def mX7_starts : MI := (RX7, yX7_starts, cX7_starts, 4, (some .int))
def mX7_next : MI := (RX7, yX7_next, cX7_next, 4, (some .int))
def mX7_claim : MI := (RX7, yX7_claim, cX7_claim, 4, (some .int))
def mX7_stepOf : MI := (RX7, yX7_stepOf, cX7_stepOf, 5, (some .int))
def mX7_step : MI := (RX7, yX7_step, cX7_step, 3, (some .int))
def mX7_beforeOf : MI := (RX7, yX7_beforeOf, cX7_beforeOf, 5, (some .int))
def mX7_before : MI := (RX7, yX7_before, cX7_before, 2, (some .int))
def mX7_findFar : MI := (RX7, yX7_findFar, cX7_findFar, 5, none)
def mX7_distance : MI := (RX7, yX7_distance, cX7_distance, 2, (some .int))
def mX7_metSet : MI := (RX7, yX7_metSet, cX7_metSet, 3, (some .int))
def mX7_wayLong : MI := (RX7, yX7_wayLong, cX7_wayLong, 4, (some .int))
def mX7_greatestFar : MI := (RX7, yX7_greatestFar, cX7_greatestFar, 3, (some .int))
def mX7_met : MI := (RX7, yX7_met, cX7_met, 2, (some .int))
def mX7_cameFrom : MI := (RX7, yX7_cameFrom, cX7_cameFrom, 6, (some .int))
def mX7_findWay : MI := (RX7, yX7_findWay, cX7_findWay, 6, none)
def mX7_way : MI := (RX7, yX7_way, cX7_way, 3, (some .int))
def mX7_isStillBroken : MI := (RX7, yX7_isStillBroken, cX7_isStillBroken, 6, (some .boolean))
def mX7_loose : MI := (RX7, yX7_loose, cX7_loose, 7, (some .int))
def mX7_cone : MI := (RX7, yX7_cone, cX7_cone, 7, (some .int))
def mX7_inAll : MI := (RX7, yX7_inAll, cX7_inAll, 3, (some .int))
def mX7_goodSet : MI := (RX7, yX7_goodSet, cX7_goodSet, 1, (some .int))
def mX7_lastSet : MI := (RX7, yX7_lastSet, cX7_lastSet, 1, (some .int))
def mX7_isClear : MI := (RX7, yX7_isClear, cX7_isClear, 3, (some .boolean))
def mX7_clear : MI := (RX7, yX7_clear, cX7_clear, 2, (some .int))
def mX7_isNew : MI := (RX7, yX7_isNew, cX7_isNew, 4, (some .boolean))
def mX7_nextRow : MI := (RX7, yX7_nextRow, cX7_nextRow, 8, (some .int))
def mX7_extend : MI := (RX7, yX7_extend, cX7_extend, 4, (some .boolean))
def mX7_findChain : MI := (RX7, yX7_findChain, cX7_findChain, 4, (some .boolean))
def mX7_shut : MI := (RX7, yX7_shut, cX7_shut, 2, (some .int))
def mX7_settle : MI := (RX7, yX7_settle, cX7_settle, 3, (some .int))
def mX7_chain : MI := (RX7, yX7_chain, cX7_chain, 4, (some .int))
def mX7_weakSet : MI := (RX7, yX7_weakSet, cX7_weakSet, 5, (some .int))
def mX7_weak : MI := (RX7, yX7_weak, cX7_weak, 2, (some .int))
def mX7_isFit : MI := (RX7, yX7_isFit, cX7_isFit, 5, (some .boolean))
def mX7_outside : MI := (RX7, yX7_outside, cX7_outside, 4, (some .int))
def mX7_notes : MI := (RX7, yX7_notes, cX7_notes, 3, (some .int))
def mX7_firstWeak : MI := (RX7, yX7_firstWeak, cX7_firstWeak, 3, (some .int))
def mX7_strengthen : MI := (RX7, yX7_strengthen, cX7_strengthen, 6, (some .int))
def mX7_lemmaBy : MI := (RX7, yX7_lemmaBy, cX7_lemmaBy, 2, (some .int))
def mX7_lemma : MI := (RX7, yX7_lemma, cX7_lemma, 3, (some .int))
def mX7_block : MI := (RX7, yX7_block, cX7_block, 5, (some .int))
def mX7_back : MI := (RX7, yX7_back, cX7_back, 1, (some .int))
def mX7_ofLemma : MI := (RX7, yX7_ofLemma, cX7_ofLemma, 3, (some .int))
def mX7_closed : MI := (RX7, yX7_closed, cX7_closed, 1, (some .int))
def mX7_nearestBits : MI := (RX7, yX7_nearestBits, cX7_nearestBits, 13, (some .long))
def mX7_chance : MI := (RX7, yX7_chance, cX7_chance, 8, (some .int))
def mX7_mean : MI := (RX7, yX7_mean, cX7_mean, 4, (some .long))
def mX7_isBox : MI := (RX7, yX7_isBox, cX7_isBox, 1, (some .boolean))
def mX7_goesTo : MI := (RX7, yX7_goesTo, cX7_goesTo, 3, (some .boolean))
def mX7_box : MI := (RX7, yX7_box, cX7_box, 5, (some .int))
def mX7_lay : MI := (RX7, yX7_lay, cX7_lay, 4, (some .int))
def mX7_take : MI := (RX7, yX7_take, cX7_take, 3, (some .int))
def mX7_same : MI := (RX7, yX7_same, cX7_same, 4, (some .int))
def mX7_move : MI := (RX7, yX7_move, cX7_move, 8, (some .int))
def mX7_states : MI := (RX7, yX7_states, cX7_states, 7, (some .int))
def mX7_lose : MI := (RX7, yX7_lose, cX7_lose, 3, (some .int))
def mX7_fault : MI := (RX7, yX7_fault, cX7_fault, 1, (some .int))
def mX7_manyBoxes : MI := (RX7, yX7_manyBoxes, cX7_manyBoxes, 3, (some .int))
def mX7_many : MI := (RX7, yX7_many, cX7_many, 2, (some .int))
def mJ6_bitCount : MI := (RJ6, yJ6_bitCount_0f7a4, cJ6_bitCount_0f7a4, 1, (some .int))
def mJ9_max : MI := (RJ9, yJ9_max_7cf53, cJ9_max_7cf53, 2, (some .int))
def mL_law : MI := (RL, yL_law, cL_law, 4, (some .boolean))
abbrev vwC : List vw_C := [(RX0, TX0, 3), (RX1, TX1, 10), (RX2, TX2, 5), (RX3, TX3, 15), (RX4, TX4, 10), (RX5, TX5, 3), (RX6, TX6, 8), (RX7, TX7, 30)]
end
section
/-! THE PURE MACHINE: what a walk needs of the world, in pure words. Objects are numbered in the order in which they are made; 'ad' says where each lies. -/
def isNest : Cond → Bool
  | .fieldLinkNest .. => true
  | .methodLinkNest .. => true
  | _ => false
def wsG : List Cond := lw_tbl.filter goodWord
def nwG : List Cond := lw_tbl.filter isNest
theorem inG {w : Cond} (i : Nat) (h : lw_tbl[i]? = some w) (hg : goodWord w = true) : w ∈ wsG := List.mem_filter.mpr ⟨List.mem_of_getElem? h, hg⟩
theorem inN {w : Cond} (i : Nat) (h : lw_tbl[i]? = some w) (hg : isNest w = true) : w ∈ nwG := List.mem_filter.mpr ⟨List.mem_of_getElem? h, hg⟩
theorem goodM {w : Cond} (h : w ∈ wsG) : GoodIn wsG (w :: wsG) := by
  intro x hx
  have hm : x ∈ wsG := by
    rcases List.mem_cons.mp hx with h1 | h1
    · rw [h1]; exact h
    · exact h1
  exact ⟨hm, good_of_word (List.mem_filter.mp hm).2⟩
theorem nw_warm {s U : State} (hW : s.WarmedH U.vm) (h : ∀ w ∈ nwG, va_Nw w s) : ∀ w ∈ nwG, va_Nw w U := by
  intro w hw
  have h1 := (List.mem_filter.mp hw).2
  have h2 := h w hw
  cases w <;> simp only [isNest] at h1 <;> first | (cases h1; done) | exact va_Nw.warmM hW h2 | exact va_Nw.warmF hW h2
abbrev RT : Type := Nat → Nat → Option Nat
abbrev IT : Type := Nat → Nat → Int32
abbrev JT : Type := Nat → Nat → Int64
abbrev LT : Type := List (Nat × Value)
abbrev QT : Type := Option Value → Nat → RT → IT → JT → Prop
def nth {α : Type} (d : α) : List α → Nat → α
  | [], _ => d
  | a :: _, 0 => a
  | _ :: l, n + 1 => nth d l n
def cv (ad : Nat → Nat) : Value → Value
  | .ref o => .ref (ad o)
  | v => v
def cvq (ad : Nat → Nat) (q : Nat × Value) : Nat × Value := (q.1, cv ad q.2)
theorem cv_cat (ad : Nat → Nat) (v : Value) : (cv ad v).category = v.category := by cases v <;> rfl
def up2 {α : Type} (f : Nat → Nat → α) (o k : Nat) (v : α) : Nat → Nat → α := fun a b => if a = o then (if b = k then v else f a b) else f a b
def rs2 {α : Type} (f : Nat → Nat → α) (o : Nat) (v : α) : Nat → Nat → α := fun a b => if a = o then v else f a b
def adU (ad : Nat → Nat) (n q : Nat) : Nat → Nat := fun o => if o = n then q else ad o
/-- the shapes: (class, fields), (100, length) ints, (101, length) longs, (102, length) references -/
def shL : List (Nat × Nat) := [(6, 8), (4, 10), (100, 40), (100, 40), (100, 40), (100, 40), (100, 40), (100, 40), (100, 40), (101, 40), (101, 40), (3, 15), (100, 4), (100, 64), (100, 16), (100, 16), (100, 16), (100, 15), (100, 16), (2, 5), (100, 8), (100, 8), (1, 10), (100, 9), (100, 8), (100, 9), (5, 3), (100, 16), (100, 16), (102, 4), (0, 3), (100, 8), (0, 3), (100, 8), (0, 3), (100, 8), (0, 3), (100, 8), (100, 8), (7, 30), (100, 40), (100, 120), (100, 40), (100, 40), (100, 40), (101, 40), (100, 2560), (100, 4), (100, 16), (100, 17), (100, 16), (100, 8), (100, 8), (100, 9), (100, 9), (100, 64), (100, 16), (100, 16), (100, 4), (100, 4), (100, 32), (100, 8)]
def sh (o : Nat) : Nat × Nat := nth (999, 0) shL o
/-- a field's kind: 1 a reference, 0 an int, 2 a boolean -/
def fkL : List (List Nat) := [[1, 0, 0], [1, 1, 1, 1, 1, 2, 0, 0, 0, 0], [1, 1, 1, 0, 0], [1, 0, 0, 1, 0, 0, 1, 1, 0, 1, 0, 0, 1, 1, 1], [1, 1, 1, 1, 1, 1, 1, 1, 1, 0], [1, 1, 1], [1, 1, 1, 1, 1, 1, 1, 0], [0, 0, 1, 1, 1, 1, 1, 1, 1, 0, 0, 1, 1, 0, 1, 1, 0, 1, 1, 1, 1, 1, 0, 0, 1, 1, 1, 1, 1, 1]]
def fk (ci k : Nat) : Nat := nth 0 (nth [] fkL ci) k
def SZ : Nat → Nat
  | 0 => 0
  | n + 1 => SZ n + (sh n).2
theorem SZ_mono {a b : Nat} (h : a ≤ b) : SZ a ≤ SZ b := by
  induction b with
  | zero => have : a = 0 := by omega
            subst this; exact Nat.le_refl _
  | succ b ih =>
    rcases Nat.lt_or_ge a (b + 1) with h1 | h1
    · have := ih (by omega)
      show SZ a ≤ SZ b + (sh b).2
      omega
    · have : a = b + 1 := by omega
      subst this; exact Nat.le_refl _
abbrev CS : Type := ClassId × ClassId × ClassId
def fv (ad : Nat → Nat) (R : RT) (I : IT) (ci o k : Nat) : Value := if fk ci k = 1 then va_rf ((R o k).map ad) else .int (I o k)
def pcell (cs : CS) (ad : Nat → Nat) (R : RT) (I : IT) (J : JT) (o : Nat) : va_E :=
  if (sh o).1 = 100 then .inl (cs.1, (sh o).2, .inl (I o))
  else if (sh o).1 = 101 then .inl (cs.2.1, (sh o).2, .inr (.inl (J o)))
  else if (sh o).1 = 102 then .inl (cs.2.2, (sh o).2, .inr (.inr (.inr (.inr (fun k => (R o k).map ad)))))
  else .inr ((sh o).1, (List.range (sh o).2).map (fv ad R I (sh o).1 o))
def pws (cs : CS) (ad : Nat → Nat) (n : Nat) (R : RT) (I : IT) (J : JT) : va_W := (List.range n).map (fun o => (ad o, pcell cs ad R I J o))
abbrev tysOf (cs : CS) : List (ClassId × FieldType) := [(cs.1, .int), (cs.2.1, .long), (cs.2.2, .object "ClaimChains$Box")]
theorem pws_at {cs : CS} {ad : Nat → Nat} {n : Nat} {R : RT} {I : IT} {J : JT} {o : Nat} (h : o < n) : (pws cs ad n R I J)[o]? = some (ad o, pcell cs ad R I J o) := by
  unfold pws
  rw [List.getElem?_map, List.getElem?_range h]
  rfl
theorem pws_len {cs : CS} {ad : Nat → Nat} {n : Nat} {R : RT} {I : IT} {J : JT} : (pws cs ad n R I J).length = n := by
  unfold pws; rw [List.length_map, List.length_range]
theorem pws_none {cs : CS} {ad : Nat → Nat} {n : Nat} {R : RT} {I : IT} {J : JT} {o : Nat} (h : n ≤ o) : (pws cs ad n R I J)[o]? = none := by
  rw [List.getElem?_eq_none_iff, pws_len]; exact h
theorem pcell_cg {cs : CS} {ad ad' : Nat → Nat} {R R' : RT} {I I' : IT} {J J' : JT} {o : Nat} (h1 : ∀ k, (R o k).map ad = (R' o k).map ad') (h2 : I o = I' o) (h3 : J o = J' o) : pcell cs ad R I J o = pcell cs ad' R' I' J' o := by
  unfold pcell
  rw [h2, h3]
  rw [show (fun k => (R o k).map ad) = (fun k => (R' o k).map ad') from funext h1]
  rw [show fv ad R I (sh o).1 o = fv ad' R' I' (sh o).1 o from funext fun k => by unfold fv; rw [h1 k, h2]]
theorem pws_set {cs : CS} {ad : Nat → Nat} {n : Nat} {R R' : RT} {I I' : IT} {J J' : JT} {o : Nat} {e : va_E} (ho : o < n) (he : e = pcell cs ad R' I' J' o) (hd : ∀ a, a ≠ o → R a = R' a ∧ I a = I' a ∧ J a = J' a) : (pws cs ad n R I J).set o (ad o, e) = pws cs ad n R' I' J' := by
  apply List.ext_getElem?
  intro i
  rw [List.getElem?_set]
  by_cases hi : i < n
  · rw [pws_at (R := R') hi]
    by_cases hio : o = i
    · subst hio
      rw [if_pos rfl, if_pos (by rw [pws_len]; exact ho), he]
    · rw [if_neg hio, pws_at hi]
      obtain ⟨a1, a2, a3⟩ := hd i (fun h => hio h.symm)
      rw [pcell_cg (R' := R') (I' := I') (J' := J') (ad' := ad) (fun k => by rw [a1]) a2 a3]
  · rw [pws_none (R := R') (Nat.not_lt.mp hi), if_neg (by omega), pws_none (Nat.not_lt.mp hi)]
def RefsOk (n : Nat) (R : RT) : Prop := ∀ o k o', R o k = some o' → o' < n
theorem pws_push {cs : CS} {ad : Nat → Nat} {n q : Nat} {R R' : RT} {I I' : IT} {J J' : JT} (hR : RefsOk n R) (hd : ∀ a, a < n → R a = R' a ∧ I a = I' a ∧ J a = J' a) : pws cs (adU ad n q) (n + 1) R' I' J' = pws cs ad n R I J ++ [(q, pcell cs (adU ad n q) R' I' J' n)] := by
  unfold pws
  rw [List.range_succ, List.map_append]
  congr 1
  · apply List.map_congr_left
    intro o ho
    have ho := List.mem_range.mp ho
    obtain ⟨a1, a2, a3⟩ := hd o ho
    have e1 : adU ad n q o = ad o := by unfold adU; rw [if_neg (by omega)]
    rw [e1]
    rw [pcell_cg (cs := cs) (ad := adU ad n q) (ad' := ad) (R' := R) (I' := I) (J' := J) (fun k => ?_) a2.symm a3.symm]
    rw [← a1]
    cases hk : R o k with
    | none => rfl
    | some o' =>
      have := hR o k o' hk
      show some (adU ad n q o') = some (ad o')
      unfold adU; rw [if_neg (by omega)]
  · show [(adU ad n q n, _)] = _
    unfold adU; rw [if_pos rfl]
/-! the static arrays (numbers 1000 ..) and the script (2000; its length at 2001) -/
def stN (j : Nat) : String := nth "" ["LEAF_NUMBERS", "CONSTANT_TABLES", "VARIABLE_TABLES", "INPUT_TABLES"] j
def stD (j : Nat) : String := nth "" ["[I", "[J", "[J", "[J"] j
def stLen (j : Nat) : Nat := nth 0 [3, 2, 4, 2] j
def stTy (j : Nat) : FieldType := nth .int [.int, .long, .long, .long] j
def stI (k : Nat) : Int32 := nth 0 [2, 4, 2] k
def stJ (j k : Nat) : Int64 := nth 0 (nth [] [[], [0, -1], [-6148914691236517206, -3689348814741910324, -1085102592571150096, -71777214294589696], [-281470681808896, -4294967296]] j) k
def stV (j k : Nat) : Value := if j = 0 then .int (stI k) else .long (stJ j k)
def Stt (A : Nat → Prop) (s : State) (H : Heap) (ad : Nat → Nat) (I : IT) : Prop :=
  (∀ j, j < 4 → va_Z "ClaimChains" (stN j) (stD j) (.ref (ad (1000 + j))) A s H ∧ va_T (stTy j) (ad (1000 + j)) (stLen j) (stV j) A s H) ∧
  ∃ Ls : Nat, Ls < 2 ^ 31 ∧ I 2001 0 = nI Ls ∧ va_X (ad 2000) Ls (I 2000) s H ∧ ad 2000 < H.size ∧ ¬ A (ad 2000)
/-- what holds of the world at a point of a walk that began in s with ad0, n0 -/
def Wd (D : va_G) (cs : CS) (A : Nat → Prop) (s : State) (ad0 : Nat → Nat) (I0 : IT) (n0 : Nat) (ad : Nat → Nat) (n : Nat) (R : RT) (I : IT) (J : JT) (H : Heap) (locs : List Loc) : Prop :=
  va_K D vwC (tysOf cs) s ∧ va_P D vwC (pws cs ad n R I J) H ∧ va_D A (pws cs ad n R I J) ∧ va_S A s.heap H locs ∧ (∀ q, s.heap.size ≤ q → A q) ∧ RefsOk n R ∧ (n0 ≤ n ∧ n ≤ 62) ∧ ((∀ o, o < n0 ∨ n ≤ o → ad o = ad0 o) ∧ I 2000 = I0 2000 ∧ I 2001 = I0 2001) ∧ Stt A s s.heap ad I
abbrev MI.own (M : MI) : String := M.1
abbrev MI.y (M : MI) : MethodName := M.2.1
abbrev MI.bytes (M : MI) : ByteArray := M.2.2.1
abbrev MI.maxL (M : MI) : Nat := M.2.2.2.1
abbrev MI.ret (M : MI) : Option FieldType := M.2.2.2.2
/-- the fixed things of a walk of M, with room for d calls below it -/
def Cx (M : MI) (d : Nat) (p : Program) (Rm : Room) (s : State) (m : MethodId) (args : Array Value) (meth : Method) (c : Code) : Prop :=
  p.tables.exec = Jvm.exec ∧ c.code = MI.bytes M ∧ c.maxLocals = MI.maxL M ∧ s.vm.findClass (MI.own M) = some m.cls ∧ (∀ w ∈ wsG, w.before args s = true) ∧ (∀ w ∈ nwG, va_Nw w s) ∧ va_AO "ClaimChains$Box" s ∧ meth.name = (MI.y M).name ∧ meth.sig.returnType = MI.ret M ∧ meth.locks = false ∧ d ≤ Rm.frames ∧ 80 * d ≤ Rm.locals
def RetAt (M : MI) (pc : Nat) : Option Value → Prop
  | none => decode (MI.bytes M) pc = .ok (.return_, 1) ∧ MI.ret M = none
  | some (.int v) => decode (MI.bytes M) pc = .ok (.ireturn, 1) ∧ ∃ ty, MI.ret M = some ty ∧ narrow ty (.int v) = .int v
  | some (.long _) => decode (MI.bytes M) pc = .ok (.lreturn, 1) ∧ MI.ret M = some .long
  | _ => False
/-- from this point of M the walk comes to M's end, with Q -/
def Ends (M : MI) (d cap pc : Nat) (L : LT) (st : List Value) (n : Nat) (R : RT) (I : IT) (J : JT) (Q : QT) : Prop :=
  ∀ (l : Launch) (p : Program) (e : Env) (Rm : Room) (s : State) (m : MethodId) (args : Array Value) (below : List Frame) (meth : Method) (c : Code) (D : va_G) (cs : CS) (A : Nat → Prop) (ad0 : Nat → Nat) (I0 : IT) (n0 : Nat) (QQ : State → Prop),
    Cx M d p Rm s m args meth c → cap - n0 ≤ Rm.cells → SZ cap - SZ n0 ≤ Rm.slots →
    (∀ (r : Option Value) (n' : Nat) (R' : RT) (I' : IT) (J' : JT) (ad' : Nat → Nat) (H' : Heap) (locs' : List Loc) (pc' : Nat) (ls' : Array Slot), Q r n' R' I' J' → Wd D cs A s ad0 I0 n0 ad' n' R' I' J' H' locs' → RetAt M pc' r →
      W p l e Rm s m args below meth c H' locs' (n' - n0) (SZ n' - SZ n0) QQ (F0 m pc' ls' (r.toList.map (cv ad')))) →
    ∀ (ad : Nat → Nat) (H : Heap) (locs : List Loc) (ls : Array Slot), Wd D cs A s ad0 I0 n0 ad n R I J H locs → lv_has ls (MI.maxL M) (L.map (cvq ad)) →
      W p l e Rm s m args below meth c H locs (n - n0) (SZ n - SZ n0) QQ (F0 m pc ls (st.map (cv ad)))
end
section
/-! OPERATIONS: each says what must hold for K to hold behind the instruction -/
abbrev KT : Type := LT → List Value → Nat → RT → IT → JT → Prop
abbrev OP : Type := LT → List Value → Nat → RT → IT → JT → KT → Prop
def Snd (M : MI) (a : Nat) (f : OP) (b : Nat) : Prop := ∀ (d cap : Nat) (L : LT) (st : List Value) (n : Nat) (R : RT) (I : IT) (J : JT) (Q : QT) (K : KT), (∀ L' st' n' R' I' J', K L' st' n' R' I' J' → Ends M d cap b L' st' n' R' I' J' Q) → f L st n R I J K → Ends M d cap a L st n R I J Q
def sq (f g : OP) : OP := fun L st n R I J K => f L st n R I J (fun L st n R I J => g L st n R I J K)
theorem snd_sq {M : MI} {a b c : Nat} {f g : OP} (h1 : Snd M a f b) (h2 : Snd M b g c) : Snd M a (sq f g) c := by
  intro d cap L st n R I J Q K hK hf
  exact h1 d cap L st n R I J Q _ (fun L' st' n' R' I' J' h => h2 d cap L' st' n' R' I' J' Q K hK h) hf
theorem blk {M : MI} {a b : Nat} {f : OP} (h : Snd M a f b) {d cap : Nat} {L : LT} {st : List Value} {n : Nat} {R : RT} {I : IT} {J : JT} {Q : QT} (hf : f L st n R I J (fun L' st' n' R' I' J' => Ends M d cap b L' st' n' R' I' J' Q)) : Ends M d cap a L st n R I J Q :=
  h d cap L st n R I J Q _ (fun _ _ _ _ _ _ h => h) hf
def findL : LT → Nat → Option Value
  | [], _ => none
  | (j, w) :: r, i => match Nat.beq j i with
    | true => some w
    | false => findL r i
theorem findL_mem {L : LT} {i : Nat} {v : Value} (h : findL L i = some v) : (i, v) ∈ L := by
  induction L with
  | nil => cases h
  | cons q r ih =>
    obtain ⟨j, w⟩ := q
    unfold findL at h
    split at h
    · rename_i hb
      have := Nat.eq_of_beq_eq_true hb
      subst this
      cases h
      exact List.mem_cons_self
    · exact List.mem_cons_of_mem _ (ih h)
theorem nbeq (a b : Nat) : Nat.beq a b = (a == b) := by rw [Bool.eq_iff_iff, beq_iff_eq, Nat.beq_eq]
def isL : Value → Bool
  | .long _ => true
  | .double _ => true
  | _ => false
theorem isL_cat (v : Value) : isL v = (v.category == 2) := by cases v <;> rfl
/-- does a store of so wide a value at i take away what stands at q? -/
def cfl (i : Nat) (lg : Bool) (q : Nat × Value) : Bool := Nat.beq q.1 i || (Nat.beq (q.1 + 1) i && isL q.2) || (lg && Nat.beq q.1 (i + 1))
def rmK (i : Nat) (lg : Bool) : LT → (LT → Prop) → Prop
  | [], k => k []
  | q :: r, k => match cfl i lg q with
    | true => rmK i lg r k
    | false => rmK i lg r (fun L' => k (q :: L'))
def setK (i : Nat) (v : Value) : LT → (LT → Prop) → Prop
  | [], k => k [(i, v)]
  | q :: r, k => match Nat.beq q.1 i with
    | true => rmK i (isL v) r (fun L' => k ((i, v) :: L'))
    | false => match cfl i (isL v) q with
      | true => setK i v r k
      | false => setK i v r (fun L' => k (q :: L'))
theorem rmK_spec {i : Nat} {lg : Bool} : ∀ {L : LT} {k : LT → Prop}, rmK i lg L k → ∃ L', k L' ∧ ∀ q ∈ L', q ∈ L ∧ cfl i lg q = false
  | [], k, h => ⟨[], h, fun _ h => absurd h List.not_mem_nil⟩
  | q :: r, k, h => by
    unfold rmK at h
    split at h
    · obtain ⟨L', h1, h2⟩ := rmK_spec h
      exact ⟨L', h1, fun x hx => ⟨List.mem_cons_of_mem _ (h2 x hx).1, (h2 x hx).2⟩⟩
    · rename_i hc
      obtain ⟨L', h1, h2⟩ := rmK_spec h
      refine ⟨q :: L', h1, fun x hx => ?_⟩
      rcases List.mem_cons.mp hx with h3 | h3
      · rw [h3]; exact ⟨List.mem_cons_self, hc⟩
      · exact ⟨List.mem_cons_of_mem _ (h2 x h3).1, (h2 x h3).2⟩
theorem setK_spec {i : Nat} {v : Value} : ∀ {L : LT} {k : LT → Prop}, setK i v L k → ∃ L', k L' ∧ ∀ q ∈ L', q = (i, v) ∨ (q ∈ L ∧ cfl i (isL v) q = false)
  | [], k, h => ⟨[(i, v)], h, fun q hq => Or.inl (List.mem_singleton.mp hq)⟩
  | q :: r, k, h => by
    unfold setK at h
    split at h
    · obtain ⟨L', h1, h2⟩ := rmK_spec h
      refine ⟨(i, v) :: L', h1, fun x hx => ?_⟩
      rcases List.mem_cons.mp hx with h3 | h3
      · exact Or.inl h3
      · exact Or.inr ⟨List.mem_cons_of_mem _ (h2 x h3).1, (h2 x h3).2⟩
    · split at h
      · obtain ⟨L', h1, h2⟩ := setK_spec h
        refine ⟨L', h1, fun x hx => ?_⟩
        rcases h2 x hx with h3 | h3
        · exact Or.inl h3
        · exact Or.inr ⟨List.mem_cons_of_mem _ h3.1, h3.2⟩
      · rename_i hc
        obtain ⟨L', h1, h2⟩ := setK_spec h
        refine ⟨q :: L', h1, fun x hx => ?_⟩
        rcases List.mem_cons.mp hx with h3 | h3
        · rw [h3]; exact Or.inr ⟨List.mem_cons_self, hc⟩
        · rcases h2 x h3 with h4 | h4
          · exact Or.inl h4
          · exact Or.inr ⟨List.mem_cons_of_mem _ h4.1, h4.2⟩
theorem lv_at2 {ls : Array Slot} {nL : Nat} {L : LT} {ad : Nat → Nat} (h : lv_has ls nL (L.map (cvq ad))) {i : Nat} {v : Value} (hf : findL L i = some v) : ls[i]? = some (.val (cv ad v)) :=
  h.2.2 (i, cv ad v) (List.mem_map.mpr ⟨(i, v), findL_mem hf, rfl⟩)
theorem lv_wk {ls : Array Slot} {nL : Nat} {l l' : LT} (h : lv_has ls nL l) (hs : ∀ q ∈ l', q ∈ l) : lv_has ls nL l' := ⟨h.1, h.2.1, fun q hq => h.2.2 q (hs q hq)⟩
theorem lv_set1 {ls : Array Slot} {nL i : Nat} {L L' : LT} {ad : Nat → Nat} {v w : Value} (hw : w = cv ad v) (hs : ∀ q ∈ L', q = (i, v) ∨ (q ∈ L ∧ cfl i (isL v) q = false)) (h : lv_has ls nL ((i, w) :: (L.map (cvq ad)).filter (fun q => !(q.1 == i) && !(q.1 + 1 == i && q.2.category == 2)))) : lv_has ls nL (L'.map (cvq ad)) := by
  refine lv_wk h fun q hq => ?_
  obtain ⟨q0, h0, rfl⟩ := List.mem_map.mp hq
  rcases hs q0 h0 with h1 | ⟨h1, h2⟩
  · subst h1; subst hw; exact List.mem_cons_self
  · refine List.mem_cons_of_mem _ (List.mem_filter.mpr ⟨List.mem_map.mpr ⟨q0, h1, rfl⟩, ?_⟩)
    simp only [cfl, nbeq, Bool.or_eq_false_iff] at h2
    obtain ⟨⟨h2, h3⟩, -⟩ := h2
    simp only [cvq, cv_cat, ← isL_cat]
    rw [Bool.and_eq_true]
    exact ⟨by rw [Bool.not_eq_true']; exact h2, by rw [Bool.not_eq_true']; exact h3⟩
theorem lv_set2 {ls : Array Slot} {nL i : Nat} {L L' : LT} {ad : Nat → Nat} {v w : Value} (hl : isL v = true) (hw : w = cv ad v) (hs : ∀ q ∈ L', q = (i, v) ∨ (q ∈ L ∧ cfl i (isL v) q = false)) (h : lv_has ls nL ((i, w) :: (L.map (cvq ad)).filter (fun q => !(q.1 == i) && (!(q.1 == i + 1) && !(q.1 + 1 == i && q.2.category == 2))))) : lv_has ls nL (L'.map (cvq ad)) := by
  refine lv_wk h fun q hq => ?_
  obtain ⟨q0, h0, rfl⟩ := List.mem_map.mp hq
  rcases hs q0 h0 with h1 | ⟨h1, h2⟩
  · subst h1; subst hw; exact List.mem_cons_self
  · refine List.mem_cons_of_mem _ (List.mem_filter.mpr ⟨List.mem_map.mpr ⟨q0, h1, rfl⟩, ?_⟩)
    rw [hl] at h2
    simp only [cfl, nbeq, Bool.or_eq_false_iff, Bool.true_and] at h2
    obtain ⟨⟨h2, h3⟩, h4⟩ := h2
    simp only [cvq, cv_cat, ← isL_cat]
    rw [Bool.and_eq_true, Bool.and_eq_true]
    exact ⟨by rw [Bool.not_eq_true']; exact h2, by rw [Bool.not_eq_true']; exact h4, by rw [Bool.not_eq_true']; exact h3⟩
/-- an instruction that touches no heap -/
theorem ends_go {M : MI} {d cap pc pc' : Nat} {L L' : LT} {st st' : List Value} {n : Nat} {R : RT} {I : IT} {J : JT} {Q : QT}
    (h : ∀ (l : Launch) (p : Program) (e : Env) (Rm : Room) (s : State) (m : MethodId) (args : Array Value) (below : List Frame) (meth : Method) (c : Code) (QQ : State → Prop) (H : Heap) (locs : List Loc) (cells slots : Nat) (ls : Array Slot) (ad : Nat → Nat), Cx M d p Rm s m args meth c → lv_has ls (MI.maxL M) (L.map (cvq ad)) →
      (∀ ls' : Array Slot, lv_has ls' (MI.maxL M) (L'.map (cvq ad)) → W p l e Rm s m args below meth c H locs cells slots QQ (F0 m pc' ls' (st'.map (cv ad)))) → W p l e Rm s m args below meth c H locs cells slots QQ (F0 m pc ls (st.map (cv ad))))
    (k : Ends M d cap pc' L' st' n R I J Q) : Ends M d cap pc L st n R I J Q := by
  intro l p e Rm s m args below meth c D cs A ad0 I0 n0 QQ hC hc1 hc2 hr ad H locs ls hW hl
  exact h l p e Rm s m args below meth c QQ H locs _ _ ls ad hC hl (fun ls' hl' => k l p e Rm s m args below meth c D cs A ad0 I0 n0 QQ hC hc1 hc2 hr ad H locs ls' hW hl')
theorem wk {M : MI} {d cap pc : Nat} {L : LT} (L' : LT) {st : List Value} {n : Nat} {R : RT} {I : IT} {J : JT} {Q : QT} (hs : ∀ q ∈ L', q ∈ L) (k : Ends M d cap pc L' st n R I J Q) : Ends M d cap pc L st n R I J Q :=
  ends_go (fun _ _ _ _ _ _ _ _ _ _ _ _ _ _ _ ls ad _ hl kk => kk ls (lv_wk hl (fun q hq => by
    obtain ⟨q0, h0, rfl⟩ := List.mem_map.mp hq
    exact List.mem_map.mpr ⟨q0, hs q0 h0, rfl⟩))) k

def opiadd : OP := fun L st n R I J K => match st with
  | .int y :: .int x :: r => K L (.int (x + y) :: r) n R I J
  | _ => False
theorem snd_iadd {M : MI} {pc : Nat} (hd : decode (MI.bytes M) pc = .ok (.iadd, 1)) : Snd M pc opiadd (pc + 1) := by
  intro d cap L st n R I J Q K hK hf
  unfold opiadd at hf
  split at hf
  · exact ends_go (fun l p e Rm s m args below meth c QQ H locs cells slots ls ad hC hl kk => lv_iadd hC.1 hC.2.1 hd (kk ls hl)) (hK _ _ _ _ _ _ hf)
  · exact hf.elim
def opisub : OP := fun L st n R I J K => match st with
  | .int y :: .int x :: r => K L (.int (x - y) :: r) n R I J
  | _ => False
theorem snd_isub {M : MI} {pc : Nat} (hd : decode (MI.bytes M) pc = .ok (.isub, 1)) : Snd M pc opisub (pc + 1) := by
  intro d cap L st n R I J Q K hK hf
  unfold opisub at hf
  split at hf
  · exact ends_go (fun l p e Rm s m args below meth c QQ H locs cells slots ls ad hC hl kk => lv_isub hC.1 hC.2.1 hd (kk ls hl)) (hK _ _ _ _ _ _ hf)
  · exact hf.elim
def opimul : OP := fun L st n R I J K => match st with
  | .int y :: .int x :: r => K L (.int (x * y) :: r) n R I J
  | _ => False
theorem snd_imul {M : MI} {pc : Nat} (hd : decode (MI.bytes M) pc = .ok (.imul, 1)) : Snd M pc opimul (pc + 1) := by
  intro d cap L st n R I J Q K hK hf
  unfold opimul at hf
  split at hf
  · exact ends_go (fun l p e Rm s m args below meth c QQ H locs cells slots ls ad hC hl kk => lv_imul hC.1 hC.2.1 hd (kk ls hl)) (hK _ _ _ _ _ _ hf)
  · exact hf.elim
def opiand : OP := fun L st n R I J K => match st with
  | .int y :: .int x :: r => K L (.int (x &&& y) :: r) n R I J
  | _ => False
theorem snd_iand {M : MI} {pc : Nat} (hd : decode (MI.bytes M) pc = .ok (.iand, 1)) : Snd M pc opiand (pc + 1) := by
  intro d cap L st n R I J Q K hK hf
  unfold opiand at hf
  split at hf
  · exact ends_go (fun l p e Rm s m args below meth c QQ H locs cells slots ls ad hC hl kk => lv_iand hC.1 hC.2.1 hd (kk ls hl)) (hK _ _ _ _ _ _ hf)
  · exact hf.elim
def opior : OP := fun L st n R I J K => match st with
  | .int y :: .int x :: r => K L (.int (x ||| y) :: r) n R I J
  | _ => False
theorem snd_ior {M : MI} {pc : Nat} (hd : decode (MI.bytes M) pc = .ok (.ior, 1)) : Snd M pc opior (pc + 1) := by
  intro d cap L st n R I J Q K hK hf
  unfold opior at hf
  split at hf
  · exact ends_go (fun l p e Rm s m args below meth c QQ H locs cells slots ls ad hC hl kk => lv_ior hC.1 hC.2.1 hd (kk ls hl)) (hK _ _ _ _ _ _ hf)
  · exact hf.elim
def opixor : OP := fun L st n R I J K => match st with
  | .int y :: .int x :: r => K L (.int (x ^^^ y) :: r) n R I J
  | _ => False
theorem snd_ixor {M : MI} {pc : Nat} (hd : decode (MI.bytes M) pc = .ok (.ixor, 1)) : Snd M pc opixor (pc + 1) := by
  intro d cap L st n R I J Q K hK hf
  unfold opixor at hf
  split at hf
  · exact ends_go (fun l p e Rm s m args below meth c QQ H locs cells slots ls ad hC hl kk => lv_ixor hC.1 hC.2.1 hd (kk ls hl)) (hK _ _ _ _ _ _ hf)
  · exact hf.elim
def opishl : OP := fun L st n R I J K => match st with
  | .int y :: .int x :: r => K L (.int (x <<< (y &&& 31)) :: r) n R I J
  | _ => False
theorem snd_ishl {M : MI} {pc : Nat} (hd : decode (MI.bytes M) pc = .ok (.ishl, 1)) : Snd M pc opishl (pc + 1) := by
  intro d cap L st n R I J Q K hK hf
  unfold opishl at hf
  split at hf
  · exact ends_go (fun l p e Rm s m args below meth c QQ H locs cells slots ls ad hC hl kk => lv_ishl hC.1 hC.2.1 hd (kk ls hl)) (hK _ _ _ _ _ _ hf)
  · exact hf.elim
def opishr : OP := fun L st n R I J K => match st with
  | .int y :: .int x :: r => K L (.int (x >>> (y &&& 31)) :: r) n R I J
  | _ => False
theorem snd_ishr {M : MI} {pc : Nat} (hd : decode (MI.bytes M) pc = .ok (.ishr, 1)) : Snd M pc opishr (pc + 1) := by
  intro d cap L st n R I J Q K hK hf
  unfold opishr at hf
  split at hf
  · exact ends_go (fun l p e Rm s m args below meth c QQ H locs cells slots ls ad hC hl kk => lv_ishr hC.1 hC.2.1 hd (kk ls hl)) (hK _ _ _ _ _ _ hf)
  · exact hf.elim
def opiushr : OP := fun L st n R I J K => match st with
  | .int y :: .int x :: r => K L (.int ((x.toUInt32 >>> (y.toUInt32 &&& Int32.toUInt32 31)).toInt32) :: r) n R I J
  | _ => False
theorem snd_iushr {M : MI} {pc : Nat} (hd : decode (MI.bytes M) pc = .ok (.iushr, 1)) : Snd M pc opiushr (pc + 1) := by
  intro d cap L st n R I J Q K hK hf
  unfold opiushr at hf
  split at hf
  · exact ends_go (fun l p e Rm s m args below meth c QQ H locs cells slots ls ad hC hl kk => lv_iushr hC.1 hC.2.1 hd rfl (kk ls hl)) (hK _ _ _ _ _ _ hf)
  · exact hf.elim
def opladd : OP := fun L st n R I J K => match st with
  | .long y :: .long x :: r => K L (.long (x + y) :: r) n R I J
  | _ => False
theorem snd_ladd {M : MI} {pc : Nat} (hd : decode (MI.bytes M) pc = .ok (.ladd, 1)) : Snd M pc opladd (pc + 1) := by
  intro d cap L st n R I J Q K hK hf
  unfold opladd at hf
  split at hf
  · exact ends_go (fun l p e Rm s m args below meth c QQ H locs cells slots ls ad hC hl kk => lv_ladd hC.1 hC.2.1 hd (kk ls hl)) (hK _ _ _ _ _ _ hf)
  · exact hf.elim
def oplsub : OP := fun L st n R I J K => match st with
  | .long y :: .long x :: r => K L (.long (x - y) :: r) n R I J
  | _ => False
theorem snd_lsub {M : MI} {pc : Nat} (hd : decode (MI.bytes M) pc = .ok (.lsub, 1)) : Snd M pc oplsub (pc + 1) := by
  intro d cap L st n R I J Q K hK hf
  unfold oplsub at hf
  split at hf
  · exact ends_go (fun l p e Rm s m args below meth c QQ H locs cells slots ls ad hC hl kk => lv_lsub hC.1 hC.2.1 hd (kk ls hl)) (hK _ _ _ _ _ _ hf)
  · exact hf.elim
def oplmul : OP := fun L st n R I J K => match st with
  | .long y :: .long x :: r => K L (.long (x * y) :: r) n R I J
  | _ => False
theorem snd_lmul {M : MI} {pc : Nat} (hd : decode (MI.bytes M) pc = .ok (.lmul, 1)) : Snd M pc oplmul (pc + 1) := by
  intro d cap L st n R I J Q K hK hf
  unfold oplmul at hf
  split at hf
  · exact ends_go (fun l p e Rm s m args below meth c QQ H locs cells slots ls ad hC hl kk => lv_lmul hC.1 hC.2.1 hd (kk ls hl)) (hK _ _ _ _ _ _ hf)
  · exact hf.elim
def opland : OP := fun L st n R I J K => match st with
  | .long y :: .long x :: r => K L (.long (x &&& y) :: r) n R I J
  | _ => False
theorem snd_land {M : MI} {pc : Nat} (hd : decode (MI.bytes M) pc = .ok (.land, 1)) : Snd M pc opland (pc + 1) := by
  intro d cap L st n R I J Q K hK hf
  unfold opland at hf
  split at hf
  · exact ends_go (fun l p e Rm s m args below meth c QQ H locs cells slots ls ad hC hl kk => lv_land hC.1 hC.2.1 hd (kk ls hl)) (hK _ _ _ _ _ _ hf)
  · exact hf.elim
def oplor : OP := fun L st n R I J K => match st with
  | .long y :: .long x :: r => K L (.long (x ||| y) :: r) n R I J
  | _ => False
theorem snd_lor {M : MI} {pc : Nat} (hd : decode (MI.bytes M) pc = .ok (.lor, 1)) : Snd M pc oplor (pc + 1) := by
  intro d cap L st n R I J Q K hK hf
  unfold oplor at hf
  split at hf
  · exact ends_go (fun l p e Rm s m args below meth c QQ H locs cells slots ls ad hC hl kk => lv_lor hC.1 hC.2.1 hd (kk ls hl)) (hK _ _ _ _ _ _ hf)
  · exact hf.elim
def oplxor : OP := fun L st n R I J K => match st with
  | .long y :: .long x :: r => K L (.long (x ^^^ y) :: r) n R I J
  | _ => False
theorem snd_lxor {M : MI} {pc : Nat} (hd : decode (MI.bytes M) pc = .ok (.lxor, 1)) : Snd M pc oplxor (pc + 1) := by
  intro d cap L st n R I J Q K hK hf
  unfold oplxor at hf
  split at hf
  · exact ends_go (fun l p e Rm s m args below meth c QQ H locs cells slots ls ad hC hl kk => lv_lxor hC.1 hC.2.1 hd (kk ls hl)) (hK _ _ _ _ _ _ hf)
  · exact hf.elim
def opldiv : OP := fun L st n R I J K => match st with
  | .long y :: .long x :: r => (¬ y = 0) ∧ K L (.long (x / y) :: r) n R I J
  | _ => False
theorem snd_ldiv {M : MI} {pc : Nat} (hd : decode (MI.bytes M) pc = .ok (.ldiv, 1)) : Snd M pc opldiv (pc + 1) := by
  intro d cap L st n R I J Q K hK hf
  unfold opldiv at hf
  split at hf
  · exact ends_go (fun l p e Rm s m args below meth c QQ H locs cells slots ls ad hC hl kk => lv_ldiv hC.1 hC.2.1 hd hf.1 (kk ls hl)) (hK _ _ _ _ _ _ hf.2)
  · exact hf.elim
def oplrem : OP := fun L st n R I J K => match st with
  | .long y :: .long x :: r => (¬ y = 0) ∧ K L (.long (x - x / y * y) :: r) n R I J
  | _ => False
theorem snd_lrem {M : MI} {pc : Nat} (hd : decode (MI.bytes M) pc = .ok (.lrem, 1)) : Snd M pc oplrem (pc + 1) := by
  intro d cap L st n R I J Q K hK hf
  unfold oplrem at hf
  split at hf
  · exact ends_go (fun l p e Rm s m args below meth c QQ H locs cells slots ls ad hC hl kk => lv_lrem hC.1 hC.2.1 hd hf.1 (kk ls hl)) (hK _ _ _ _ _ _ hf.2)
  · exact hf.elim
def oplshl : OP := fun L st n R I J K => match st with
  | .int y :: .long x :: r => K L (.long (x <<< (y.toInt64 &&& 63)) :: r) n R I J
  | _ => False
theorem snd_lshl {M : MI} {pc : Nat} (hd : decode (MI.bytes M) pc = .ok (.lshl, 1)) : Snd M pc oplshl (pc + 1) := by
  intro d cap L st n R I J Q K hK hf
  unfold oplshl at hf
  split at hf
  · exact ends_go (fun l p e Rm s m args below meth c QQ H locs cells slots ls ad hC hl kk => lv_lshl hC.1 hC.2.1 hd rfl (kk ls hl)) (hK _ _ _ _ _ _ hf)
  · exact hf.elim
def oplushr : OP := fun L st n R I J K => match st with
  | .int y :: .long x :: r => K L (.long ((x.toUInt64 >>> (y.toInt64.toUInt64 &&& Int64.toUInt64 63)).toInt64) :: r) n R I J
  | _ => False
theorem snd_lushr {M : MI} {pc : Nat} (hd : decode (MI.bytes M) pc = .ok (.lushr, 1)) : Snd M pc oplushr (pc + 1) := by
  intro d cap L st n R I J Q K hK hf
  unfold oplushr at hf
  split at hf
  · exact ends_go (fun l p e Rm s m args below meth c QQ H locs cells slots ls ad hC hl kk => lv_lushr hC.1 hC.2.1 hd rfl (kk ls hl)) (hK _ _ _ _ _ _ hf)
  · exact hf.elim
def opi2l : OP := fun L st n R I J K => match st with
  | .int x :: r => K L (.long x.toInt64 :: r) n R I J
  | _ => False
theorem snd_i2l {M : MI} {pc : Nat} (hd : decode (MI.bytes M) pc = .ok (.i2l, 1)) : Snd M pc opi2l (pc + 1) := by
  intro d cap L st n R I J Q K hK hf
  unfold opi2l at hf
  split at hf
  · exact ends_go (fun l p e Rm s m args below meth c QQ H locs cells slots ls ad hC hl kk => lv_i2l hC.1 hC.2.1 hd rfl (kk ls hl)) (hK _ _ _ _ _ _ hf)
  · exact hf.elim
def opl2i : OP := fun L st n R I J K => match st with
  | .long x :: r => K L (.int x.toInt32 :: r) n R I J
  | _ => False
theorem snd_l2i {M : MI} {pc : Nat} (hd : decode (MI.bytes M) pc = .ok (.l2i, 1)) : Snd M pc opl2i (pc + 1) := by
  intro d cap L st n R I J Q K hK hf
  unfold opl2i at hf
  split at hf
  · exact ends_go (fun l p e Rm s m args below meth c QQ H locs cells slots ls ad hC hl kk => lv_l2i hC.1 hC.2.1 hd rfl (kk ls hl)) (hK _ _ _ _ _ _ hf)
  · exact hf.elim
def oplcmp : OP := fun L st n R I J K => match st with
  | .long y :: .long x :: r => K L (.int (lg_cmp x y) :: r) n R I J
  | _ => False
theorem snd_lcmp {M : MI} {pc : Nat} (hd : decode (MI.bytes M) pc = .ok (.lcmp, 1)) : Snd M pc oplcmp (pc + 1) := by
  intro d cap L st n R I J Q K hK hf
  unfold oplcmp at hf
  split at hf
  · exact ends_go (fun l p e Rm s m args below meth c QQ H locs cells slots ls ad hC hl kk => W.lcmp hC.1 hC.2.1 hd (kk ls hl)) (hK _ _ _ _ _ _ hf)
  · exact hf.elim
def opCi (v : Int32) : OP := fun L st n R I J K => K L (.int v :: st) n R I J
def opCl (v : Int64) : OP := fun L st n R I J K => K L (.long v :: st) n R I J
theorem snd_iconst {M : MI} {pc : Nat} {k : Int} {v : Int32} (hv : Int32.ofInt k = v) (hd : decode (MI.bytes M) pc = .ok (.iconst k, 1)) : Snd M pc (opCi v) (pc + 1) := by
  intro d cap L st n R I J Q K hK hf
  exact ends_go (fun l p e Rm s m args below meth c QQ H locs cells slots ls ad hC hl kk => lv_iconst hC.1 hC.2.1 hd hv (kk ls hl)) (hK _ _ _ _ _ _ hf)
theorem snd_bipush {M : MI} {pc : Nat} {k : Int} {v : Int32} (hv : (Int8.ofInt k).toInt32 = v) (hd : decode (MI.bytes M) pc = .ok (.bipush k, 2)) : Snd M pc (opCi v) (pc + 2) := by
  intro d cap L st n R I J Q K hK hf
  exact ends_go (fun l p e Rm s m args below meth c QQ H locs cells slots ls ad hC hl kk => lv_bipush hC.1 hC.2.1 hd hv (kk ls hl)) (hK _ _ _ _ _ _ hf)
theorem snd_sipush {M : MI} {pc : Nat} {k : Int} {v : Int32} (hv : (Int16.ofInt k).toInt32 = v) (hd : decode (MI.bytes M) pc = .ok (.sipush k, 3)) : Snd M pc (opCi v) (pc + 3) := by
  intro d cap L st n R I J Q K hK hf
  exact ends_go (fun l p e Rm s m args below meth c QQ H locs cells slots ls ad hC hl kk => lv_sipush hC.1 hC.2.1 hd hv (kk ls hl)) (hK _ _ _ _ _ _ hf)
theorem snd_lconst {M : MI} {pc : Nat} {k : Fin 2} {v : Int64} (hv : Int64.ofNat (k : Nat) = v) (hd : decode (MI.bytes M) pc = .ok (.lconst k, 1)) : Snd M pc (opCl v) (pc + 1) := by
  intro d cap L st n R I J Q K hK hf
  exact ends_go (fun l p e Rm s m args below meth c QQ H locs cells slots ls ad hC hl kk => lv_lconst hC.1 hC.2.1 hd hv (kk ls hl)) (hK _ _ _ _ _ _ hf)
theorem snd_ldc {M : MI} {pc : Nat} {k : Nat} {v : Int32} (hw : Cond.constant (MI.own M) k v ∈ wsG) (hd : decode (MI.bytes M) pc = .ok (.ldc k, 2)) : Snd M pc (opCi v) (pc + 2) := by
  intro d cap L st n R I J Q K hK hf
  exact ends_go (fun l p e Rm s m args below meth c QQ H locs cells slots ls ad hC hl kk => lv_ldc hC.1 hC.2.1 hC.2.2.2.1 (hC.2.2.2.2.1 _ hw) hd (kk ls hl)) (hK _ _ _ _ _ _ hf)
theorem snd_ldcw {M : MI} {pc : Nat} {k : Nat} {v : Int32} (hw : Cond.constant (MI.own M) k v ∈ wsG) (hd : decode (MI.bytes M) pc = .ok (.ldc_w k, 3)) : Snd M pc (opCi v) (pc + 3) := by
  intro d cap L st n R I J Q K hK hf
  exact ends_go (fun l p e Rm s m args below meth c QQ H locs cells slots ls ad hC hl kk => lv_ldcw hC.1 hC.2.1 hC.2.2.2.1 (hC.2.2.2.2.1 _ hw) hd (kk ls hl)) (hK _ _ _ _ _ _ hf)
theorem snd_ldc2 {M : MI} {pc : Nat} {k : Nat} {v : Int64} (hw : Cond.constantLong (MI.own M) k v ∈ wsG) (hd : decode (MI.bytes M) pc = .ok (.ldc2_w k, 3)) : Snd M pc (opCl v) (pc + 3) := by
  intro d cap L st n R I J Q K hK hf
  exact ends_go (fun l p e Rm s m args below meth c QQ H locs cells slots ls ad hC hl kk => lv_ldc2 hC.1 hC.2.1 hC.2.2.2.1 (hC.2.2.2.2.1 _ hw) hd (kk ls hl)) (hK _ _ _ _ _ _ hf)
def opLdI (i : Nat) : OP := fun L st n R I J K => match findL L i with
  | some (.int x) => K L (.int x :: st) n R I J
  | _ => False
theorem snd_iload {M : MI} {pc i : Nat} (hd : decode (MI.bytes M) pc = .ok (.iload i, 2)) : Snd M pc (opLdI i) (pc + 2) := by
  intro d cap L st n R I J Q K hK hf
  unfold opLdI at hf
  split at hf
  · rename_i x hx
    exact ends_go (fun l p e Rm s m args below meth c QQ H locs cells slots ls ad hC hl kk => lv_iload hC.1 hC.2.1 hd (lv_at2 hl hx) (kk ls hl)) (hK _ _ _ _ _ _ hf)
  · exact hf.elim
theorem snd_iload_n {M : MI} {pc i : Nat} {k : Fin 4} (hd : decode (MI.bytes M) pc = .ok (.iload_n k, 1)) (hi : (k : Nat) = i) : Snd M pc (opLdI i) (pc + 1) := by
  intro d cap L st n R I J Q K hK hf
  unfold opLdI at hf
  split at hf
  · rename_i x hx
    exact ends_go (fun l p e Rm s m args below meth c QQ H locs cells slots ls ad hC hl kk => lv_iload_n hC.1 hC.2.1 hd hi (lv_at2 hl hx) (kk ls hl)) (hK _ _ _ _ _ _ hf)
  · exact hf.elim
def opStI (i : Nat) : OP := fun L st n R I J K => match st with
  | .int x :: r => setK i (.int x) L (fun L2 => K L2 r n R I J)
  | _ => False
theorem snd_istore {M : MI} {pc i : Nat} (hd : decode (MI.bytes M) pc = .ok (.istore i, 2)) (hb : i < MI.maxL M) : Snd M pc (opStI i) (pc + 2) := by
  intro d cap L st n R I J Q K hK hf
  unfold opStI at hf
  split at hf
  · obtain ⟨L2, h2, hs⟩ := setK_spec hf
    exact ends_go (fun l p e Rm s m args below meth c QQ H locs cells slots ls ad hC hl kk => lv_istore hC.1 hC.2.1 hd hl hb rfl (fun ls' h' => kk ls' (lv_set1 rfl hs h'))) (hK _ _ _ _ _ _ h2)
  · exact hf.elim
theorem snd_istore_n {M : MI} {pc i : Nat} {k : Fin 4} (hd : decode (MI.bytes M) pc = .ok (.istore_n k, 1)) (hi : (k : Nat) = i) (hb : i < MI.maxL M) : Snd M pc (opStI i) (pc + 1) := by
  intro d cap L st n R I J Q K hK hf
  unfold opStI at hf
  split at hf
  · obtain ⟨L2, h2, hs⟩ := setK_spec hf
    exact ends_go (fun l p e Rm s m args below meth c QQ H locs cells slots ls ad hC hl kk => lv_istore_n hC.1 hC.2.1 hd hi hl hb rfl (fun ls' h' => kk ls' (lv_set1 rfl hs h'))) (hK _ _ _ _ _ _ h2)
  · exact hf.elim
def opLdL (i : Nat) : OP := fun L st n R I J K => match findL L i with
  | some (.long x) => K L (.long x :: st) n R I J
  | _ => False
theorem snd_lload {M : MI} {pc i : Nat} (hd : decode (MI.bytes M) pc = .ok (.lload i, 2)) : Snd M pc (opLdL i) (pc + 2) := by
  intro d cap L st n R I J Q K hK hf
  unfold opLdL at hf
  split at hf
  · rename_i x hx
    exact ends_go (fun l p e Rm s m args below meth c QQ H locs cells slots ls ad hC hl kk => lv_lload hC.1 hC.2.1 hd (lv_at2 hl hx) (kk ls hl)) (hK _ _ _ _ _ _ hf)
  · exact hf.elim
theorem snd_lload_n {M : MI} {pc i : Nat} {k : Fin 4} (hd : decode (MI.bytes M) pc = .ok (.lload_n k, 1)) (hi : (k : Nat) = i) : Snd M pc (opLdL i) (pc + 1) := by
  intro d cap L st n R I J Q K hK hf
  unfold opLdL at hf
  split at hf
  · rename_i x hx
    exact ends_go (fun l p e Rm s m args below meth c QQ H locs cells slots ls ad hC hl kk => lv_lload_n hC.1 hC.2.1 hd hi (lv_at2 hl hx) (kk ls hl)) (hK _ _ _ _ _ _ hf)
  · exact hf.elim
def opStL (i : Nat) : OP := fun L st n R I J K => match st with
  | .long x :: r => setK i (.long x) L (fun L2 => K L2 r n R I J)
  | _ => False
theorem snd_lstore {M : MI} {pc i : Nat} (hd : decode (MI.bytes M) pc = .ok (.lstore i, 2)) (hb : i + 1 < MI.maxL M) : Snd M pc (opStL i) (pc + 2) := by
  intro d cap L st n R I J Q K hK hf
  unfold opStL at hf
  split at hf
  · obtain ⟨L2, h2, hs⟩ := setK_spec hf
    exact ends_go (fun l p e Rm s m args below meth c QQ H locs cells slots ls ad hC hl kk => lv_lstore hC.1 hC.2.1 hd hl hb rfl (fun ls' h' => kk ls' (lv_set2 rfl rfl hs h'))) (hK _ _ _ _ _ _ h2)
  · exact hf.elim
theorem snd_lstore_n {M : MI} {pc i : Nat} {k : Fin 4} (hd : decode (MI.bytes M) pc = .ok (.lstore_n k, 1)) (hi : (k : Nat) = i) (hb : i + 1 < MI.maxL M) : Snd M pc (opStL i) (pc + 1) := by
  intro d cap L st n R I J Q K hK hf
  unfold opStL at hf
  split at hf
  · obtain ⟨L2, h2, hs⟩ := setK_spec hf
    exact ends_go (fun l p e Rm s m args below meth c QQ H locs cells slots ls ad hC hl kk => lv_lstore_n hC.1 hC.2.1 hd hi hl hb rfl (fun ls' h' => kk ls' (lv_set2 rfl rfl hs h'))) (hK _ _ _ _ _ _ h2)
  · exact hf.elim
def opLdA (i : Nat) : OP := fun L st n R I J K => match findL L i with
  | some (.ref x) => K L (.ref x :: st) n R I J
  | _ => False
theorem snd_aload {M : MI} {pc i : Nat} (hd : decode (MI.bytes M) pc = .ok (.aload i, 2)) : Snd M pc (opLdA i) (pc + 2) := by
  intro d cap L st n R I J Q K hK hf
  unfold opLdA at hf
  split at hf
  · rename_i x hx
    exact ends_go (fun l p e Rm s m args below meth c QQ H locs cells slots ls ad hC hl kk => lv_aload hC.1 hC.2.1 hd (lv_at2 hl hx) (kk ls hl)) (hK _ _ _ _ _ _ hf)
  · exact hf.elim
theorem snd_aload_n {M : MI} {pc i : Nat} {k : Fin 4} (hd : decode (MI.bytes M) pc = .ok (.aload_n k, 1)) (hi : (k : Nat) = i) : Snd M pc (opLdA i) (pc + 1) := by
  intro d cap L st n R I J Q K hK hf
  unfold opLdA at hf
  split at hf
  · rename_i x hx
    exact ends_go (fun l p e Rm s m args below meth c QQ H locs cells slots ls ad hC hl kk => lv_aload_n hC.1 hC.2.1 hd hi (lv_at2 hl hx) (kk ls hl)) (hK _ _ _ _ _ _ hf)
  · exact hf.elim
def opStA (i : Nat) : OP := fun L st n R I J K => match st with
  | .ref x :: r => setK i (.ref x) L (fun L2 => K L2 r n R I J)
  | _ => False
theorem snd_astore {M : MI} {pc i : Nat} (hd : decode (MI.bytes M) pc = .ok (.astore i, 2)) (hb : i < MI.maxL M) : Snd M pc (opStA i) (pc + 2) := by
  intro d cap L st n R I J Q K hK hf
  unfold opStA at hf
  split at hf
  · obtain ⟨L2, h2, hs⟩ := setK_spec hf
    exact ends_go (fun l p e Rm s m args below meth c QQ H locs cells slots ls ad hC hl kk => lv_astore hC.1 hC.2.1 hd hl hb rfl (fun ls' h' => kk ls' (lv_set1 rfl hs h'))) (hK _ _ _ _ _ _ h2)
  · exact hf.elim
theorem snd_astore_n {M : MI} {pc i : Nat} {k : Fin 4} (hd : decode (MI.bytes M) pc = .ok (.astore_n k, 1)) (hi : (k : Nat) = i) (hb : i < MI.maxL M) : Snd M pc (opStA i) (pc + 1) := by
  intro d cap L st n R I J Q K hK hf
  unfold opStA at hf
  split at hf
  · obtain ⟨L2, h2, hs⟩ := setK_spec hf
    exact ends_go (fun l p e Rm s m args below meth c QQ H locs cells slots ls ad hC hl kk => lv_astore_n hC.1 hC.2.1 hd hi hl hb rfl (fun ls' h' => kk ls' (lv_set1 rfl hs h'))) (hK _ _ _ _ _ _ h2)
  · exact hf.elim
def opInc (i : Nat) (v : Int32) : OP := fun L st n R I J K => match findL L i with
  | some (.int x) => setK i (.int (x + v)) L (fun L2 => K L2 st n R I J)
  | _ => False
theorem snd_iinc {M : MI} {pc i : Nat} {k : Int} {v : Int32} (hd : decode (MI.bytes M) pc = .ok (.iinc i k, 3)) (hv : Int32.ofInt k = v) (hb : i < MI.maxL M) : Snd M pc (opInc i v) (pc + 3) := by
  intro d cap L st n R I J Q K hK hf
  unfold opInc at hf
  split at hf
  · rename_i x hx
    obtain ⟨L2, h2, hs⟩ := setK_spec hf
    refine ends_go (fun l p e Rm s m args below meth c QQ H locs cells slots ls ad hC hl kk => ?_) (hK _ _ _ _ _ _ h2)
    obtain ⟨j, hj⟩ := List.getElem?_of_mem (List.mem_map.mpr ⟨(i, Value.int x), findL_mem hx, rfl⟩ : cvq ad (i, Value.int x) ∈ L.map (cvq ad))
    exact lv_iinc (k := j) (v := x + v) hC.1 hC.2.1 hd hl hj (by rw [hv]) hb rfl (fun ls' h' => kk ls' (lv_set1 rfl hs h'))
  · exact hf.elim
def opNop : OP := fun L st n R I J K => K L st n R I J
theorem snd_goto {M : MI} {pc tgt : Nat} {off : Int} (hd : decode (MI.bytes M) pc = .ok (.goto off, 3)) (ht : (pc : Int) + off = (tgt : Int)) : Snd M pc opNop tgt := by
  intro d cap L st n R I J Q K hK hf
  exact ends_go (fun l p e Rm s m args below meth c QQ H locs cells slots ls ad hC hl kk => lv_goto hC.1 hC.2.1 hd ht (kk ls hl)) (hK _ _ _ _ _ _ hf)
def opDup : OP := fun L st n R I J K => match st with
  | v :: r => isL v = false ∧ K L (v :: v :: r) n R I J
  | _ => False
theorem snd_dup {M : MI} {pc : Nat} (hd : decode (MI.bytes M) pc = .ok (.dup, 1)) : Snd M pc opDup (pc + 1) := by
  intro d cap L st n R I J Q K hK hf
  unfold opDup at hf
  split at hf
  · rename_i v r
    have hc : v.category = 1 := by rcases lv_cat v with h | h; exact h; (have := hf.1; rw [isL_cat, h] at this; cases this)
    exact ends_go (fun l p e Rm s m args below meth c QQ H locs cells slots ls ad hC hl kk => lv_dup hC.1 hC.2.1 hd (by rw [cv_cat]; exact hc) (kk ls hl)) (hK _ _ _ _ _ _ hf.2)
  · exact hf.elim
def opDup2 : OP := fun L st n R I J K => match st with
  | .int x :: .ref o :: r => K L (.int x :: .ref o :: .int x :: .ref o :: r) n R I J
  | _ => False
theorem snd_dup2 {M : MI} {pc : Nat} (hd : decode (MI.bytes M) pc = .ok (.dup2, 1)) : Snd M pc opDup2 (pc + 1) := by
  intro d cap L st n R I J Q K hK hf
  unfold opDup2 at hf
  split at hf
  · exact ends_go (fun l p e Rm s m args below meth c QQ H locs cells slots ls ad hC hl kk => lv_dup2_11 hC.1 hC.2.1 hd rfl rfl (kk ls hl)) (hK _ _ _ _ _ _ hf)
  · exact hf.elim
def opPop : OP := fun L st n R I J K => match st with
  | .int x :: r => K L r n R I J
  | _ => False
theorem snd_pop {M : MI} {pc : Nat} (hd : decode (MI.bytes M) pc = .ok (.pop, 1)) : Snd M pc opPop (pc + 1) := by
  intro d cap L st n R I J Q K hK hf
  unfold opPop at hf
  split at hf
  · exact ends_go (fun l p e Rm s m args below meth c QQ H locs cells slots ls ad hC hl kk => lv_pop hC.1 hC.2.1 hd rfl (kk ls hl)) (hK _ _ _ _ _ _ hf)
  · exact hf.elim
def Br_if_eq (M : MI) (pc tgt : Nat) : Prop := ∀ {d cap : Nat} {L : LT} {x : Int32} {st : List Value} {n : Nat} {R : RT} {I : IT} {J : JT} {Q : QT}, (x = 0 → Ends M d cap tgt L st n R I J Q) → (¬ x = 0 → Ends M d cap (pc + 3) L st n R I J Q) → Ends M d cap pc L (.int x :: st) n R I J Q
theorem br_if_eq {M : MI} {pc tgt : Nat} {off : Int} (hd : decode (MI.bytes M) pc = .ok (.ifCond .eq off, 3)) (ht : (pc : Int) + off = (tgt : Int)) : Br_if_eq M pc tgt := by
  intro d cap L x st n R I J Q kt kf l p e Rm s m args below meth c D cs A ad0 I0 n0 QQ hC hc1 hc2 hr ad H locs ls hW hl
  exact lv_if_eq hC.1 hC.2.1 hd ht (fun h => kt h l p e Rm s m args below meth c D cs A ad0 I0 n0 QQ hC hc1 hc2 hr ad H locs ls hW hl) (fun h => kf h l p e Rm s m args below meth c D cs A ad0 I0 n0 QQ hC hc1 hc2 hr ad H locs ls hW hl)
def Br_ic_eq (M : MI) (pc tgt : Nat) : Prop := ∀ {d cap : Nat} {L : LT} {x y : Int32} {st : List Value} {n : Nat} {R : RT} {I : IT} {J : JT} {Q : QT}, (x = y → Ends M d cap tgt L st n R I J Q) → (¬ x = y → Ends M d cap (pc + 3) L st n R I J Q) → Ends M d cap pc L (.int y :: .int x :: st) n R I J Q
theorem br_ic_eq {M : MI} {pc tgt : Nat} {off : Int} (hd : decode (MI.bytes M) pc = .ok (.if_icmp .eq off, 3)) (ht : (pc : Int) + off = (tgt : Int)) : Br_ic_eq M pc tgt := by
  intro d cap L x y st n R I J Q kt kf l p e Rm s m args below meth c D cs A ad0 I0 n0 QQ hC hc1 hc2 hr ad H locs ls hW hl
  exact lv_icmp_eq hC.1 hC.2.1 hd ht (fun h => kt h l p e Rm s m args below meth c D cs A ad0 I0 n0 QQ hC hc1 hc2 hr ad H locs ls hW hl) (fun h => kf h l p e Rm s m args below meth c D cs A ad0 I0 n0 QQ hC hc1 hc2 hr ad H locs ls hW hl)
def Br_if_ne (M : MI) (pc tgt : Nat) : Prop := ∀ {d cap : Nat} {L : LT} {x : Int32} {st : List Value} {n : Nat} {R : RT} {I : IT} {J : JT} {Q : QT}, (¬ x = 0 → Ends M d cap tgt L st n R I J Q) → (x = 0 → Ends M d cap (pc + 3) L st n R I J Q) → Ends M d cap pc L (.int x :: st) n R I J Q
theorem br_if_ne {M : MI} {pc tgt : Nat} {off : Int} (hd : decode (MI.bytes M) pc = .ok (.ifCond .ne off, 3)) (ht : (pc : Int) + off = (tgt : Int)) : Br_if_ne M pc tgt := by
  intro d cap L x st n R I J Q kt kf l p e Rm s m args below meth c D cs A ad0 I0 n0 QQ hC hc1 hc2 hr ad H locs ls hW hl
  exact lv_if_ne hC.1 hC.2.1 hd ht (fun h => kt h l p e Rm s m args below meth c D cs A ad0 I0 n0 QQ hC hc1 hc2 hr ad H locs ls hW hl) (fun h => kf h l p e Rm s m args below meth c D cs A ad0 I0 n0 QQ hC hc1 hc2 hr ad H locs ls hW hl)
def Br_ic_ne (M : MI) (pc tgt : Nat) : Prop := ∀ {d cap : Nat} {L : LT} {x y : Int32} {st : List Value} {n : Nat} {R : RT} {I : IT} {J : JT} {Q : QT}, (¬ x = y → Ends M d cap tgt L st n R I J Q) → (x = y → Ends M d cap (pc + 3) L st n R I J Q) → Ends M d cap pc L (.int y :: .int x :: st) n R I J Q
theorem br_ic_ne {M : MI} {pc tgt : Nat} {off : Int} (hd : decode (MI.bytes M) pc = .ok (.if_icmp .ne off, 3)) (ht : (pc : Int) + off = (tgt : Int)) : Br_ic_ne M pc tgt := by
  intro d cap L x y st n R I J Q kt kf l p e Rm s m args below meth c D cs A ad0 I0 n0 QQ hC hc1 hc2 hr ad H locs ls hW hl
  exact lv_icmp_ne hC.1 hC.2.1 hd ht (fun h => kt h l p e Rm s m args below meth c D cs A ad0 I0 n0 QQ hC hc1 hc2 hr ad H locs ls hW hl) (fun h => kf h l p e Rm s m args below meth c D cs A ad0 I0 n0 QQ hC hc1 hc2 hr ad H locs ls hW hl)
def Br_if_lt (M : MI) (pc tgt : Nat) : Prop := ∀ {d cap : Nat} {L : LT} {x : Int32} {st : List Value} {n : Nat} {R : RT} {I : IT} {J : JT} {Q : QT}, (x < 0 → Ends M d cap tgt L st n R I J Q) → (¬ x < 0 → Ends M d cap (pc + 3) L st n R I J Q) → Ends M d cap pc L (.int x :: st) n R I J Q
theorem br_if_lt {M : MI} {pc tgt : Nat} {off : Int} (hd : decode (MI.bytes M) pc = .ok (.ifCond .lt off, 3)) (ht : (pc : Int) + off = (tgt : Int)) : Br_if_lt M pc tgt := by
  intro d cap L x st n R I J Q kt kf l p e Rm s m args below meth c D cs A ad0 I0 n0 QQ hC hc1 hc2 hr ad H locs ls hW hl
  exact lv_if_lt hC.1 hC.2.1 hd ht (fun h => kt h l p e Rm s m args below meth c D cs A ad0 I0 n0 QQ hC hc1 hc2 hr ad H locs ls hW hl) (fun h => kf h l p e Rm s m args below meth c D cs A ad0 I0 n0 QQ hC hc1 hc2 hr ad H locs ls hW hl)
def Br_ic_lt (M : MI) (pc tgt : Nat) : Prop := ∀ {d cap : Nat} {L : LT} {x y : Int32} {st : List Value} {n : Nat} {R : RT} {I : IT} {J : JT} {Q : QT}, (x < y → Ends M d cap tgt L st n R I J Q) → (¬ x < y → Ends M d cap (pc + 3) L st n R I J Q) → Ends M d cap pc L (.int y :: .int x :: st) n R I J Q
theorem br_ic_lt {M : MI} {pc tgt : Nat} {off : Int} (hd : decode (MI.bytes M) pc = .ok (.if_icmp .lt off, 3)) (ht : (pc : Int) + off = (tgt : Int)) : Br_ic_lt M pc tgt := by
  intro d cap L x y st n R I J Q kt kf l p e Rm s m args below meth c D cs A ad0 I0 n0 QQ hC hc1 hc2 hr ad H locs ls hW hl
  exact lv_icmp_lt hC.1 hC.2.1 hd ht (fun h => kt h l p e Rm s m args below meth c D cs A ad0 I0 n0 QQ hC hc1 hc2 hr ad H locs ls hW hl) (fun h => kf h l p e Rm s m args below meth c D cs A ad0 I0 n0 QQ hC hc1 hc2 hr ad H locs ls hW hl)
def Br_if_ge (M : MI) (pc tgt : Nat) : Prop := ∀ {d cap : Nat} {L : LT} {x : Int32} {st : List Value} {n : Nat} {R : RT} {I : IT} {J : JT} {Q : QT}, (0 ≤ x → Ends M d cap tgt L st n R I J Q) → (¬ 0 ≤ x → Ends M d cap (pc + 3) L st n R I J Q) → Ends M d cap pc L (.int x :: st) n R I J Q
theorem br_if_ge {M : MI} {pc tgt : Nat} {off : Int} (hd : decode (MI.bytes M) pc = .ok (.ifCond .ge off, 3)) (ht : (pc : Int) + off = (tgt : Int)) : Br_if_ge M pc tgt := by
  intro d cap L x st n R I J Q kt kf l p e Rm s m args below meth c D cs A ad0 I0 n0 QQ hC hc1 hc2 hr ad H locs ls hW hl
  exact lv_if_ge hC.1 hC.2.1 hd ht (fun h => kt h l p e Rm s m args below meth c D cs A ad0 I0 n0 QQ hC hc1 hc2 hr ad H locs ls hW hl) (fun h => kf h l p e Rm s m args below meth c D cs A ad0 I0 n0 QQ hC hc1 hc2 hr ad H locs ls hW hl)
def Br_ic_ge (M : MI) (pc tgt : Nat) : Prop := ∀ {d cap : Nat} {L : LT} {x y : Int32} {st : List Value} {n : Nat} {R : RT} {I : IT} {J : JT} {Q : QT}, (y ≤ x → Ends M d cap tgt L st n R I J Q) → (¬ y ≤ x → Ends M d cap (pc + 3) L st n R I J Q) → Ends M d cap pc L (.int y :: .int x :: st) n R I J Q
theorem br_ic_ge {M : MI} {pc tgt : Nat} {off : Int} (hd : decode (MI.bytes M) pc = .ok (.if_icmp .ge off, 3)) (ht : (pc : Int) + off = (tgt : Int)) : Br_ic_ge M pc tgt := by
  intro d cap L x y st n R I J Q kt kf l p e Rm s m args below meth c D cs A ad0 I0 n0 QQ hC hc1 hc2 hr ad H locs ls hW hl
  exact lv_icmp_ge hC.1 hC.2.1 hd ht (fun h => kt h l p e Rm s m args below meth c D cs A ad0 I0 n0 QQ hC hc1 hc2 hr ad H locs ls hW hl) (fun h => kf h l p e Rm s m args below meth c D cs A ad0 I0 n0 QQ hC hc1 hc2 hr ad H locs ls hW hl)
def Br_if_gt (M : MI) (pc tgt : Nat) : Prop := ∀ {d cap : Nat} {L : LT} {x : Int32} {st : List Value} {n : Nat} {R : RT} {I : IT} {J : JT} {Q : QT}, (0 < x → Ends M d cap tgt L st n R I J Q) → (¬ 0 < x → Ends M d cap (pc + 3) L st n R I J Q) → Ends M d cap pc L (.int x :: st) n R I J Q
theorem br_if_gt {M : MI} {pc tgt : Nat} {off : Int} (hd : decode (MI.bytes M) pc = .ok (.ifCond .gt off, 3)) (ht : (pc : Int) + off = (tgt : Int)) : Br_if_gt M pc tgt := by
  intro d cap L x st n R I J Q kt kf l p e Rm s m args below meth c D cs A ad0 I0 n0 QQ hC hc1 hc2 hr ad H locs ls hW hl
  exact lv_if_gt hC.1 hC.2.1 hd ht (fun h => kt h l p e Rm s m args below meth c D cs A ad0 I0 n0 QQ hC hc1 hc2 hr ad H locs ls hW hl) (fun h => kf h l p e Rm s m args below meth c D cs A ad0 I0 n0 QQ hC hc1 hc2 hr ad H locs ls hW hl)
def Br_ic_gt (M : MI) (pc tgt : Nat) : Prop := ∀ {d cap : Nat} {L : LT} {x y : Int32} {st : List Value} {n : Nat} {R : RT} {I : IT} {J : JT} {Q : QT}, (y < x → Ends M d cap tgt L st n R I J Q) → (¬ y < x → Ends M d cap (pc + 3) L st n R I J Q) → Ends M d cap pc L (.int y :: .int x :: st) n R I J Q
theorem br_ic_gt {M : MI} {pc tgt : Nat} {off : Int} (hd : decode (MI.bytes M) pc = .ok (.if_icmp .gt off, 3)) (ht : (pc : Int) + off = (tgt : Int)) : Br_ic_gt M pc tgt := by
  intro d cap L x y st n R I J Q kt kf l p e Rm s m args below meth c D cs A ad0 I0 n0 QQ hC hc1 hc2 hr ad H locs ls hW hl
  exact lv_icmp_gt hC.1 hC.2.1 hd ht (fun h => kt h l p e Rm s m args below meth c D cs A ad0 I0 n0 QQ hC hc1 hc2 hr ad H locs ls hW hl) (fun h => kf h l p e Rm s m args below meth c D cs A ad0 I0 n0 QQ hC hc1 hc2 hr ad H locs ls hW hl)
def Br_if_le (M : MI) (pc tgt : Nat) : Prop := ∀ {d cap : Nat} {L : LT} {x : Int32} {st : List Value} {n : Nat} {R : RT} {I : IT} {J : JT} {Q : QT}, (x ≤ 0 → Ends M d cap tgt L st n R I J Q) → (¬ x ≤ 0 → Ends M d cap (pc + 3) L st n R I J Q) → Ends M d cap pc L (.int x :: st) n R I J Q
theorem br_if_le {M : MI} {pc tgt : Nat} {off : Int} (hd : decode (MI.bytes M) pc = .ok (.ifCond .le off, 3)) (ht : (pc : Int) + off = (tgt : Int)) : Br_if_le M pc tgt := by
  intro d cap L x st n R I J Q kt kf l p e Rm s m args below meth c D cs A ad0 I0 n0 QQ hC hc1 hc2 hr ad H locs ls hW hl
  exact lv_if_le hC.1 hC.2.1 hd ht (fun h => kt h l p e Rm s m args below meth c D cs A ad0 I0 n0 QQ hC hc1 hc2 hr ad H locs ls hW hl) (fun h => kf h l p e Rm s m args below meth c D cs A ad0 I0 n0 QQ hC hc1 hc2 hr ad H locs ls hW hl)
def Br_ic_le (M : MI) (pc tgt : Nat) : Prop := ∀ {d cap : Nat} {L : LT} {x y : Int32} {st : List Value} {n : Nat} {R : RT} {I : IT} {J : JT} {Q : QT}, (x ≤ y → Ends M d cap tgt L st n R I J Q) → (¬ x ≤ y → Ends M d cap (pc + 3) L st n R I J Q) → Ends M d cap pc L (.int y :: .int x :: st) n R I J Q
theorem br_ic_le {M : MI} {pc tgt : Nat} {off : Int} (hd : decode (MI.bytes M) pc = .ok (.if_icmp .le off, 3)) (ht : (pc : Int) + off = (tgt : Int)) : Br_ic_le M pc tgt := by
  intro d cap L x y st n R I J Q kt kf l p e Rm s m args below meth c D cs A ad0 I0 n0 QQ hC hc1 hc2 hr ad H locs ls hW hl
  exact lv_icmp_le hC.1 hC.2.1 hd ht (fun h => kt h l p e Rm s m args below meth c D cs A ad0 I0 n0 QQ hC hc1 hc2 hr ad H locs ls hW hl) (fun h => kf h l p e Rm s m args below meth c D cs A ad0 I0 n0 QQ hC hc1 hc2 hr ad H locs ls hW hl)
theorem sw_in {M : MI} {pc tgt len : Nat} {dflt lo hi off : Int} {offs : Array Int} (hd : decode (MI.bytes M) pc = .ok (.tableswitch dflt lo hi offs, len)) {d cap : Nat} {L : LT} {x : Int32} {st : List Value} {n : Nat} {R : RT} {I : IT} {J : JT} {Q : QT} (h1 : ¬ x.toInt < lo) (h2 : ¬ hi < x.toInt) (ho : offs[(x.toInt - lo).toNat]? = some off) (ht : (pc : Int) + off = (tgt : Int)) (k : Ends M d cap tgt L st n R I J Q) : Ends M d cap pc L (.int x :: st) n R I J Q :=
  ends_go (fun l p e Rm s m args below meth c QQ H locs cells slots ls ad hC hl kk => lv_tableIn hC.1 hC.2.1 hd h1 h2 ho ht (kk ls hl)) k
theorem sw_out {M : MI} {pc tgt len : Nat} {dflt lo hi : Int} {offs : Array Int} (hd : decode (MI.bytes M) pc = .ok (.tableswitch dflt lo hi offs, len)) {d cap : Nat} {L : LT} {x : Int32} {st : List Value} {n : Nat} {R : RT} {I : IT} {J : JT} {Q : QT} (h : x.toInt < lo ∨ hi < x.toInt) (ht : (pc : Int) + dflt = (tgt : Int)) (k : Ends M d cap tgt L st n R I J Q) : Ends M d cap pc L (.int x :: st) n R I J Q :=
  ends_go (fun l p e Rm s m args below meth c QQ H locs cells slots ls ad hC hl kk => lv_tableOut hC.1 hC.2.1 hd h ht (kk ls hl)) k
theorem sw_look {M : MI} {pc tgt len : Nat} {dflt off : Int} {ps : Array (Int × Int)} (hd : decode (MI.bytes M) pc = .ok (.lookupswitch dflt ps, len)) (hp : (ps.toList.zip (ps.toList.drop 1)).all (fun (a, next) => a.1 < next.1) = true) {d cap : Nat} {L : LT} {x : Int32} {st : List Value} {n : Nat} {R : RT} {I : IT} {J : JT} {Q : QT} (ho : Op.lookupswitch.offset ps.toList dflt x.toInt = off) (ht : (pc : Int) + off = (tgt : Int)) (k : Ends M d cap tgt L st n R I J Q) : Ends M d cap pc L (.int x :: st) n R I J Q :=
  ends_go (fun l p e Rm s m args below meth c QQ H locs cells slots ls ad hC hl kk => lv_lookup hC.1 hC.2.1 hd hp ho ht (kk ls hl)) k
theorem e_ret {M : MI} {pc : Nat} {d cap : Nat} {L : LT} {st : List Value} {n : Nat} {R : RT} {I : IT} {J : JT} {Q : QT} {r : Option Value} (hs : st = r.toList) (hd : RetAt M pc r) (hq : Q r n R I J) : Ends M d cap pc L st n R I J Q := by
  intro l p e Rm s m args below meth c D cs A ad0 I0 n0 QQ hC hc1 hc2 hr ad H locs ls hW hl
  subst hs
  exact hr r n R I J ad H locs pc ls hq hW hd
theorem e_mono {M : MI} {pc : Nat} {d cap : Nat} {L : LT} {st : List Value} {n : Nat} {R : RT} {I : IT} {J : JT} {Q Q' : QT} (h : Ends M d cap pc L st n R I J Q) (hq : ∀ r n R I J, Q r n R I J → Q' r n R I J) : Ends M d cap pc L st n R I J Q' := by
  intro l p e Rm s m args below meth c D cs A ad0 I0 n0 QQ hC hc1 hc2 hr
  exact h l p e Rm s m args below meth c D cs A ad0 I0 n0 QQ hC hc1 hc2 (fun r n' R' I' J' ad' H' locs' pc' ls' h1 => hr r n' R' I' J' ad' H' locs' pc' ls' (hq _ _ _ _ _ h1))
end
section
/-! HEAP OPERATIONS -/
def shK (o n c : Nat) (k : Nat → Prop) : Prop := match Nat.blt o n with
  | true => match sh o with
    | (c', len) => match Nat.beq c' c with
      | true => k len
      | false => False
  | false => False
theorem shK_spec {o n c : Nat} {k : Nat → Prop} (h : shK o n c k) : o < n ∧ (sh o).1 = c ∧ k (sh o).2 := by
  unfold shK at h
  split at h
  · rename_i h1
    have h1 : o < n := by rw [Nat.blt_eq] at h1; exact h1
    split at h
    rename_i c' len hs
    split at h
    · rename_i h2
      rw [hs]
      exact ⟨h1, Nat.eq_of_beq_eq_true h2, h⟩
    · exact h.elim
  · exact h.elim
theorem pc_int {cs : CS} {ad : Nat → Nat} {R : RT} {I : IT} {J : JT} {o : Nat} (h : (sh o).1 = 100) : pcell cs ad R I J o = .inl (cs.1, (sh o).2, .inl (I o)) := by unfold pcell; rw [if_pos h]
theorem pc_long {cs : CS} {ad : Nat → Nat} {R : RT} {I : IT} {J : JT} {o : Nat} (h : (sh o).1 = 101) : pcell cs ad R I J o = .inl (cs.2.1, (sh o).2, .inr (.inl (J o))) := by unfold pcell; rw [if_neg (by omega), if_pos h]
theorem pc_refs {cs : CS} {ad : Nat → Nat} {R : RT} {I : IT} {J : JT} {o : Nat} (h : (sh o).1 = 102) : pcell cs ad R I J o = .inl (cs.2.2, (sh o).2, .inr (.inr (.inr (.inr (fun k => (R o k).map ad))))) := by unfold pcell; rw [if_neg (by omega), if_neg (by omega), if_pos h]
theorem pc_obj {cs : CS} {ad : Nat → Nat} {R : RT} {I : IT} {J : JT} {o ci : Nat} (h : (sh o).1 = ci) (hc : ci < 100) : pcell cs ad R I J o = .inr (ci, (List.range (sh o).2).map (fv ad R I ci o)) := by unfold pcell; rw [if_neg (by omega), if_neg (by omega), if_neg (by omega), h]
theorem up2_o {α : Type} {f : Nat → Nat → α} {o k : Nat} {v : α} {a : Nat} (h : a ≠ o) : up2 f o k v a = f a := by funext b; unfold up2; rw [if_neg h]
theorem up2_i {f : IT} {o k : Nat} {v : Int32} : up2 f o k v o = upd (f o) k v := by funext b; unfold up2 upd; rw [if_pos rfl]
theorem up2_j {f : JT} {o k : Nat} {v : Int64} : up2 f o k v o = vp_updL (f o) k v := by funext b; unfold up2 vp_updL; rw [if_pos rfl]
/-- the objects of the class table have its number of fields -/
def szOk : Prop := ∀ o, o < 62 → (sh o).1 < 8 → vwC[(sh o).1]?.map (fun q => q.2.2) = some (sh o).2
theorem szOk_all : szOk := by unfold szOk; decide +kernel
theorem sh_out {o : Nat} (h : 62 ≤ o) : sh o = (999, 0) := by
  have key : ∀ (l : List (Nat × Nat)) (k : Nat), l.length ≤ k → nth (999, 0) l k = (999, 0) := by
    intro l
    induction l with
    | nil => intro k _; unfold nth; rfl
    | cons a l ih =>
      intro k hk
      cases k with
      | zero => simp at hk
      | succ k => unfold nth; exact ih k (by simp at hk; omega)
  exact key shL o h
theorem sh_lt {o : Nat} (h : (sh o).1 ≠ 999) : o < 62 := by
  rcases Nat.lt_or_ge o 62 with h1 | h1
  · exact h1
  · exact absurd (by rw [sh_out h1]) h
theorem sh_N {o ci N : Nat} {C : String} {T : u_T} (h : (sh o).1 = ci) (hci : ci < 8) (hc : vwC[ci]? = some (C, T, N)) : (sh o).2 = N := by
  have h1 := szOk_all o (sh_lt (by omega)) (by omega)
  rw [h, hc] at h1
  exact (Option.some.inj h1).symm
theorem Wd.mk2 {D : va_G} {cs : CS} {A : Nat → Prop} {s : State} {ad0 : Nat → Nat} {I0 : IT} {n0 : Nat} {ad : Nat → Nat} {n : Nat} {R R' : RT} {I I' : IT} {J J' : JT} {H H' : Heap} {locs locs' : List Loc} (h : Wd D cs A s ad0 I0 n0 ad n R I J H locs)
    (hP : va_P D vwC (pws cs ad n R' I' J') H') (hD : va_D A (pws cs ad n R' I' J')) (hS : va_S A s.heap H' locs') (hR : RefsOk n R') (h1 : I' 2000 = I 2000) (h2 : I' 2001 = I 2001) : Wd D cs A s ad0 I0 n0 ad n R' I' J' H' locs' := by
  obtain ⟨a1, a2, a3, a4, a5, a6, a7, a8, a9, Ls, b1, b2, b3⟩ := h
  exact ⟨a1, hP, hD, hS, a5, hR, a7, ⟨a8.1, h1.trans a8.2.1, h2.trans a8.2.2⟩, a9, Ls, b1, by rw [h2]; exact b2, by rw [h1]; exact b3⟩
theorem ends_hp {M : MI} {d cap pc pc' : Nat} {L : LT} {st st' : List Value} {n : Nat} {R R' : RT} {I I' : IT} {J J' : JT} {Q : QT}
    (h : ∀ (l : Launch) (p : Program) (e : Env) (Rm : Room) (s : State) (m : MethodId) (args : Array Value) (below : List Frame) (meth : Method) (c : Code) (D : va_G) (cs : CS) (A : Nat → Prop) (ad0 : Nat → Nat) (I0 : IT) (n0 : Nat) (QQ : State → Prop) (cells slots : Nat) (ad : Nat → Nat) (H : Heap) (locs : List Loc) (ls : Array Slot), Cx M d p Rm s m args meth c → Wd D cs A s ad0 I0 n0 ad n R I J H locs →
      (∀ (H' : Heap) (locs' : List Loc), Wd D cs A s ad0 I0 n0 ad n R' I' J' H' locs' → W p l e Rm s m args below meth c H' locs' cells slots QQ (F0 m pc' ls (st'.map (cv ad)))) → W p l e Rm s m args below meth c H locs cells slots QQ (F0 m pc ls (st.map (cv ad))))
    (k : Ends M d cap pc' L st' n R' I' J' Q) : Ends M d cap pc L st n R I J Q := by
  intro l p e Rm s m args below meth c D cs A ad0 I0 n0 QQ hC hc1 hc2 hr ad H locs ls hW hl
  exact h l p e Rm s m args below meth c D cs A ad0 I0 n0 QQ _ _ ad H locs ls hC hW (fun H' locs' hW' => k l p e Rm s m args below meth c D cs A ad0 I0 n0 QQ hC hc1 hc2 hr ad H' locs' ls hW' hl)
theorem fs_at {ad : Nat → Nat} {R : RT} {I : IT} {ci o N k : Nat} (hk : k < N) : ((List.range N).map (fv ad R I ci o))[k]? = some (fv ad R I ci o k) := by
  rw [List.getElem?_map, List.getElem?_range hk]; rfl
def opGetI (ci k : Nat) : OP := fun L st n R I J K => match st with
  | .ref o :: r => shK o n ci (fun _ => K L (.int (I o k) :: r) n R I J)
  | _ => False
def opGetR (ci k : Nat) : OP := fun L st n R I J K => match st with
  | .ref o :: r => shK o n ci (fun _ => match R o k with
    | some o' => K L (.ref o' :: r) n R I J
    | none => False)
  | _ => False
def opPutI (ci k : Nat) : OP := fun L st n R I J K => match st with
  | .int v :: .ref o :: r => shK o n ci (fun _ => K L r n R (up2 I o k v) J)
  | _ => False
def opPutZ (ci k : Nat) : OP := fun L st n R I J K => match st with
  | .int v :: .ref o :: r => shK o n ci (fun _ => (v = 0 ∨ v = 1) ∧ K L r n R (up2 I o k v) J)
  | _ => False
def opPutR (ci k : Nat) : OP := fun L st n R I J K => match st with
  | .ref v :: .ref o :: r => shK o n ci (fun _ => match Nat.blt v n with
    | true => K L r n (up2 R o k (some v)) I J
    | false => False)
  | _ => False
section GET
variable {M : MI} {pc idx ci k N : Nat} {C : String} {T : u_T}
theorem snd_getI (hd : decode (MI.bytes M) pc = .ok (.getfield idx, 3)) (hc : vwC[ci]? = some (C, T, N)) (hci : ci < 8) (hk : k < N) (hf0 : fk ci k ≠ 1) (hin : ∀ w ∈ u_ws C T N, w ∈ wsG) (hl : Cond.fieldLink (MI.own M) idx (T k).1 (T k).2.1 (T k).2.2.1 ∈ wsG) : Snd M pc (opGetI ci k) (pc + 3) := by
  intro d cap L st n R I J Q K hK hf
  unfold opGetI at hf
  split at hf
  · obtain ⟨h1, h2, h3⟩ := shK_spec hf
    refine ends_hp (fun l p e Rm s m args below meth c D cs A ad0 I0 n0 QQ cells slots ad H locs ls hC hW kk => ?_) (hK _ _ _ _ _ _ h3)
    have hN := sh_N h2 hci hc
    refine va_get (D := D) (ci := ci) (k := k) hC.1 hC.2.1 hC.2.2.2.2.1 hin hC.2.2.2.1 hW.1 hW.2.1 _ ((pws_at h1).trans (by rw [pc_obj h2 (by omega)])) hc hk (hC.2.2.2.2.1 _ hl) (fun _ h => h) (v := .int (I _ k)) (by rw [hN, fs_at hk]; unfold fv; rw [if_neg hf0]) hd (kk H locs hW)
  · exact hf.elim
theorem snd_getIN {host : String} (hd : decode (MI.bytes M) pc = .ok (.getfield idx, 3)) (hc : vwC[ci]? = some (C, T, N)) (hci : ci < 8) (hk : k < N) (hf0 : fk ci k ≠ 1) (hin : ∀ w ∈ u_ws C T N, w ∈ wsG) (hl : Cond.fieldLinkNest (MI.own M) idx (T k).1 (T k).2.1 (T k).2.2.1 host ∈ nwG) : Snd M pc (opGetI ci k) (pc + 3) := by
  intro d cap L st n R I J Q K hK hf
  unfold opGetI at hf
  split at hf
  · obtain ⟨h1, h2, h3⟩ := shK_spec hf
    refine ends_hp (fun l p e Rm s m args below meth c D cs A ad0 I0 n0 QQ cells slots ad H locs ls hC hW kk => ?_) (hK _ _ _ _ _ _ h3)
    have hN := sh_N h2 hci hc
    refine va_getN (D := D) (ci := ci) (k := k) hC.1 hC.2.1 hC.2.2.2.2.1 hin hC.2.2.2.1 hW.1 hW.2.1 _ ((pws_at h1).trans (by rw [pc_obj h2 (by omega)])) hc hk (va_Nw.use rfl (hC.2.2.2.2.2.1 _ hl)) (fun _ h => h) (v := .int (I _ k)) (by rw [hN, fs_at hk]; unfold fv; rw [if_neg hf0]) hd (kk H locs hW)
  · exact hf.elim
theorem snd_getR (hd : decode (MI.bytes M) pc = .ok (.getfield idx, 3)) (hc : vwC[ci]? = some (C, T, N)) (hci : ci < 8) (hk : k < N) (hf0 : fk ci k = 1) (hin : ∀ w ∈ u_ws C T N, w ∈ wsG) (hl : Cond.fieldLink (MI.own M) idx (T k).1 (T k).2.1 (T k).2.2.1 ∈ wsG) : Snd M pc (opGetR ci k) (pc + 3) := by
  intro d cap L st n R I J Q K hK hf
  unfold opGetR at hf
  split at hf
  · obtain ⟨h1, h2, h3⟩ := shK_spec hf
    split at h3
    · rename_i o r _ o' ho
      refine ends_hp (fun l p e Rm s m args below meth c D cs A ad0 I0 n0 QQ cells slots ad H locs ls hC hW kk => ?_) (hK _ _ _ _ _ _ h3)
      have hN := sh_N h2 hci hc
      refine va_get (D := D) (ci := ci) (k := k) hC.1 hC.2.1 hC.2.2.2.2.1 hin hC.2.2.2.1 hW.1 hW.2.1 _ ((pws_at h1).trans (by rw [pc_obj h2 (by omega)])) hc hk (hC.2.2.2.2.1 _ hl) (fun _ h => h) (v := .ref (ad o')) (by rw [hN, fs_at hk]; unfold fv; rw [if_pos hf0, ho]; rfl) hd (kk H locs hW)
    · exact h3.elim
  · exact hf.elim
theorem snd_getRN {host : String} (hd : decode (MI.bytes M) pc = .ok (.getfield idx, 3)) (hc : vwC[ci]? = some (C, T, N)) (hci : ci < 8) (hk : k < N) (hf0 : fk ci k = 1) (hin : ∀ w ∈ u_ws C T N, w ∈ wsG) (hl : Cond.fieldLinkNest (MI.own M) idx (T k).1 (T k).2.1 (T k).2.2.1 host ∈ nwG) : Snd M pc (opGetR ci k) (pc + 3) := by
  intro d cap L st n R I J Q K hK hf
  unfold opGetR at hf
  split at hf
  · obtain ⟨h1, h2, h3⟩ := shK_spec hf
    split at h3
    · rename_i o r _ o' ho
      refine ends_hp (fun l p e Rm s m args below meth c D cs A ad0 I0 n0 QQ cells slots ad H locs ls hC hW kk => ?_) (hK _ _ _ _ _ _ h3)
      have hN := sh_N h2 hci hc
      refine va_getN (D := D) (ci := ci) (k := k) hC.1 hC.2.1 hC.2.2.2.2.1 hin hC.2.2.2.1 hW.1 hW.2.1 _ ((pws_at h1).trans (by rw [pc_obj h2 (by omega)])) hc hk (va_Nw.use rfl (hC.2.2.2.2.2.1 _ hl)) (fun _ h => h) (v := .ref (ad o')) (by rw [hN, fs_at hk]; unfold fv; rw [if_pos hf0, ho]; rfl) hd (kk H locs hW)
    · exact h3.elim
  · exact hf.elim
end GET
theorem fs_set {ad : Nat → Nat} {R R' : RT} {I I' : IT} {ci o N k : Nat} {v : Value} (hk : k < N) (hv : fv ad R' I' ci o k = v) (hn : ∀ j, j ≠ k → R o j = R' o j ∧ I o j = I' o j) : ((List.range N).map (fv ad R I ci o)).set k v = (List.range N).map (fv ad R' I' ci o) := by
  apply List.ext_getElem?
  intro i
  rw [List.getElem?_set]
  by_cases hi : i < N
  · by_cases hik : k = i
    · subst hik
      rw [if_pos rfl, if_pos (by simp; exact hk), fs_at hi, hv]
    · rw [if_neg hik, fs_at hi, fs_at hi]
      obtain ⟨a, b⟩ := hn i (fun h => hik h.symm)
      unfold fv
      rw [a, b]
  · have e1 : ((List.range N).map (fv ad R' I' ci o))[i]? = none := by simp; omega
    have e2 : ((List.range N).map (fv ad R I ci o))[i]? = none := by simp; omega
    rw [e1, if_neg (by omega), e2]
theorem up2_k {α : Type} {f : Nat → Nat → α} {o k j : Nat} {v : α} (h : j ≠ k) : up2 f o k v o j = f o j := by unfold up2; rw [if_pos rfl, if_neg h]
theorem up2_s {α : Type} {f : Nat → Nat → α} {o k : Nat} {v : α} : up2 f o k v o k = v := by unfold up2; rw [if_pos rfl, if_pos rfl]
theorem sh_ne {o c k : Nat} (h : (sh o).1 = c) (hc : c ≠ 999) (hk : 62 ≤ k) : k ≠ o := by
  intro e; subst e; rw [sh_out hk] at h; exact hc h.symm
section PUT
variable {M : MI} {pc idx ci k N : Nat} {C : String} {T : u_T} {ty0 : Nat → FieldType}
theorem put_int {s : State} {D : va_G} {cs : CS} {A : Nat → Prop} {ad0 : Nat → Nat} {I0 : IT} {n0 : Nat} {ad : Nat → Nat} {n : Nat} {R : RT} {I : IT} {J : JT} {H : Heap} {locs : List Loc} {o : Nat} {v : Int32} (hci : ci < 8) (hk : k < N) (hf0 : fk ci k ≠ 1) (h1 : o < n) (h2 : (sh o).1 = ci) (hN : (sh o).2 = N) (hW : Wd D cs A s ad0 I0 n0 ad n R I J H locs)
    (H1 : Heap) (locs1 : List Loc) (hP : va_P D vwC ((pws cs ad n R I J).set o (ad o, .inr (ci, ((List.range N).map (fv ad R I ci o)).set k (.int v)))) H1) (hD : va_D A ((pws cs ad n R I J).set o (ad o, .inr (ci, ((List.range N).map (fv ad R I ci o)).set k (.int v))))) (hS : va_S A s.heap H1 locs1) : Wd D cs A s ad0 I0 n0 ad n R (up2 I o k v) J H1 locs1 := by
  have e : (pws cs ad n R I J).set o (ad o, .inr (ci, ((List.range N).map (fv ad R I ci o)).set k (.int v))) = pws cs ad n R (up2 I o k v) J :=
    pws_set h1 (by rw [pc_obj h2 (by omega), hN, fs_set hk (R' := R) (I' := up2 I o k v) (by unfold fv; rw [if_neg hf0, up2_s]) (fun j hj => ⟨rfl, (up2_k hj).symm⟩)]) (fun a ha => ⟨rfl, (up2_o ha).symm, rfl⟩)
  rw [e] at hP hD
  exact hW.mk2 hP hD hS hW.2.2.2.2.2.1 (up2_o (sh_ne h2 (by omega) (by omega))) (up2_o (sh_ne h2 (by omega) (by omega)))
theorem snd_putI (hd : decode (MI.bytes M) pc = .ok (.putfield idx, 3)) (hc : vwC[ci]? = some (C, T, N)) (hci : ci < 8) (hk : k < N) (hf0 : fk ci k ≠ 1) (hin : ∀ w ∈ u_ws C T N, w ∈ wsG) (hty : ∀ k, k < N → parseFieldDescriptor (T k).2.2.1 = some (ty0 k)) (hnm : ∀ a, a < N → ∀ b, b < N → a ≠ b → (T a).2.1 ≠ (T b).2.1) (hfin : (T k).2.2.2 = false) (hdi : parseFieldDescriptor (T k).2.2.1 = some .int) (hl : Cond.fieldLink (MI.own M) idx (T k).1 (T k).2.1 (T k).2.2.1 ∈ wsG) : Snd M pc (opPutI ci k) (pc + 3) := by
  intro d cap L st n R I J Q K hK hf
  unfold opPutI at hf
  split at hf
  · obtain ⟨h1, h2, h3⟩ := shK_spec hf
    refine ends_hp (fun l p e Rm s m args below meth c D cs A ad0 I0 n0 QQ cells slots ad H locs ls hC hW kk => ?_) (hK _ _ _ _ _ _ h3)
    have hN := sh_N h2 hci hc
    refine va_put (D := D) (ci := ci) (k := k) (ty := .int) hC.1 hC.2.1 hC.2.2.2.2.1 hin ty0 hty hnm hC.2.2.2.1 hW.1 hW.2.1 hW.2.2.1 hW.2.2.2.1 _ ((pws_at h1).trans (by rw [pc_obj h2 (by omega), hN])) hc hk (hC.2.2.2.2.1 _ hl) (fun _ h => h) hfin hdi rfl rfl (by simp; exact hk) hd (fun H1 locs1 hP hD hS => kk H1 locs1 (put_int hci hk hf0 h1 h2 hN hW H1 locs1 hP hD hS))
  · exact hf.elim
theorem snd_putIN {host : String} (hd : decode (MI.bytes M) pc = .ok (.putfield idx, 3)) (hc : vwC[ci]? = some (C, T, N)) (hci : ci < 8) (hk : k < N) (hf0 : fk ci k ≠ 1) (hin : ∀ w ∈ u_ws C T N, w ∈ wsG) (hty : ∀ k, k < N → parseFieldDescriptor (T k).2.2.1 = some (ty0 k)) (hnm : ∀ a, a < N → ∀ b, b < N → a ≠ b → (T a).2.1 ≠ (T b).2.1) (hfin : (T k).2.2.2 = false) (hdi : parseFieldDescriptor (T k).2.2.1 = some .int) (hl : Cond.fieldLinkNest (MI.own M) idx (T k).1 (T k).2.1 (T k).2.2.1 host ∈ nwG) : Snd M pc (opPutI ci k) (pc + 3) := by
  intro d cap L st n R I J Q K hK hf
  unfold opPutI at hf
  split at hf
  · obtain ⟨h1, h2, h3⟩ := shK_spec hf
    refine ends_hp (fun l p e Rm s m args below meth c D cs A ad0 I0 n0 QQ cells slots ad H locs ls hC hW kk => ?_) (hK _ _ _ _ _ _ h3)
    have hN := sh_N h2 hci hc
    refine va_putN (D := D) (ci := ci) (k := k) (ty := .int) hC.1 hC.2.1 hC.2.2.2.2.1 hin ty0 hty hnm hC.2.2.2.1 hW.1 hW.2.1 hW.2.2.1 hW.2.2.2.1 _ ((pws_at h1).trans (by rw [pc_obj h2 (by omega), hN])) hc hk (va_Nw.use rfl (hC.2.2.2.2.2.1 _ hl)) (fun _ h => h) hfin hdi rfl rfl (by simp; exact hk) hd (fun H1 locs1 hP hD hS => kk H1 locs1 (put_int hci hk hf0 h1 h2 hN hW H1 locs1 hP hD hS))
  · exact hf.elim
theorem snd_putZ (hd : decode (MI.bytes M) pc = .ok (.putfield idx, 3)) (hc : vwC[ci]? = some (C, T, N)) (hci : ci < 8) (hk : k < N) (hf0 : fk ci k ≠ 1) (hin : ∀ w ∈ u_ws C T N, w ∈ wsG) (hty : ∀ k, k < N → parseFieldDescriptor (T k).2.2.1 = some (ty0 k)) (hnm : ∀ a, a < N → ∀ b, b < N → a ≠ b → (T a).2.1 ≠ (T b).2.1) (hfin : (T k).2.2.2 = false) (hdi : parseFieldDescriptor (T k).2.2.1 = some .boolean) (hl : Cond.fieldLink (MI.own M) idx (T k).1 (T k).2.1 (T k).2.2.1 ∈ wsG) : Snd M pc (opPutZ ci k) (pc + 3) := by
  intro d cap L st n R I J Q K hK hf
  unfold opPutZ at hf
  split at hf
  · obtain ⟨h1, h2, h3, h4⟩ := shK_spec hf
    refine ends_hp (fun l p e Rm s m args below meth c D cs A ad0 I0 n0 QQ cells slots ad H locs ls hC hW kk => ?_) (hK _ _ _ _ _ _ h4)
    have hN := sh_N h2 hci hc
    refine va_put (D := D) (ci := ci) (k := k) (ty := .boolean) hC.1 hC.2.1 hC.2.2.2.2.1 hin ty0 hty hnm hC.2.2.2.1 hW.1 hW.2.1 hW.2.2.1 hW.2.2.2.1 _ ((pws_at h1).trans (by rw [pc_obj h2 (by omega), hN])) hc hk (hC.2.2.2.2.1 _ hl) (fun _ h => h) hfin hdi (by rcases h3 with rfl | rfl <;> rfl) (by rcases h3 with rfl | rfl <;> rfl) (by simp; exact hk) hd (fun H1 locs1 hP hD hS => kk H1 locs1 (put_int hci hk hf0 h1 h2 hN hW H1 locs1 hP hD hS))
  · exact hf.elim
theorem snd_putR (hd : decode (MI.bytes M) pc = .ok (.putfield idx, 3)) (hc : vwC[ci]? = some (C, T, N)) (hci : ci < 8) (hk : k < N) (hf0 : fk ci k = 1) (hin : ∀ w ∈ u_ws C T N, w ∈ wsG) (hty : ∀ k, k < N → parseFieldDescriptor (T k).2.2.1 = some (ty0 k)) (hnm : ∀ a, a < N → ∀ b, b < N → a ≠ b → (T a).2.1 ≠ (T b).2.1) (hfin : (T k).2.2.2 = true) (hini : (MI.y M).name = "<init>") (hdecl : (T k).1 = MI.own M) {ty : FieldType} (hdi : parseFieldDescriptor (T k).2.2.1 = some ty) (hnr : ∀ a, narrow ty (.ref a) = .ref a) (hft : ∀ a, fits ty (.ref a) = true) (hl : Cond.fieldLink (MI.own M) idx (T k).1 (T k).2.1 (T k).2.2.1 ∈ wsG) : Snd M pc (opPutR ci k) (pc + 3) := by
  intro d cap L st n R I J Q K hK hf
  unfold opPutR at hf
  split at hf
  · rename_i v o r
    obtain ⟨h1, h2, h3⟩ := shK_spec hf
    split at h3
    · rename_i hv
      have hv := (Nat.blt_eq).mp hv
      refine ends_hp (fun l p e Rm s m args below meth c D cs A ad0 I0 n0 QQ cells slots ad H locs ls hC hW kk => ?_) (hK _ _ _ _ _ _ h3)
      have hN := sh_N h2 hci hc
      refine va_putF (D := D) (ci := ci) (k := k) (ty := ty) hC.1 hC.2.1 hC.2.2.2.2.1 hin ty0 hty hnm hC.2.2.2.1 hW.1 hW.2.1 hW.2.2.1 hW.2.2.2.1 _ ((pws_at h1).trans (by rw [pc_obj h2 (by omega), hN])) hc hk (hC.2.2.2.2.1 _ hl) (fun _ h => h) hfin (hC.2.2.2.2.2.2.2.1.trans hini) hdecl hdi (hnr _) (hft _) (by simp; exact hk) hd (fun H1 locs1 hP hD hS => kk H1 locs1 ?_)
      have e : (pws cs ad n R I J).set o (ad o, .inr (ci, ((List.range N).map (fv ad R I ci o)).set k (cv ad (.ref v)))) = pws cs ad n (up2 R o k (some v)) I J :=
        pws_set h1 (by rw [pc_obj h2 (by omega), hN, fs_set hk (R' := up2 R o k (some v)) (I' := I) (by unfold fv; rw [if_pos hf0, up2_s]; rfl) (fun j hj => ⟨(up2_k hj).symm, rfl⟩)]) (fun a ha => ⟨(up2_o ha).symm, rfl, rfl⟩)
      rw [e] at hP hD
      refine hW.mk2 hP hD hS (fun a b o' ho => ?_) rfl rfl
      unfold up2 at ho
      split at ho
      · split at ho
        · cases ho; exact hv
        · exact hW.2.2.2.2.2.1 a b o' ho
      · exact hW.2.2.2.2.2.1 a b o' ho
    · exact h3.elim
  · exact hf.elim
end PUT
def opIald : OP := fun L st n R I J K => match st with
  | .int i :: .ref o :: r => shK o n 100 (fun len => vp_in i len ∧ K L (.int (I o i.toNatClampNeg) :: r) n R I J)
  | _ => False
def opLald : OP := fun L st n R I J K => match st with
  | .int i :: .ref o :: r => shK o n 101 (fun len => vp_in i len ∧ K L (.long (J o i.toNatClampNeg) :: r) n R I J)
  | _ => False
def opAald : OP := fun L st n R I J K => match st with
  | .int i :: .ref o :: r => shK o n 102 (fun len => vp_in i len ∧ match R o i.toNatClampNeg with
    | some o' => K L (.ref o' :: r) n R I J
    | none => False)
  | _ => False
def opIast : OP := fun L st n R I J K => match st with
  | .int x :: .int i :: .ref o :: r => shK o n 100 (fun len => vp_in i len ∧ K L r n R (up2 I o i.toNatClampNeg x) J)
  | _ => False
def opLast : OP := fun L st n R I J K => match st with
  | .long x :: .int i :: .ref o :: r => shK o n 101 (fun len => vp_in i len ∧ K L r n R I (up2 J o i.toNatClampNeg x))
  | _ => False
def opAast : OP := fun L st n R I J K => match st with
  | .ref v :: .int i :: .ref o :: r => shK o n 102 (fun len => vp_in i len ∧ shK v n 0 (fun _ => K L r n (up2 R o i.toNatClampNeg (some v)) I J))
  | _ => False
section ARR
variable {M : MI} {pc : Nat}
theorem snd_iald (hd : decode (MI.bytes M) pc = .ok (.iaload, 1)) : Snd M pc opIald (pc + 1) := by
  intro d cap L st n R I J Q K hK hf
  unfold opIald at hf
  split at hf
  · obtain ⟨h1, h2, h3, h4⟩ := shK_spec hf
    exact ends_hp (fun l p e Rm s m args below meth c D cs A ad0 I0 n0 QQ cells slots ad H locs ls hC hW kk => va_iald hC.1 hC.2.1 hW.1 hW.2.1 _ 0 ((pws_at h1).trans (by rw [pc_int h2])) rfl h3 hd (kk H locs hW)) (hK _ _ _ _ _ _ h4)
  · exact hf.elim
theorem snd_lald (hd : decode (MI.bytes M) pc = .ok (.laload, 1)) : Snd M pc opLald (pc + 1) := by
  intro d cap L st n R I J Q K hK hf
  unfold opLald at hf
  split at hf
  · obtain ⟨h1, h2, h3, h4⟩ := shK_spec hf
    exact ends_hp (fun l p e Rm s m args below meth c D cs A ad0 I0 n0 QQ cells slots ad H locs ls hC hW kk => va_lald hC.1 hC.2.1 hW.1 hW.2.1 _ 1 ((pws_at h1).trans (by rw [pc_long h2])) rfl h3 hd (kk H locs hW)) (hK _ _ _ _ _ _ h4)
  · exact hf.elim
theorem snd_aald (hd : decode (MI.bytes M) pc = .ok (.aaload, 1)) : Snd M pc opAald (pc + 1) := by
  intro d cap L st n R I J Q K hK hf
  unfold opAald at hf
  split at hf
  · obtain ⟨h1, h2, h3, h4⟩ := shK_spec hf
    split at h4
    · rename_i o' ho
      refine ends_hp (fun l p e Rm s m args below meth c D cs A ad0 I0 n0 QQ cells slots ad H locs ls hC hW kk => ?_) (hK _ _ _ _ _ _ h4)
      refine va_aldq hC.1 hC.2.1 hW.1 hW.2.1 _ 2 ((pws_at h1).trans (by rw [pc_refs h2])) rfl h3 hd ?_
      have := kk H locs hW
      rw [ho]
      exact this
    · exact h4.elim
  · exact hf.elim
theorem snd_iast (hd : decode (MI.bytes M) pc = .ok (.iastore, 1)) : Snd M pc opIast (pc + 1) := by
  intro d cap L st n R I J Q K hK hf
  unfold opIast at hf
  split at hf
  · obtain ⟨h1, h2, h3, h4⟩ := shK_spec hf
    refine ends_hp (fun l p e Rm s m args below meth c D cs A ad0 I0 n0 QQ cells slots ad H locs ls hC hW kk => va_iast hC.1 hC.2.1 hW.1 hW.2.1 hW.2.2.1 hW.2.2.2.1 _ 0 ((pws_at h1).trans (by rw [pc_int h2])) rfl h3 hd (fun H1 locs1 hP hD hS => kk H1 locs1 ?_)) (hK _ _ _ _ _ _ h4)
    rw [pws_set (R' := R) (I' := up2 I _ _ _) (J' := J) h1 (by rw [pc_int h2, up2_i]) (fun a ha => ⟨rfl, (up2_o ha).symm, rfl⟩)] at hP hD
    exact hW.mk2 hP hD hS hW.2.2.2.2.2.1 (up2_o (sh_ne h2 (by omega) (by omega))) (up2_o (sh_ne h2 (by omega) (by omega)))
  · exact hf.elim
theorem snd_last (hd : decode (MI.bytes M) pc = .ok (.lastore, 1)) : Snd M pc opLast (pc + 1) := by
  intro d cap L st n R I J Q K hK hf
  unfold opLast at hf
  split at hf
  · obtain ⟨h1, h2, h3, h4⟩ := shK_spec hf
    refine ends_hp (fun l p e Rm s m args below meth c D cs A ad0 I0 n0 QQ cells slots ad H locs ls hC hW kk => va_last hC.1 hC.2.1 hW.1 hW.2.1 hW.2.2.1 hW.2.2.2.1 _ 1 ((pws_at h1).trans (by rw [pc_long h2])) rfl h3 hd (fun H1 locs1 hP hD hS => kk H1 locs1 ?_)) (hK _ _ _ _ _ _ h4)
    rw [pws_set (R' := R) (I' := I) (J' := up2 J _ _ _) h1 (by rw [pc_long h2, up2_j]) (fun a ha => ⟨rfl, rfl, (up2_o ha).symm⟩)] at hP hD
    exact hW.mk2 hP hD hS hW.2.2.2.2.2.1 rfl rfl
  · exact hf.elim
theorem snd_aast (hd : decode (MI.bytes M) pc = .ok (.aastore, 1)) : Snd M pc opAast (pc + 1) := by
  intro d cap L st n R I J Q K hK hf
  unfold opAast at hf
  split at hf
  · rename_i v i o r
    obtain ⟨h1, h2, h3, h4⟩ := shK_spec hf
    obtain ⟨h5, h6, h7⟩ := shK_spec h4
    refine ends_hp (fun l p e Rm s m args below meth c D cs A ad0 I0 n0 QQ cells slots ad H locs ls hC hW kk => va_astq (r := (RX0, TX0, 3)) hC.1 hC.2.1 hW.1 hW.2.1 hW.2.2.1 hW.2.2.2.1 _ 2 _ 0 ((pws_at h1).trans (by rw [pc_refs h2])) rfl ((pws_at h5).trans (by rw [pc_obj h6 (by omega)])) rfl h3 hd (fun H1 locs1 hP hD hS => kk H1 locs1 ?_)) (hK _ _ _ _ _ _ h7)
    have e : va_up (fun k => (R o k).map ad) i.toNatClampNeg (some (ad v)) = fun k => (up2 R o i.toNatClampNeg (some v) o k).map ad := by
      funext b
      unfold va_up up2
      rw [if_pos rfl]
      split <;> rfl
    rw [e] at hP hD
    rw [pws_set (R' := up2 R o i.toNatClampNeg (some v)) (I' := I) (J' := J) h1 (by rw [pc_refs h2]) (fun a ha => ⟨(up2_o ha).symm, rfl, rfl⟩)] at hP hD
    refine hW.mk2 hP hD hS (fun a b o' ho => ?_) rfl rfl
    unfold up2 at ho
    split at ho
    · split at ho
      · cases ho; exact h5
      · exact hW.2.2.2.2.2.1 a b o' ho
    · exact hW.2.2.2.2.2.1 a b o' ho
  · exact hf.elim
end ARR
/-! static arrays and the script -/
def opGets (j : Nat) : OP := fun L st n R I J K => K L (.ref (1000 + j) :: st) n R I J
def opIaldS : OP := fun L st n R I J K => match st with
  | .int i :: .ref o :: r => match Nat.beq o 1000 with
    | true => vp_in i 3 ∧ K L (.int (stI i.toNatClampNeg) :: r) n R I J
    | false => False
  | _ => False
def opLaldS (j : Nat) : OP := fun L st n R I J K => match st with
  | .int i :: .ref o :: r => match Nat.beq o (1000 + j) with
    | true => vp_in i (stLen j) ∧ K L (.long (stJ j i.toNatClampNeg) :: r) n R I J
    | false => False
  | _ => False
def opIaldX : OP := fun L st n R I J K => match st with
  | .int i :: .ref o :: r => match Nat.beq o 2000 with
    | true => vp_in i (I 2001 0).toNatClampNeg ∧ K L (.int (I 2000 i.toNatClampNeg) :: r) n R I J
    | false => False
  | _ => False
def opLenX : OP := fun L st n R I J K => match st with
  | .ref o :: r => match Nat.beq o 2000 with
    | true => K L (.int (I 2001 0) :: r) n R I J
    | false => False
  | _ => False
section STA
variable {M : MI} {pc : Nat}
theorem snd_gets {j idx : Nat} (hj : j < 4) (hd : decode (MI.bytes M) pc = .ok (.getstatic idx, 3)) (hl : Cond.fieldLink (MI.own M) idx "ClaimChains" (stN j) (stD j) ∈ wsG) : Snd M pc (opGets j) (pc + 3) := by
  intro d cap L st n R I J Q K hK hf
  exact ends_hp (fun l p e Rm s m args below meth c D cs A ad0 I0 n0 QQ cells slots ad H locs ls hC hW kk => va_gets hC.1 hC.2.1 (hW.2.2.2.2.2.2.2.2.1 j hj).1 hW.2.2.2.1 hC.2.2.2.1 (hC.2.2.2.2.1 _ hl) (fun _ h => h) hd (kk H locs hW)) (hK _ _ _ _ _ _ hf)
theorem snd_getsN {j idx : Nat} {host : String} (hj : j < 4) (hd : decode (MI.bytes M) pc = .ok (.getstatic idx, 3)) (hl : Cond.fieldLinkNest (MI.own M) idx "ClaimChains" (stN j) (stD j) host ∈ nwG) : Snd M pc (opGets j) (pc + 3) := by
  intro d cap L st n R I J Q K hK hf
  exact ends_hp (fun l p e Rm s m args below meth c D cs A ad0 I0 n0 QQ cells slots ad H locs ls hC hW kk => va_getsN hC.1 hC.2.1 (hW.2.2.2.2.2.2.2.2.1 j hj).1 hW.2.2.2.1 hC.2.2.2.1 (va_Nw.use rfl (hC.2.2.2.2.2.1 _ hl)) (fun _ h => h) hd (kk H locs hW)) (hK _ _ _ _ _ _ hf)
theorem snd_ialdS (hd : decode (MI.bytes M) pc = .ok (.iaload, 1)) : Snd M pc opIaldS (pc + 1) := by
  intro d cap L st n R I J Q K hK hf
  unfold opIaldS at hf
  split at hf
  · split at hf
    · rename_i ho
      have ho := Nat.eq_of_beq_eq_true ho
      subst ho
      exact ends_hp (fun l p e Rm s m args below meth c D cs A ad0 I0 n0 QQ cells slots ad H locs ls hC hW kk => va_ti hC.1 hC.2.1 (hW.2.2.2.2.2.2.2.2.1 0 (by omega)).2 hW.2.2.2.1 hf.1 rfl hd (kk H locs hW)) (hK _ _ _ _ _ _ hf.2)
    · exact hf.elim
  · exact hf.elim
theorem snd_laldS {j : Nat} (hj : j < 4) (ht : stTy j = .long) (h0 : j ≠ 0) (hd : decode (MI.bytes M) pc = .ok (.laload, 1)) : Snd M pc (opLaldS j) (pc + 1) := by
  intro d cap L st n R I J Q K hK hf
  unfold opLaldS at hf
  split at hf
  · split at hf
    · rename_i ho
      have ho := Nat.eq_of_beq_eq_true ho
      subst ho
      refine ends_hp (fun l p e Rm s m args below meth c D cs A ad0 I0 n0 QQ cells slots ad H locs ls hC hW kk => ?_) (hK _ _ _ _ _ _ hf.2)
      have hT := (hW.2.2.2.2.2.2.2.2.1 j hj).2
      rw [ht] at hT
      exact va_tl hC.1 hC.2.1 hT hW.2.2.2.1 hf.1 (by unfold stV; rw [if_neg h0]; rfl) hd (kk H locs hW)
    · exact hf.elim
  · exact hf.elim
theorem snd_ialdX (hd : decode (MI.bytes M) pc = .ok (.iaload, 1)) : Snd M pc opIaldX (pc + 1) := by
  intro d cap L st n R I J Q K hK hf
  unfold opIaldX at hf
  split at hf
  · split at hf
    · rename_i ho
      have ho := Nat.eq_of_beq_eq_true ho
      subst ho
      refine ends_hp (fun l p e Rm s m args below meth c D cs A ad0 I0 n0 QQ cells slots ad H locs ls hC hW kk => ?_) (hK _ _ _ _ _ _ hf.2)
      obtain ⟨Ls, b1, b2, b3, b4, b5⟩ := hW.2.2.2.2.2.2.2.2.2
      have hin := hf.1
      rw [b2, nI_clamp b1] at hin
      exact va_sld hC.1 hC.2.1 b3 b4 b5 hW.2.2.2.1 hin hd (kk H locs hW)
    · exact hf.elim
  · exact hf.elim
theorem snd_lenX (hd : decode (MI.bytes M) pc = .ok (.arraylength, 1)) : Snd M pc opLenX (pc + 1) := by
  intro d cap L st n R I J Q K hK hf
  unfold opLenX at hf
  split at hf
  · split at hf
    · rename_i ho
      have ho := Nat.eq_of_beq_eq_true ho
      subst ho
      refine ends_hp (fun l p e Rm s m args below meth c D cs A ad0 I0 n0 QQ cells slots ad H locs ls hC hW kk => ?_) (hK _ _ _ _ _ _ hf)
      obtain ⟨Ls, b1, b2, b3, b4, b5⟩ := hW.2.2.2.2.2.2.2.2.2
      have := kk H locs hW
      rw [b2] at this
      exact va_slen hC.1 hC.2.1 b3 b4 b5 hW.2.2.2.1 hd this
    · exact hf.elim
  · exact hf.elim
end STA
end
section
/-! MAKING objects and arrays -/
def okV (a b : Nat) : Value → Bool
  | .ref o => Nat.blt o a || Nat.ble b o
  | _ => true
theorem cv_ok {a b : Nat} {ad ad' : Nat → Nat} (h : ∀ o, o < a ∨ b ≤ o → ad' o = ad o) {v : Value} (hv : okV a b v = true) : cv ad' v = cv ad v := by
  cases v with
  | ref o =>
    simp only [okV, Bool.or_eq_true] at hv
    show Value.ref (ad' o) = Value.ref (ad o)
    rw [h o]
    rcases hv with hv | hv
    · exact Or.inl ((Nat.blt_eq).mp hv)
    · exact Or.inr (Nat.le_of_ble_eq_true hv)
  | _ => rfl
theorem cvs_ok {a b : Nat} {ad ad' : Nat → Nat} (h : ∀ o, o < a ∨ b ≤ o → ad' o = ad o) {st : List Value} (hv : st.all (okV a b) = true) : st.map (cv ad') = st.map (cv ad) :=
  List.map_congr_left fun v hm => cv_ok h (List.all_eq_true.mp hv v hm)
theorem cvl_ok {a b : Nat} {ad ad' : Nat → Nat} (h : ∀ o, o < a ∨ b ≤ o → ad' o = ad o) {L : LT} (hv : L.all (fun q => okV a b q.2) = true) : L.map (cvq ad') = L.map (cvq ad) :=
  List.map_congr_left fun q hm => by unfold cvq; rw [cv_ok h (List.all_eq_true.mp hv q hm)]
theorem rs2_o {α : Type} {f : Nat → Nat → α} {o : Nat} {v : α} {a : Nat} (h : a ≠ o) : rs2 f o v a = f a := by funext b; unfold rs2; rw [if_neg h]
theorem rs2_s {α : Type} {f : Nat → Nat → α} {o : Nat} {v : α} : rs2 f o v o = fun _ => v := by funext b; unfold rs2; rw [if_pos rfl]
theorem adU_o {ad : Nat → Nat} {n q : Nat} : ∀ o, o < n ∨ n + 1 ≤ o → adU ad n q o = ad o := fun o h => by unfold adU; rw [if_neg (by omega)]
theorem Wd.push {D : va_G} {cs : CS} {A : Nat → Prop} {s : State} {ad0 : Nat → Nat} {I0 : IT} {n0 : Nat} {ad : Nat → Nat} {n : Nat} {R : RT} {I : IT} {J : JT} {H H' : Heap} {locs : List Loc} {q : Nat} (h : Wd D cs A s ad0 I0 n0 ad n R I J H locs) (hn : n < 62)
    (hP : va_P D vwC (pws cs ad n R I J ++ [(q, pcell cs (adU ad n q) (rs2 R n none) (rs2 I n 0) (rs2 J n 0) n)]) H') (hD : va_D A (pws cs ad n R I J ++ [(q, pcell cs (adU ad n q) (rs2 R n none) (rs2 I n 0) (rs2 J n 0) n)])) (hS : va_S A s.heap H' locs) :
    Wd D cs A s ad0 I0 n0 (adU ad n q) (n + 1) (rs2 R n none) (rs2 I n 0) (rs2 J n 0) H' locs := by
  obtain ⟨a1, a2, a3, a4, a5, a6, a7, a8, a9, Ls, b1, b2, b3⟩ := h
  rw [← pws_push (cs := cs) (ad := ad) (q := q) (R' := rs2 R n none) (I' := rs2 I n 0) (J' := rs2 J n 0) a6 (fun a ha => ⟨(rs2_o (by omega)).symm, (rs2_o (by omega)).symm, (rs2_o (by omega)).symm⟩)] at hP hD
  refine ⟨a1, hP, hD, hS, a5, fun o k o' ho => ?_, ⟨by omega, by omega⟩, ⟨fun o ho => ?_, ?_, ?_⟩, fun j hj => ?_, Ls, b1, ?_, ?_⟩
  · unfold rs2 at ho
    split at ho
    · cases ho
    · have := a6 o k o' ho; omega
  · rw [adU_o o (by omega)]
    exact a8.1 o (by omega)
  · rw [rs2_o (by omega)]; exact a8.2.1
  · rw [rs2_o (by omega)]; exact a8.2.2
  · rw [adU_o (1000 + j) (by omega)]; exact a9 j hj
  · rw [rs2_o (by omega)]; exact b2
  · rw [rs2_o (by omega), adU_o 2000 (by omega)]; exact b3
theorem rc_cells {n n0 cap c : Nat} (h0 : n0 ≤ n) (hc : cap - n0 ≤ c) (h : n < cap) : n - n0 + 1 ≤ c := by omega
theorem rc_slots {n n0 cap c N : Nat} (h0 : n0 ≤ n) (hc : SZ cap - SZ n0 ≤ c) (h : n < cap) (hN : (sh n).2 = N) : SZ n - SZ n0 + N ≤ c := by
  have h1 : SZ (n + 1) ≤ SZ cap := SZ_mono h
  have h2 : SZ (n + 1) = SZ n + N := by show SZ n + (sh n).2 = _; rw [hN]
  have h3 := SZ_mono h0
  omega
theorem rc_eq {n n0 N : Nat} (h0 : n0 ≤ n) (hN : (sh n).2 = N) : n - n0 + 1 = n + 1 - n0 ∧ SZ n - SZ n0 + N = SZ (n + 1) - SZ n0 := by
  have h2 : SZ (n + 1) = SZ n + N := by show SZ n + (sh n).2 = _; rw [hN]
  have h3 := SZ_mono h0
  omega
theorem e_new {M : MI} {pc idx ci N : Nat} {C : String} {T : u_T} {ty0 : Nat → FieldType} (hd : decode (MI.bytes M) pc = .ok (.new idx, 3)) (hc : vwC[ci]? = some (C, T, N)) (hci : ci < 8) (hin : ∀ w ∈ u_ws C T N, w ∈ wsG) (hty : ∀ k, k < N → parseFieldDescriptor (T k).2.2.1 = some (ty0 k)) (hcl : Cond.classLink (MI.own M) idx C ∈ wsG) (hinst : Cond.instantiable C N ∈ wsG) (hini : Cond.initialized C ∈ wsG)
    (hdef : ∀ j, j < N → defaultValue (ty0 j) = if fk ci j = 1 then Value.null else .int 0) {d cap : Nat} {L : LT} {st : List Value} {n : Nat} {R : RT} {I : IT} {J : JT} {Q : QT} (hsh : sh n = (ci, N)) (hcap : n < cap) (h1 : st.all (okV n (n + 1)) = true) (h2 : L.all (fun q => okV n (n + 1) q.2) = true)
    (k : Ends M d cap (pc + 3) L (.ref n :: st) (n + 1) (rs2 R n none) (rs2 I n 0) (rs2 J n 0) Q) : Ends M d cap pc L st n R I J Q := by
  intro l p e Rm s m args below meth c D cs A ad0 I0 n0 QQ hC hc1 hc2 hr ad H locs ls hW hl
  have hn0 : n0 ≤ n := hW.2.2.2.2.2.2.1.1
  have hn62 : n < 62 := sh_lt (by rw [hsh]; show ci ≠ 999; omega)
  have hN : (sh n).2 = N := by rw [hsh]
  refine va_new (D := D) (ci := ci) (fs := (List.range N).map (fv ad (rs2 R n none) (rs2 I n 0) ci n)) hC.1 hC.2.1 hC.2.2.2.2.1 hin ty0 hty hC.2.2.2.1 (hC.2.2.2.2.1 _ hcl) (hC.2.2.2.2.1 _ hinst) (hC.2.2.2.2.1 _ hini) hW.1 hW.2.1 hW.2.2.1 hW.2.2.2.1 hW.2.2.2.2.1 hc (fun j hj => ?_) (rc_cells hn0 hc1 hcap) (rc_slots hn0 hc2 hcap hN) hd (fun q H1 hP hD hS => ?_)
  · unfold vp_V
    rw [List.getD_eq_getElem?_getD, fs_at hj, hdef j hj]
    unfold fv
    rw [rs2_s, rs2_s]
    split <;> rfl
  · have e1 : pcell cs (adU ad n q) (rs2 R n none) (rs2 I n 0) (rs2 J n 0) n = .inr (ci, (List.range N).map (fv ad (rs2 R n none) (rs2 I n 0) ci n)) := by
      rw [pc_obj (by rw [hsh]) (by omega), hN]
      congr 2
      apply List.map_congr_left
      intro j _
      unfold fv
      rw [rs2_s, rs2_s]
      rfl
    rw [← e1] at hP hD
    have := k l p e Rm s m args below meth c D cs A ad0 I0 n0 QQ hC hc1 hc2 hr (adU ad n q) H1 locs ls (hW.push hn62 hP hD hS) (by rw [cvl_ok adU_o h2]; exact hl)
    rw [← (rc_eq hn0 hN).1, ← (rc_eq hn0 hN).2] at this
    have e2 : (Value.ref n :: st).map (cv (adU ad n q)) = Value.ref q :: st.map (cv ad) := by
      rw [List.map_cons, cvs_ok adU_o h1]
      show Value.ref (adU ad n q n) :: _ = _
      unfold adU
      rw [if_pos rfl]
    rw [e2] at this
    exact this
theorem cA_of {s : State} {cl : List vw_C} {D : va_G} {tys : List (ClassId × FieldType)} {c1 c2 : ClassId} {ty : FieldType} (hp : ∀ C, ty ≠ .object C) (hK : va_K D cl (tys ++ [(c2, ty)]) s) (k : Nat) (hk : tys[k]? = some (c1, ty)) : c2 = c1 := by
  have h1 := (hK.2 k (c1, ty) (by rw [List.getElem?_append_left (List.getElem?_eq_some_iff.mp hk).1]; exact hk)).2
  have h2 := (hK.2 tys.length (c2, ty) (by simp)).2
  unfold va_RA at h1 h2
  cases ty with
  | object C => exact absurd rfl (hp C)
  | _ => exact Option.some.inj (h2.symm.trans h1)
theorem cA_ofO {s : State} {cl : List vw_C} {D : va_G} {tys : List (ClassId × FieldType)} {c1 c2 : ClassId} {C : String} (hK : va_K D cl (tys ++ [(c2, .object C)]) s) (k : Nat) (hk : tys[k]? = some (c1, .object C)) : c2 = c1 := by
  obtain ⟨_, _, _, _, _, h1⟩ := (hK.2 k (c1, .object C) (by rw [List.getElem?_append_left (List.getElem?_eq_some_iff.mp hk).1]; exact hk)).2
  obtain ⟨_, _, _, _, _, h2⟩ := (hK.2 tys.length (c2, .object C) (by simp)).2
  exact Option.some.inj (h2.symm.trans h1)
theorem arr_end {M : MI} {pc : Nat} {d cap : Nat} {L : LT} {st : List Value} {n len : Nat} {R : RT} {I : IT} {J : JT} {Q : QT} {kd : Nat} (hkd : kd ≠ 999) (hsh : sh n = (kd, len)) (h1 : st.all (okV n (n + 1)) = true) (h2 : L.all (fun q => okV n (n + 1) q.2) = true) (k : Ends M d cap pc L (.ref n :: st) (n + 1) (rs2 R n none) (rs2 I n 0) (rs2 J n 0) Q)
    (l : Launch) (p : Program) (e : Env) (Rm : Room) (s : State) (m : MethodId) (args : Array Value) (below : List Frame) (meth : Method) (c : Code) (D : va_G) (cs : CS) (A : Nat → Prop) (ad0 : Nat → Nat) (I0 : IT) (n0 : Nat) (QQ : State → Prop) (hC : Cx M d p Rm s m args meth c) (hc1 : cap - n0 ≤ Rm.cells) (hc2 : SZ cap - SZ n0 ≤ Rm.slots)
    (hr : ∀ (r : Option Value) (n' : Nat) (R' : RT) (I' : IT) (J' : JT) (ad' : Nat → Nat) (H' : Heap) (locs' : List Loc) (pc' : Nat) (ls' : Array Slot), Q r n' R' I' J' → Wd D cs A s ad0 I0 n0 ad' n' R' I' J' H' locs' → RetAt M pc' r → W p l e Rm s m args below meth c H' locs' (n' - n0) (SZ n' - SZ n0) QQ (F0 m pc' ls' (r.toList.map (cv ad'))))
    (ad : Nat → Nat) (H : Heap) (locs : List Loc) (ls : Array Slot) (hW : Wd D cs A s ad0 I0 n0 ad n R I J H locs) (hl : lv_has ls (MI.maxL M) (L.map (cvq ad))) (q : Nat) (H1 : Heap) (x : va_E) (hx : pcell cs (adU ad n q) (rs2 R n none) (rs2 I n 0) (rs2 J n 0) n = x)
    (hP : va_P D vwC (pws cs ad n R I J ++ [(q, x)]) H1) (hD : va_D A (pws cs ad n R I J ++ [(q, x)])) (hS : va_S A s.heap H1 locs) : W p l e Rm s m args below meth c H1 locs (n - n0 + 1) (SZ n - SZ n0 + len) QQ (F0 m pc ls (.ref q :: st.map (cv ad))) := by
  have hn0 : n0 ≤ n := hW.2.2.2.2.2.2.1.1
  have hn62 : n < 62 := sh_lt (by rw [hsh]; exact hkd)
  have hN : (sh n).2 = len := by rw [hsh]
  rw [← hx] at hP hD
  have := k l p e Rm s m args below meth c D cs A ad0 I0 n0 QQ hC hc1 hc2 hr (adU ad n q) H1 locs ls (hW.push hn62 hP hD hS) (by rw [cvl_ok adU_o h2]; exact hl)
  rw [← (rc_eq hn0 hN).1, ← (rc_eq hn0 hN).2] at this
  have e2 : (Value.ref n :: st).map (cv (adU ad n q)) = Value.ref q :: st.map (cv ad) := by
    rw [List.map_cons, cvs_ok adU_o h1]
    show Value.ref (adU ad n q n) :: _ = _
    unfold adU
    rw [if_pos rfl]
  rw [e2] at this
  exact this
theorem e_newI {M : MI} {pc : Nat} (hd : decode (MI.bytes M) pc = .ok (.newarray .int, 2)) (hw : Cond.arrayClass .int ∈ wsG) {d cap : Nat} {L : LT} {st : List Value} {n len : Nat} {x : Int32} {R : RT} {I : IT} {J : JT} {Q : QT} (hx0 : ¬ x < 0) (hx : x.toNatClampNeg = len) (hlen : len ≤ 10000) (hsh : sh n = (100, len)) (hcap : n < cap) (h1 : st.all (okV n (n + 1)) = true) (h2 : L.all (fun q => okV n (n + 1) q.2) = true)
    (k : Ends M d cap (pc + 2) L (.ref n :: st) (n + 1) (rs2 R n none) (rs2 I n 0) (rs2 J n 0) Q) : Ends M d cap pc L (.int x :: st) n R I J Q := by
  intro l p e Rm s m args below meth c D cs A ad0 I0 n0 QQ hC hc1 hc2 hr ad H locs ls hW hl
  have hn0 : n0 ≤ n := hW.2.2.2.2.2.2.1.1
  have hN : (sh n).2 = len := by rw [hsh]
  refine va_newa (atype := .int) (ty := .int) (a0 := (len, .inl (fun _ => 0))) hC.1 hC.2.1 (hC.2.2.2.2.1 _ hw) rfl hW.1 hW.2.1 hW.2.2.1 hW.2.2.2.1 hW.2.2.2.2.1 (fun cA => rfl) hx0 hx (by show len * 4 ≤ _; omega) (rc_cells hn0 hc1 hcap) (rc_slots hn0 hc2 hcap hN) hd (fun q cA H1 hK hP hD hS => ?_)
  have hcA : cA = cs.1 := cA_of (fun C h => by cases h) hK 0 rfl
  subst hcA
  exact arr_end (by omega) hsh h1 h2 k l p e Rm s m args below meth c D cs A ad0 I0 n0 QQ hC hc1 hc2 hr ad H locs ls hW hl q H1 _ (by rw [pc_int (by rw [hsh]), rs2_s, hN]) hP hD hS
theorem e_newL {M : MI} {pc : Nat} (hd : decode (MI.bytes M) pc = .ok (.newarray .long, 2)) (hw : Cond.arrayClass .long ∈ wsG) {d cap : Nat} {L : LT} {st : List Value} {n len : Nat} {x : Int32} {R : RT} {I : IT} {J : JT} {Q : QT} (hx0 : ¬ x < 0) (hx : x.toNatClampNeg = len) (hlen : len ≤ 10000) (hsh : sh n = (101, len)) (hcap : n < cap) (h1 : st.all (okV n (n + 1)) = true) (h2 : L.all (fun q => okV n (n + 1) q.2) = true)
    (k : Ends M d cap (pc + 2) L (.ref n :: st) (n + 1) (rs2 R n none) (rs2 I n 0) (rs2 J n 0) Q) : Ends M d cap pc L (.int x :: st) n R I J Q := by
  intro l p e Rm s m args below meth c D cs A ad0 I0 n0 QQ hC hc1 hc2 hr ad H locs ls hW hl
  have hn0 : n0 ≤ n := hW.2.2.2.2.2.2.1.1
  have hN : (sh n).2 = len := by rw [hsh]
  refine va_newa (atype := .long) (ty := .long) (a0 := (len, .inr (.inl (fun _ => 0)))) hC.1 hC.2.1 (hC.2.2.2.2.1 _ hw) rfl hW.1 hW.2.1 hW.2.2.1 hW.2.2.2.1 hW.2.2.2.2.1 (fun cA => rfl) hx0 hx (by show len * 8 ≤ _; omega) (rc_cells hn0 hc1 hcap) (rc_slots hn0 hc2 hcap hN) hd (fun q cA H1 hK hP hD hS => ?_)
  have hcA : cA = cs.2.1 := cA_of (fun C h => by cases h) hK 1 rfl
  subst hcA
  exact arr_end (by omega) hsh h1 h2 k l p e Rm s m args below meth c D cs A ad0 I0 n0 QQ hC hc1 hc2 hr ad H locs ls hW hl q H1 _ (by rw [pc_long (by rw [hsh]), rs2_s, hN]) hP hD hS
theorem e_newB {M : MI} {pc idx : Nat} (hd : decode (MI.bytes M) pc = .ok (.anewarray idx, 3)) (hw : Cond.classLink (MI.own M) idx "ClaimChains$Box" ∈ wsG) {d cap : Nat} {L : LT} {st : List Value} {n len : Nat} {x : Int32} {R : RT} {I : IT} {J : JT} {Q : QT} (hx0 : ¬ x < 0) (hx : x.toNatClampNeg = len) (hlen : len ≤ 10000) (hsh : sh n = (102, len)) (hcap : n < cap) (h1 : st.all (okV n (n + 1)) = true) (h2 : L.all (fun q => okV n (n + 1) q.2) = true)
    (k : Ends M d cap (pc + 3) L (.ref n :: st) (n + 1) (rs2 R n none) (rs2 I n 0) (rs2 J n 0) Q) : Ends M d cap pc L (.int x :: st) n R I J Q := by
  intro l p e Rm s m args below meth c D cs A ad0 I0 n0 QQ hC hc1 hc2 hr ad H locs ls hW hl
  have hn0 : n0 ≤ n := hW.2.2.2.2.2.2.1.1
  have hN : (sh n).2 = len := by rw [hsh]
  refine va_newq hC.1 hC.2.1 hC.2.2.2.1 (hC.2.2.2.2.1 _ hw) hC.2.2.2.2.2.2.1 hW.1 hW.2.1 hW.2.2.1 hW.2.2.2.1 hW.2.2.2.2.1 hx0 hx (by omega) (rc_cells hn0 hc1 hcap) (rc_slots hn0 hc2 hcap hN) hd (fun q cA H1 hK hP hD hS => ?_)
  have hcA : cA = cs.2.2 := cA_ofO hK 2 rfl
  subst hcA
  exact arr_end (by omega) hsh h1 h2 k l p e Rm s m args below meth c D cs A ad0 I0 n0 QQ hC hc1 hc2 hr ad H locs ls hW hl q H1 _ (by rw [pc_refs (by rw [hsh]), rs2_s, hN]; rfl) hP hD hS
theorem e_oinit {M : MI} {pc idx : Nat} (hd : decode (MI.bytes M) pc = .ok (.invokespecial idx, 3)) (hw1 : Cond.methodLink (MI.own M) idx objectInit ∈ wsG) (hw2 : Cond.instanceMethod objectInit ∈ wsG) (hw3 : Cond.code objectInit ⟨#[0xb1]⟩ 1 none ∈ wsG) {d cap : Nat} (hd1 : 1 ≤ d) {L : LT} {st : List Value} {o n : Nat} {R : RT} {I : IT} {J : JT} {Q : QT} (hst : (st.map fun v => v.category).sum ≤ 8)
    (k : Ends M d cap (pc + 3) L st n R I J Q) : Ends M d cap pc L (.ref o :: st) n R I J Q := by
  refine ends_go (fun l p e Rm s m args below meth c QQ H locs cells slots ls ad hC hl kk => ?_) k
  have hcat : ((st.map (cv ad)).map fun v => v.category).sum ≤ 8 := by
    rw [List.map_map, show ((fun v : Value => v.category) ∘ cv ad) = (fun v => v.category) from funext fun v => cv_cat ad v]; exact hst
  have hroom := lv_room (m := m) (pc := pc) (ls := ls) (rest := (Value.ref o :: st).map (cv ad)) hcat
  refine W.objInit (a := ad o) hC.1 hC.2.1 hC.2.2.2.1 (hC.2.2.2.2.1 _ hw1) (hC.2.2.2.2.1 _ hw2) (hC.2.2.2.2.1 _ hw3) rfl (by rw [hC.2.2.1]; exact hl.1) rfl hd (Nat.le_trans hd1 hC.2.2.2.2.2.2.2.2.2.2.1) ?_ (kk ls hl)
  have := hC.2.2.2.2.2.2.2.2.2.2.2
  omega
end
section
/-! CONTRACTS and CALLS -/
def rmM (d n n' : Nat) : Room := { frames := d, cells := n' - n, slots := SZ n' - SZ n, locals := 80 * d }
def Pcc (D : va_G) (cs : CS) (ad : Nat → Nat) (sz : Nat) (av : List Value) (n : Nat) (R : RT) (I : IT) (J : JT) : Array Value → State → Prop := fun v U =>
  v = (av.map (cv ad)).toArray ∧ U.heap.size = sz ∧ va_K D vwC (tysOf cs) U ∧ va_P D vwC (pws cs ad n R I J) U.heap ∧ va_D (fun _ => True) (pws cs ad n R I J) ∧ (RefsOk n R ∧ n ≤ 62) ∧ (∀ w ∈ nwG, va_Nw w U) ∧ va_AO "ClaimChains$Box" U ∧ Stt (va_A (pws cs ad n R I J) sz) U U.heap ad I
def Qcc (D : va_G) (cs : CS) (ad : Nat → Nat) (sz : Nat) (n : Nat) (R : RT) (I : IT) (J : JT) (n' : Nat) (Q : Option Value → RT → IT → JT → Prop) : Array Value → State → Outcome → State → Prop := fun _ st oc t =>
  (∃ (r : Option Value) (R' : RT) (I' : IT) (J' : JT) (ad' : Nat → Nat), oc = .returned (r.map (cv ad')) ∧ Q r R' I' J' ∧ (∀ o, o < n ∨ n' ≤ o → ad' o = ad o) ∧ va_P D vwC (pws cs ad' n' R' I' J') t.heap ∧ va_D (va_A (pws cs ad n R I J) sz) (pws cs ad' n' R' I' J') ∧ RefsOk n' R' ∧ n ≤ n' ∧ n' ≤ 62 ∧ I' 2000 = I 2000 ∧ I' 2001 = I 2001) ∧ va_F (va_A (pws cs ad n R I J) sz) st t
/-- M's contract, with d calls below it at most: called with av in the world n R I J it returns, n' things are there then, and Q holds of the answer and the world -/
def Ct (M : MI) (d : Nat) (av : List Value) (n : Nat) (R : RT) (I : IT) (J : JT) (n' : Nat) (Q : Option Value → RT → IT → JT → Prop) : Prop :=
  ∀ (l : Launch) (D : va_G) (cs : CS) (ad : Nat → Nat) (sz : Nat), Met l (MI.y M) (Cond.code (MI.y M) (MI.bytes M) (MI.maxL M) (MI.ret M) :: wsG) (rmM d n n') (Pcc D cs ad sz av n R I J) (Qcc D cs ad sz n R I J n' Q) (n' - n) (SZ n' - SZ n) (va_A (pws cs ad n R I J) sz)
theorem lv_args_cv (ad : Nat → Nat) : ∀ (i : Nat) (vs : List Value), lv_args i (vs.map (cv ad)) = (lv_args i vs).map (cvq ad)
  | _, [] => rfl
  | i, v :: vs => by
    show (i, cv ad v) :: lv_args (if (cv ad v).category = 2 then i + 2 else i + 1) (vs.map (cv ad)) = (i, cv ad v) :: (lv_args (if v.category = 2 then i + 2 else i + 1) vs).map (cvq ad)
    rw [cv_cat, lv_args_cv ad _ vs]
theorem lg_sl_cv (ad : Nat → Nat) (vs : List Value) : (lg_sl (vs.map (cv ad))).length = (lg_sl vs).length := by
  induction vs with
  | nil => rfl
  | cons v vs ih =>
    simp only [lg_sl, List.map_cons, List.flatMap_cons, List.length_append, cv_cat] at ih ⊢
    rw [ih]
    congr 1
    split <;> rfl
theorem ct_of {M : MI} {d : Nat} {av : List Value} {n : Nat} {R : RT} {I : IT} {J : JT} {n' : Nat} {Q : Option Value → RT → IT → JT → Prop} (hy : plainName (MI.y M).cls = true) (ho : MI.own M = (MI.y M).cls) (hl : (lg_sl av).length ≤ MI.maxL M)
    (k : Ends M d n' 0 (lv_args 0 av) [] n R I J (fun r n1 R' I' J' => n1 = n' ∧ Q r R' I' J')) : Ct M d av n R I J n' Q := by
  intro l D cs ad sz
  refine Met.ofW (cc := MI.bytes M) (maxL := MI.maxL M) (ret := MI.ret M) hy rfl ?_
  intro p e s m args below meth c s₁ B hml hv
  obtain ⟨rfl, hsz, hK, hP, hD0, ⟨hR, h62⟩, hnw, hao, hSt⟩ := hv
  subst hsz
  have hts := atoms_spec (ws := Cond.code (MI.y M) (MI.bytes M) (MI.maxL M) (MI.ret M) :: wsG) B.pre
  have hown : s.vm.findClass (MI.own M) = some m.cls := by rw [ho]; exact findClass_of_methodNamed B.named
  have hC : Cx M d p (headSpec (Cond.code (MI.y M) (MI.bytes M) (MI.maxL M) (MI.ret M) :: wsG) (rmM d n n')).room s m ((av.map (cv ad)).toArray) meth c :=
    ⟨B.exec, B.bytes, hml, hown, fun w hw => hts w (List.mem_cons_of_mem _ hw), hnw, hao, (name_of_methodNamed B.named B.method).1, B.returns, B.notSynchronized, Nat.le_refl d, Nat.le_refl _⟩
  have hl2 := lv_entry (av.map (cv ad)) (n := MI.maxL M) (by rw [lg_sl_cv]; exact hl)
  rw [lg_entry_eq]
  rw [lv_args_cv] at hl2
  have hW : Wd D cs (va_A (pws cs ad n R I J) s.heap.size) s ad I n ad n R I J s.heap [] :=
    ⟨hK, hP, hD0.self, va_S.rf, fun q h => Or.inr h, hR, ⟨Nat.le_refl _, h62⟩, ⟨fun _ _ => rfl, rfl, rfl⟩, hSt⟩
  have hw := k l p e _ s m _ below meth c D cs (va_A (pws cs ad n R I J) s.heap.size) ad I n (MQ below (Qcc D cs ad s.heap.size n R I J n' Q) ((av.map (cv ad)).toArray) s (n' - n) (SZ n' - SZ n) (va_A (pws cs ad n R I J) s.heap.size)) hC (Nat.le_refl _) (Nat.le_refl _) (fun r n1 R' I' J' ad' H' locs' pc' ls' hq hW' hra => ?_) ad s.heap [] _ hW hl2
  · rw [Nat.sub_self, Nat.sub_self] at hw
    exact hw
  · obtain ⟨rfl, hq⟩ := hq
    obtain ⟨b1, b2, b3, b4, b5, b6, b7, b8, b9⟩ := hW'
    have key : ∀ t : State, t.heap = H' → s.WarmedH t.vm → Qcc D cs ad s.heap.size n R I J n1 Q ((av.map (cv ad)).toArray) s (.returned (r.map (cv ad'))) t := fun t ht _ =>
      ⟨⟨r, R', I', J', ad', rfl, hq, b8.1, by rw [ht]; exact b2, b3, b6, b7.1, b7.2, b8.2.1, b8.2.2⟩, b4.F ht⟩
    match r, hra, key with
    | none, hra, key => exact W.vret hC.1 hC.2.1 (hC.2.2.2.2.2.2.2.2.1.trans hra.2) key b4.2.2 hra.1 hC.2.2.2.2.2.2.2.2.2.1
    | some (.int v), hra, key =>
      obtain ⟨h1, ty, h2, h3⟩ := hra
      exact W.zret hC.1 hC.2.1 (hC.2.2.2.2.2.2.2.2.1.trans h2) h3 key b4.2.2 h1 hC.2.2.2.2.2.2.2.2.2.1
    | some (.long v), hra, key => exact W.lret hC.1 hC.2.1 (hC.2.2.2.2.2.2.2.2.1.trans hra.2) key b4.2.2 hra.1 hC.2.2.2.2.2.2.2.2.2.1
/-- at pc of M stands a call of M' (of nA arguments, the receiver among them; ins: it has one) -/
def Site (M : MI) (pc : Nat) (M' : MI) (ins : Bool) (nA : Nat) : Prop :=
  ∀ (l : Launch) (p : Program) (e : Env) (Rm : Room) (s : State) (m : MethodId) (args : Array Value) (below : List Frame) (meth : Method) (c : Code) (d : Nat) (H : Heap) (locs : List Loc) (cells slots : Nat), Cx M d p Rm s m args meth c →
  ∀ (rm : Room) (Pc : Array Value → State → Prop) (Qc : Array Value → State → Outcome → State → Prop) (mc ms : Nat) (free : Addr → Prop), Met l (MI.y M') (Cond.code (MI.y M') (MI.bytes M') (MI.maxL M') (MI.ret M') :: wsG) rm Pc Qc mc ms free →
    rm.cells = mc → rm.slots = ms → rm.frames + 1 ≤ Rm.frames → 8 + (MI.maxL M' + 11) + rm.locals ≤ Rm.locals → FrameBlind Pc →
  ∀ (As : List Value), As.length = nA → (ins = true → ∃ (b : Addr) (As' : List Value) (cellB : Cell), As = .ref b :: As' ∧ H[b]? = some cellB ∧ cellB.vm.isStatics = false ∧ s.vm.findClass (MI.own M') = some cellB.cls) → (∀ U : State, U.heap = H → s.WarmedH U.vm → Pc As.toArray U) →
  ∀ (ls : Array Slot) (rest : List Value), ls.size = MI.maxL M → (rest.map fun v => v.category).sum ≤ 8 → cells + mc ≤ Rm.cells ∧ slots + ms ≤ Rm.slots →
    va_Run p l e Rm s m args below meth c H locs cells slots mc ms (F0 m pc ls (As.reverse ++ rest)) rest (Qc As.toArray) free
section SITES
variable {M M' : MI} {pc idx nA : Nat}
theorem site_V (ho : MI.own M' = (MI.y M').cls) (hcode : Cond.code (MI.y M') (MI.bytes M') (MI.maxL M') (MI.ret M') ∈ wsG) (hd : decode (MI.bytes M) pc = .ok (.invokevirtual idx, 3)) (hw1 : Cond.methodLink (MI.own M) idx (MI.y M') ∈ wsG) (hw2 : Cond.instanceMethod (MI.y M') ∈ wsG) (hw3 : Cond.selects (MI.y M').cls (MI.y M') (MI.y M') ∈ wsG) (hw4 : Cond.initialized (MI.y M').cls ∈ wsG)
    (hdd : (MI.y M').cls ≠ "java/lang/invoke/MethodHandle" ∧ (MI.y M').cls ≠ "java/lang/invoke/VarHandle" ∧ (parseMethodDescriptor (MI.y M').desc).map (fun d => d.parameters.length) = some nA) : Site M pc M' true (nA + 1) := by
  intro l p e Rm s m args below meth c d H locs cells slots hC rm Pc Qc mc ms free hM e1 e2 e3 e4 hb As hn hrc hPc ls rest hsz hst hf
  obtain ⟨b, As', cellB, rfl, g1, g2, g3⟩ := hrc rfl
  have ht := hC.2.2.2.2.1
  exact va_runV (g := F0 m pc ls ((Value.ref b :: As').reverse ++ rest)) (As := As') (rest := rest) (n := nA) (index := idx) (bytes := MI.bytes M') (maxL := MI.maxL M') (ret := MI.ret M') (locs := locs) (below := below) (meth := meth) (C := (MI.y M').cls) (b := b) ⟨hC.1, hC.2.1, hC.2.2.1, hC.2.2.2.1, ht⟩ hM
    ⟨callB_of nA ht (goodM hcode) rfl e1 e2 (ht _ hw4) (ht _ hw1) hdd ⟨e3, e4⟩, ht _ hw2, ht _ hw3⟩ ⟨hb, ⟨cellB, g1, g2, by rw [← ho]; exact g3⟩, hPc⟩ rfl (by simpa using hn) hsz (by simp) (lv_room hst) hd hf
theorem site_VN {host : String} (ho : MI.own M' = (MI.y M').cls) (hcode : Cond.code (MI.y M') (MI.bytes M') (MI.maxL M') (MI.ret M') ∈ wsG) (hd : decode (MI.bytes M) pc = .ok (.invokevirtual idx, 3)) (hw1 : Cond.methodLinkNest (MI.own M) idx (MI.y M') host ∈ nwG) (hw2 : Cond.instanceMethod (MI.y M') ∈ wsG) (hw3 : Cond.selects (MI.y M').cls (MI.y M') (MI.y M') ∈ wsG) (hw4 : Cond.initialized (MI.y M').cls ∈ wsG)
    (hdd : (MI.y M').cls ≠ "java/lang/invoke/MethodHandle" ∧ (MI.y M').cls ≠ "java/lang/invoke/VarHandle" ∧ (parseMethodDescriptor (MI.y M').desc).map (fun d => d.parameters.length) = some nA) : Site M pc M' true (nA + 1) := by
  intro l p e Rm s m args below meth c d H locs cells slots hC rm Pc Qc mc ms free hM e1 e2 e3 e4 hb As hn hrc hPc ls rest hsz hst hf
  obtain ⟨b, As', cellB, rfl, g1, g2, g3⟩ := hrc rfl
  have ht := hC.2.2.2.2.1
  exact va_runVN (g := F0 m pc ls ((Value.ref b :: As').reverse ++ rest)) (As := As') (rest := rest) (n := nA) (index := idx) (bytes := MI.bytes M') (maxL := MI.maxL M') (ret := MI.ret M') (locs := locs) (below := below) (meth := meth) (C := (MI.y M').cls) (b := b) ⟨hC.1, hC.2.1, hC.2.2.1, hC.2.2.2.1, ht⟩ hM
    ⟨va_cnB nA ht (goodM hcode) rfl e1 e2 (hC.2.2.2.2.2.1 _ hw1) (ht _ hw4) hdd ⟨e3, e4⟩, ht _ hw2, ht _ hw3⟩ ⟨hb, ⟨cellB, g1, g2, by rw [← ho]; exact g3⟩, hPc⟩ rfl (by simpa using hn) hsz (by simp) (lv_room hst) hd hf
theorem site_S (hcode : Cond.code (MI.y M') (MI.bytes M') (MI.maxL M') (MI.ret M') ∈ wsG) (hd : decode (MI.bytes M) pc = .ok (.invokestatic idx, 3)) (hw1 : Cond.methodLink (MI.own M) idx (MI.y M') ∈ wsG) (hw2 : Cond.static (MI.y M') ∈ wsG) (hw4 : Cond.initialized (MI.y M').cls ∈ wsG)
    (hdd : (MI.y M').cls ≠ "java/lang/invoke/MethodHandle" ∧ (MI.y M').cls ≠ "java/lang/invoke/VarHandle" ∧ (parseMethodDescriptor (MI.y M').desc).map (fun d => d.parameters.length) = some nA) : Site M pc M' false nA := by
  intro l p e Rm s m args below meth c d H locs cells slots hC rm Pc Qc mc ms free hM e1 e2 e3 e4 hb As hn _ hPc ls rest hsz hst hf
  have ht := hC.2.2.2.2.1
  exact va_runS (g := F0 m pc ls (As.reverse ++ rest)) (As := As) (rest := rest) (n := nA) (index := idx) (bytes := MI.bytes M') (maxL := MI.maxL M') (ret := MI.ret M') (locs := locs) (below := below) (meth := meth) ⟨hC.1, hC.2.1, hC.2.2.1, hC.2.2.2.1, ht⟩ hM
    ⟨callB_of nA ht (goodM hcode) rfl e1 e2 (ht _ hw4) (ht _ hw1) hdd ⟨e3, e4⟩, ht _ hw2⟩ ⟨hb, hPc⟩ rfl hn hsz rfl (lv_room hst) hd hf
theorem site_SN {host : String} (hcode : Cond.code (MI.y M') (MI.bytes M') (MI.maxL M') (MI.ret M') ∈ wsG) (hd : decode (MI.bytes M) pc = .ok (.invokestatic idx, 3)) (hw1 : Cond.methodLinkNest (MI.own M) idx (MI.y M') host ∈ nwG) (hw2 : Cond.static (MI.y M') ∈ wsG) (hw4 : Cond.initialized (MI.y M').cls ∈ wsG)
    (hdd : (MI.y M').cls ≠ "java/lang/invoke/MethodHandle" ∧ (MI.y M').cls ≠ "java/lang/invoke/VarHandle" ∧ (parseMethodDescriptor (MI.y M').desc).map (fun d => d.parameters.length) = some nA) : Site M pc M' false nA := by
  intro l p e Rm s m args below meth c d H locs cells slots hC rm Pc Qc mc ms free hM e1 e2 e3 e4 hb As hn _ hPc ls rest hsz hst hf
  have ht := hC.2.2.2.2.1
  exact va_runSN (g := F0 m pc ls (As.reverse ++ rest)) (As := As) (rest := rest) (n := nA) (index := idx) (bytes := MI.bytes M') (maxL := MI.maxL M') (ret := MI.ret M') (locs := locs) (below := below) (meth := meth) ⟨hC.1, hC.2.1, hC.2.2.1, hC.2.2.2.1, ht⟩ hM
    ⟨va_cnB nA ht (goodM hcode) rfl e1 e2 (hC.2.2.2.2.2.1 _ hw1) (ht _ hw4) hdd ⟨e3, e4⟩, ht _ hw2, trivial⟩ ⟨hb, hPc⟩ rfl hn hsz rfl (lv_room hst) hd hf
theorem site_I (hret : MI.ret M' = none) (hini : (MI.y M').name = "<init>") (hcode : Cond.code (MI.y M') (MI.bytes M') (MI.maxL M') (MI.ret M') ∈ wsG) (hd : decode (MI.bytes M) pc = .ok (.invokespecial idx, 3)) (hw1 : Cond.methodLink (MI.own M) idx (MI.y M') ∈ wsG) (hw2 : Cond.instanceMethod (MI.y M') ∈ wsG) (hw4 : Cond.initialized (MI.y M').cls ∈ wsG)
    (hdd : (MI.y M').cls ≠ "java/lang/invoke/MethodHandle" ∧ (MI.y M').cls ≠ "java/lang/invoke/VarHandle" ∧ (parseMethodDescriptor (MI.y M').desc).map (fun d => d.parameters.length) = some nA) : Site M pc M' true (nA + 1) := by
  intro l p e Rm s m args below meth c d H locs cells slots hC rm Pc Qc mc ms free hM e1 e2 e3 e4 hb As hn hrc hPc ls rest hsz hst hf
  obtain ⟨b, As', cellB, rfl, g1, g2, g3⟩ := hrc rfl
  have ht := hC.2.2.2.2.1
  rw [hret] at hM hcode
  exact va_runI (g := F0 m pc ls ((Value.ref b :: As').reverse ++ rest)) (As := As') (rest := rest) (n := nA) (index := idx) (bytes := MI.bytes M') (maxL := MI.maxL M') (locs := locs) (below := below) (meth := meth) (b := b) ⟨hC.1, hC.2.1, hC.2.2.1, hC.2.2.2.1, ht⟩ hM
    ⟨callB_of nA ht (goodM hcode) rfl e1 e2 (ht _ hw4) (ht _ hw1) hdd ⟨e3, e4⟩, hini, ht _ hw2⟩ ⟨hb, hPc⟩ rfl (by simpa using hn) hsz (by simp) (lv_room hst) hd hf
theorem site_IN {host : String} (hret : MI.ret M' = none) (hini : (MI.y M').name = "<init>") (hcode : Cond.code (MI.y M') (MI.bytes M') (MI.maxL M') (MI.ret M') ∈ wsG) (hd : decode (MI.bytes M) pc = .ok (.invokespecial idx, 3)) (hw1 : Cond.methodLinkNest (MI.own M) idx (MI.y M') host ∈ nwG) (hw2 : Cond.instanceMethod (MI.y M') ∈ wsG) (hw4 : Cond.initialized (MI.y M').cls ∈ wsG)
    (hdd : (MI.y M').cls ≠ "java/lang/invoke/MethodHandle" ∧ (MI.y M').cls ≠ "java/lang/invoke/VarHandle" ∧ (parseMethodDescriptor (MI.y M').desc).map (fun d => d.parameters.length) = some nA) : Site M pc M' true (nA + 1) := by
  intro l p e Rm s m args below meth c d H locs cells slots hC rm Pc Qc mc ms free hM e1 e2 e3 e4 hb As hn hrc hPc ls rest hsz hst hf
  obtain ⟨b, As', cellB, rfl, g1, g2, g3⟩ := hrc rfl
  have ht := hC.2.2.2.2.1
  rw [hret] at hM hcode
  exact va_runIN (g := F0 m pc ls ((Value.ref b :: As').reverse ++ rest)) (As := As') (rest := rest) (n := nA) (index := idx) (bytes := MI.bytes M') (maxL := MI.maxL M') (locs := locs) (below := below) (meth := meth) (b := b) ⟨hC.1, hC.2.1, hC.2.2.1, hC.2.2.2.1, ht⟩ hM
    ⟨va_cnB nA ht (goodM hcode) rfl e1 e2 (hC.2.2.2.2.2.1 _ hw1) (ht _ hw4) hdd ⟨e3, e4⟩, hini, ht _ hw2⟩ ⟨hb, hPc⟩ rfl (by simpa using hn) hsz (by simp) (lv_room hst) hd hf
end SITES
theorem Stt.moved {A : Nat → Prop} {s U : State} {H : Heap} {ad : Nat → Nat} {I : IT} (hvm : s.vm.Alike U.vm) (h : Stt A s H ad I) : Stt A U H ad I := by
  obtain ⟨h1, Ls, b1, b2, b3, b4⟩ := h
  exact ⟨fun j hj => ⟨(h1 j hj).1.moved hvm, (h1 j hj).2.moved hvm⟩, Ls, b1, b2, b3.moved hvm, b4⟩
theorem Stt.to {A A' : Nat → Prop} {s : State} {H : Heap} {locs : List Loc} {ad : Nat → Nat} {I : IT} (h : Stt A s s.heap ad I) (hS : va_S A s.heap H locs) (hA : ∀ q, A' q → A q) : Stt A' s H ad I := by
  obtain ⟨h1, Ls, b1, b2, b3, b4, b5⟩ := h
  exact ⟨fun j hj => ⟨((h1 j hj).1.kept hS.2.1).narrow hA, ((h1 j hj).2.kept hS.2.1).narrow hA⟩, Ls, b1, b2, b3.kept (hS.2.1 _ b4 b5), Nat.lt_of_lt_of_le b4 hS.1, fun z => b5 (hA _ z)⟩
theorem Pcc.blind {D : va_G} {cs : CS} {ad : Nat → Nat} {sz : Nat} {av : List Value} {n : Nat} {R : RT} {I : IT} {J : JT} : FrameBlind (Pcc D cs ad sz av n R I J) := by
  intro a U g mk q
  obtain ⟨q0, q1, q2, q3, q4, q5, q6, q7, q8⟩ := q
  exact ⟨q0, q1, va_K.moved (u := U) (U := U.calling g mk a) (Vm.Alike.refl U.vm) q2, q3, q4, q5, fun w hw => va_Nw.same (by
    have h1 := (List.mem_filter.mp hw).2
    cases w <;> simp only [isNest] at h1 <;> first | (cases h1; done) | rfl) (rfl : U.vm = (U.calling g mk a).vm) (q6 w hw), va_AO.moved (u := U) (U := U.calling g mk a) (Vm.Alike.refl U.vm) q7, Stt.moved (s := U) (U := U.calling g mk a) (Vm.Alike.refl U.vm) q8⟩
/-- the class whose methods M has: its number among the objects' classes -/
def clsNo (M : MI) (ci : Nat) : Prop := vwC[ci]?.map (fun q => q.1) = some (MI.own M)
theorem e_callA {M M' : MI} {pc : Nat} {ins : Bool} {nA : Nat} (hs : Site M pc M' ins nA) {d d' cap : Nat} {L : LT} {st av rest : List Value} {n n' : Nat} {R : RT} {I : IT} {J : JT} {Q : QT} {Q' : Option Value → RT → IT → JT → Prop} (hc : Ct M' d' av n R I J n' Q') (hst : st = av.reverse ++ rest) (hd : d' < d) (hnn : n ≤ n') (hcap : n' ≤ cap) (hml : MI.maxL M' ≤ 60) (hn : av.length = nA) (hr8 : (rest.map fun v => v.category).sum ≤ 8)
    (hrc : ins = true → ∃ (ci o : Nat) (av' : List Value), av = .ref o :: av' ∧ o < n ∧ (sh o).1 = ci ∧ ci < 8 ∧ clsNo M' ci) (h1 : rest.all (okV n n') = true) (h2 : L.all (fun q => okV n n' q.2) = true)
    (k : ∀ r R' I' J', Q' r R' I' J' → Ends M d cap (pc + 3) L (r.toList ++ rest) n' R' I' J' Q) : Ends M d cap pc L st n R I J Q := by
  intro l p e Rm s m args below meth c D cs A ad0 I0 n0 QQ hC hc1 hc2 hr ad H locs ls hW hl
  subst hst
  have hWd := hW
  obtain ⟨a1, a2, a3, a4, a5, a6, a7, a8, a9⟩ := hW
  have hfree : ∀ q, va_A (pws cs ad n R I J) H.size q → A q := by
    intro q hq
    rcases hq with ⟨i, x, hi⟩ | hq
    · exact a3.2 i (q, x) hi
    · exact a5 q (Nat.le_trans a4.1 hq)
  have hcat : ((rest.map (cv ad)).map fun v => v.category).sum ≤ 8 := by
    rw [List.map_map, show ((fun v : Value => v.category) ∘ cv ad) = (fun v => v.category) from funext fun v => cv_cat ad v]; exact hr8
  have z1 := SZ_mono a7.1
  have z2 := SZ_mono hnn
  have z3 := SZ_mono hcap
  have hrun := hs l p e Rm s m args below meth c d H locs (n - n0) (SZ n - SZ n0) hC (rmM d' n n') _ _ _ _ _ (hc l D cs ad H.size) rfl rfl (by have := hC.2.2.2.2.2.2.2.2.2.2.1; show d' + 1 ≤ _; omega) (by have := hC.2.2.2.2.2.2.2.2.2.2.2; show 8 + (MI.maxL M' + 11) + 80 * d' ≤ _; omega) Pcc.blind (av.map (cv ad)) (by rw [List.length_map]; exact hn) (fun hi => by
      obtain ⟨ci, o, av', rfl, h3, h4, h5, h6⟩ := hrc hi
      cases hq : vwC[ci]? with
      | none => unfold clsNo at h6; rw [hq] at h6; cases h6
      | some q =>
        unfold clsNo at h6; rw [hq] at h6
        obtain ⟨cell, g1, g2, g3⟩ := va_recv a1 a2 hq ((pws_at h3).trans (by rw [pc_obj h4 (by omega)]))
        exact ⟨ad o, av'.map (cv ad), cell, rfl, g1, g2, by rw [← Option.some.inj h6]; exact g3⟩) (fun U hU hWm => ⟨rfl, by rw [hU], va_K.moved hWm.alike a1, by rw [hU]; exact a2, ⟨a3.1, fun _ _ _ => trivial⟩, ⟨a6, a7.2⟩, nw_warm hWm hC.2.2.2.2.2.1, va_AO.moved hWm.alike hC.2.2.2.2.2.2.1, by rw [hU]; exact (a9.to a4 hfree).moved hWm.alike⟩) ls (rest.map (cv ad)) hl.1 hcat ⟨by omega, by omega⟩
  have e0 : (av.reverse ++ rest).map (cv ad) = (av.map (cv ad)).reverse ++ rest.map (cv ad) := by rw [List.map_append, List.map_reverse]
  rw [e0]
  intro T hT X
  obtain ⟨v, st₀, t, T', Lc, g0, X', hL, g1, g2, ⟨⟨r, R', I', J', ad', hv, hq, had, hP1, hD1, hR1, _, h62, hi1, hi2⟩, hz, hk⟩, stp⟩ := hrun T hT X
  rw [g0] at hz hk
  have hv : v = r.map (cv ad') := by cases r <;> cases hv <;> rfl
  have hS' : va_S A s.heap T'.heap (locs ++ Lc) := ⟨Nat.le_trans a4.1 (by rw [g1]; exact hz), fun q q1 q2 => by rw [g1, hk q (Nat.lt_of_lt_of_le q1 a4.1) (fun z => q2 (hfree q z))]; exact a4.2.1 q q1 q2, fun q hq => by
    rcases List.mem_append.mp hq with h | h
    · exact a4.2.2 q h
    · exact hfree _ (hL q h)⟩
  have hSt' : Stt A s s.heap ad' I' := by
    obtain ⟨c1, Ls, c2, c3, c4, c5⟩ := a9
    refine ⟨fun j hj => by rw [had (1000 + j) (by omega)]; exact c1 j hj, Ls, c2, by rw [hi2]; exact c3, ?_, ?_⟩
    · rw [hi1, had 2000 (by omega)]; exact c4
    · rw [had 2000 (by omega)]; exact c5
  have hW' : Wd D cs A s ad0 I0 n0 ad' n' R' I' J' T'.heap (locs ++ Lc) :=
    ⟨a1, by rw [g1]; exact hP1, ⟨hD1.1, fun i q hq => hfree _ (hD1.2 i q hq)⟩, hS', a5, hR1, ⟨by omega, h62⟩, ⟨fun o ho => by rw [had o (by omega)]; exact a8.1 o (by omega), hi1.trans a8.2.1, hi2.trans a8.2.2⟩, hSt'⟩
  have hw := k r R' I' J' hq l p e Rm s m args below meth c D cs A ad0 I0 n0 QQ hC hc1 hc2 hr ad' T'.heap (locs ++ Lc) ls hW' (by rw [cvl_ok had h2]; exact hl)
  have e1 : (r.toList ++ rest).map (cv ad') = v.toList ++ rest.map (cv ad) := by
    rw [List.map_append, cvs_ok had h1, hv]
    cases r <;> rfl
  rw [e1, show n' - n0 = n - n0 + (n' - n) by omega, show SZ n' - SZ n0 = SZ n - SZ n0 + (SZ n' - SZ n) by omega] at hw
  obtain ⟨t2, b1, b2⟩ := hw T' rfl X'
  exact ⟨t2, stp t2 b1, b2⟩
theorem okV_nn (n : Nat) (v : Value) : okV n n v = true := by
  cases v with
  | ref o =>
    simp only [okV, Bool.or_eq_true, Nat.blt_eq, Nat.ble_eq]
    omega
  | _ => rfl
/-- a call that makes nothing -/
theorem e_call {M M' : MI} {pc : Nat} {ins : Bool} {nA : Nat} (hs : Site M pc M' ins nA) {d d' cap : Nat} {L : LT} {st av rest : List Value} {n : Nat} {R : RT} {I : IT} {J : JT} {Q : QT} {Q' : Option Value → RT → IT → JT → Prop} (hc : Ct M' d' av n R I J n Q') (hst : st = av.reverse ++ rest) (hd : d' < d) (hcap : n ≤ cap) (hml : MI.maxL M' ≤ 60) (hn : av.length = nA) (hr8 : (rest.map fun v => v.category).sum ≤ 8)
    (hrc : ins = true → ∃ (ci o : Nat) (av' : List Value), av = .ref o :: av' ∧ o < n ∧ (sh o).1 = ci ∧ ci < 8 ∧ clsNo M' ci)
    (k : ∀ r R' I' J', Q' r R' I' J' → Ends M d cap (pc + 3) L (r.toList ++ rest) n R' I' J' Q) : Ends M d cap pc L st n R I J Q :=
  e_callA hs hc hst hd (Nat.le_refl n) hcap hml hn hr8 hrc (List.all_eq_true.mpr fun v _ => okV_nn n v) (List.all_eq_true.mpr fun q _ => okV_nn n q.2) k
end
section
/-! walks in which nothing is made: the number of things and their references stay -/
abbrev IQ : Type := Option Value → IT → JT → Prop
def QN (n : Nat) (R : RT) (Q : IQ) : QT := fun r n' R' I' J' => n' = n ∧ R' = R ∧ Q r I' J'
abbrev EN (n : Nat) (R : RT) (M : MI) (d pc : Nat) (L : LT) (st : List Value) (I : IT) (J : JT) (Q : IQ) : Prop := Ends M d n pc L st n R I J (QN n R Q)
def CN (n : Nat) (R : RT) (M : MI) (d : Nat) (av : List Value) (I : IT) (J : JT) (Q : IQ) : Prop := Ct M d av n R I J n (fun r R' I' J' => R' = R ∧ Q r I' J')
theorem cn_of {n : Nat} {R : RT} {M : MI} {d : Nat} {av : List Value} {I : IT} {J : JT} {Q : IQ} (hy : plainName (MI.y M).cls = true) (ho : MI.own M = (MI.y M).cls) (hl : (lg_sl av).length ≤ MI.maxL M) (k : EN n R M d 0 (lv_args 0 av) [] I J Q) : CN n R M d av I J Q := ct_of hy ho hl k
def RtI (M : MI) (pc : Nat) : Prop := ∀ {n : Nat} {R : RT} {d : Nat} {L : LT} {v : Int32} {I : IT} {J : JT} {Q : IQ}, Q (some (.int v)) I J → EN n R M d pc L [.int v] I J Q
def RtZ (M : MI) (pc : Nat) : Prop := ∀ {n : Nat} {R : RT} {d : Nat} {L : LT} {v : Int32} {I : IT} {J : JT} {Q : IQ}, (v = 0 ∨ v = 1) → Q (some (.int v)) I J → EN n R M d pc L [.int v] I J Q
def RtL (M : MI) (pc : Nat) : Prop := ∀ {n : Nat} {R : RT} {d : Nat} {L : LT} {v : Int64} {I : IT} {J : JT} {Q : IQ}, Q (some (.long v)) I J → EN n R M d pc L [.long v] I J Q
def RtV (M : MI) (pc : Nat) : Prop := ∀ {n : Nat} {R : RT} {d : Nat} {L : LT} {I : IT} {J : JT} {Q : IQ}, Q none I J → EN n R M d pc L [] I J Q
theorem rt_I {M : MI} {pc : Nat} (hd : decode (MI.bytes M) pc = .ok (.ireturn, 1)) (hr : MI.ret M = some .int) : RtI M pc := fun hq => e_ret (r := some (.int _)) rfl ⟨hd, .int, hr, rfl⟩ ⟨rfl, rfl, hq⟩
theorem rt_Z {M : MI} {pc : Nat} (hd : decode (MI.bytes M) pc = .ok (.ireturn, 1)) (hr : MI.ret M = some .boolean) : RtZ M pc := fun hv hq => e_ret (r := some (.int _)) rfl ⟨hd, .boolean, hr, by rcases hv with rfl | rfl <;> rfl⟩ ⟨rfl, rfl, hq⟩
theorem rt_L {M : MI} {pc : Nat} (hd : decode (MI.bytes M) pc = .ok (.lreturn, 1)) (hr : MI.ret M = some .long) : RtL M pc := fun hq => e_ret (r := some (.long _)) rfl ⟨hd, hr⟩ ⟨rfl, rfl, hq⟩
theorem rt_V {M : MI} {pc : Nat} (hd : decode (MI.bytes M) pc = .ok (.return_, 1)) (hr : MI.ret M = none) : RtV M pc := fun hq => e_ret (r := none) rfl ⟨hd, hr⟩ ⟨rfl, rfl, hq⟩
def CallV (M : MI) (pc : Nat) (M' : MI) (ci nA : Nat) : Prop := ∀ {n : Nat} {R : RT} {d d' : Nat} {L : LT} {st rest av' : List Value} {I : IT} {J : JT} {Q Q' : IQ} {o : Nat}, CN n R M' d' (.ref o :: av') I J Q' → st = (Value.ref o :: av').reverse ++ rest → d' < d → av'.length + 1 = nA → (rest.map fun v => v.category).sum ≤ 8 → o < n → (sh o).1 = ci →
  (∀ (r : Option Value) (I' : IT) (J' : JT), Q' r I' J' → EN n R M d (pc + 3) L (r.toList ++ rest) I' J' Q) → EN n R M d pc L st I J Q
def CallS (M : MI) (pc : Nat) (M' : MI) (nA : Nat) : Prop := ∀ {n : Nat} {R : RT} {d d' : Nat} {L : LT} {st rest av : List Value} {I : IT} {J : JT} {Q Q' : IQ}, CN n R M' d' av I J Q' → st = av.reverse ++ rest → d' < d → av.length = nA → (rest.map fun v => v.category).sum ≤ 8 →
  (∀ (r : Option Value) (I' : IT) (J' : JT), Q' r I' J' → EN n R M d (pc + 3) L (r.toList ++ rest) I' J' Q) → EN n R M d pc L st I J Q
theorem kallV {M M' : MI} {pc ci nA : Nat} (hs : Site M pc M' true nA) (hml : MI.maxL M' ≤ 60) (hci : ci < 8) (hcl : clsNo M' ci) : CallV M pc M' ci nA := by
  intro n R d d' L st rest av' I J Q Q' o hc hst hd hn hr8 ho hsh k
  exact e_call hs hc hst hd (Nat.le_refl n) hml hn hr8 (fun _ => ⟨ci, o, av', rfl, ho, hsh, hci, hcl⟩) (fun r R' I' J' h => by
    obtain ⟨rfl, h⟩ := h
    exact k r I' J' h)
theorem kallS {M M' : MI} {pc nA : Nat} (hs : Site M pc M' false nA) (hml : MI.maxL M' ≤ 60) : CallS M pc M' nA := by
  intro n R d d' L st rest av I J Q Q' hc hst hd hn hr8 k
  exact e_call hs hc hst hd (Nat.le_refl n) hml hn hr8 (fun h => by cases h) (fun r R' I' J' h => by
    obtain ⟨rfl, h⟩ := h
    exact k r I' J' h)
theorem cn_mono {n : Nat} {R : RT} {M : MI} {d : Nat} {av : List Value} {I : IT} {J : JT} {Q Q' : IQ} (h : CN n R M d av I J Q) (hq : ∀ r I' J', Q r I' J' → Q' r I' J') : CN n R M d av I J Q' := by
  intro l D cs ad sz p e ha hf hk s m args below h1 h2 h3 h4
  obtain ⟨nn, o, b1, b2, b3, ⟨⟨⟨r, R', I', J', ad', c1, c2, c3⟩, c4⟩, b4⟩⟩ := h l D cs ad sz p e ha hf hk s m args below h1 h2 h3 h4
  exact ⟨nn, o, b1, b2, b3, ⟨⟨⟨r, R', I', J', ad', c1, ⟨c2.1, hq _ _ _ c2.2⟩, c3⟩, c4⟩, b4⟩⟩
/-- the references, once all is made -/
def RFL : List (List (Option Nat)) := [[some 1, some 11, some 19, some 22, some 26, some 29, some 38], [some 2, some 3, some 4, some 5, some 6, some 7, some 8, some 9, some 10], [], [], [], [], [], [], [], [], [], [some 1, none, none, some 12, none, none, some 13, some 14, none, some 15, none, none, some 16, some 17, some 18], [], [], [], [], [], [], [], [some 11, some 20, some 21], [], [], [some 11, some 19, some 23, some 24, some 25], [], [], [], [some 11, some 27, some 28], [], [], [some 30, some 32, some 34, some 36], [some 31], [], [some 33], [], [some 35], [], [some 37], [], [], [none, none, some 40, some 41, some 42, some 43, some 44, some 45, some 46, none, none, some 47, some 48, none, some 49, some 50, none, some 51, some 52, some 53, some 54, some 55, none, none, some 56, some 57, some 58, some 59, some 60, some 61]]
def RF : RT := fun o k => nth none (nth [] RFL o) k
theorem inGs (ws : List Cond) (ps : List Nat) (h : ws = ps.filterMap (fun i => lw_tbl[i]?)) (hg : ws.all goodWord = true) : ∀ w ∈ ws, w ∈ wsG := by
  intro w hw
  have h1 := List.all_eq_true.mp hg w hw
  rw [h] at hw
  obtain ⟨i, -, hi⟩ := List.mem_filterMap.mp hw
  exact inG i hi h1
def OIn (M : MI) (pc : Nat) : Prop := ∀ {d cap : Nat} {L : LT} {st : List Value} {o n : Nat} {R : RT} {I : IT} {J : JT} {Q : QT}, 1 ≤ d → (st.map fun v => v.category).sum ≤ 8 → Ends M d cap (pc + 3) L st n R I J Q → Ends M d cap pc L (.ref o :: st) n R I J Q
def NewO (M : MI) (pc ci N : Nat) : Prop := ∀ {d cap : Nat} {L : LT} {st : List Value} {n : Nat} {R : RT} {I : IT} {J : JT} {Q : QT}, sh n = (ci, N) → n < cap → st.all (okV n (n + 1)) = true → L.all (fun q => okV n (n + 1) q.2) = true → Ends M d cap (pc + 3) L (.ref n :: st) (n + 1) (rs2 R n none) (rs2 I n 0) (rs2 J n 0) Q → Ends M d cap pc L st n R I J Q
def NewA (M : MI) (pc ln kd : Nat) : Prop := ∀ {d cap : Nat} {L : LT} {st : List Value} {n len : Nat} {x : Int32} {R : RT} {I : IT} {J : JT} {Q : QT}, ¬ x < 0 → x.toNatClampNeg = len → len ≤ 10000 → sh n = (kd, len) → n < cap → st.all (okV n (n + 1)) = true → L.all (fun q => okV n (n + 1) q.2) = true → Ends M d cap (pc + ln) L (.ref n :: st) (n + 1) (rs2 R n none) (rs2 I n 0) (rs2 J n 0) Q → Ends M d cap pc L (.int x :: st) n R I J Q
theorem i32_of {x : Int32} {k : Int} {y : Int32} (h : x.toInt = k) (hy : y.toInt = k) : x = y := Int32.toInt_inj.mp (h.trans hy.symm)
end
section
/-! the words that the code links -/
set_option maxRecDepth 20000 in
theorem w0 : Cond.selects RX3 yX3_renewSteps yX3_renewSteps ∈ wsG := inG 0 (by decide +kernel) (by decide +kernel)
set_option maxRecDepth 20000 in
theorem w1 : Cond.selects RX3 yX3_nextTable yX3_nextTable ∈ wsG := inG 1 (by decide +kernel) (by decide +kernel)
set_option maxRecDepth 20000 in
theorem w2 : Cond.selects RX4 yX4_has yX4_has ∈ wsG := inG 2 (by decide +kernel) (by decide +kernel)
set_option maxRecDepth 20000 in
theorem w3 : Cond.selects RX3 yX3_target yX3_target ∈ wsG := inG 3 (by decide +kernel) (by decide +kernel)
set_option maxRecDepth 20000 in
theorem w4 : Cond.selects RX3 yX3_renewDistances yX3_renewDistances ∈ wsG := inG 4 (by decide +kernel) (by decide +kernel)
set_option maxRecDepth 20000 in
theorem w5 : Cond.selects RX3 yX3_image yX3_image ∈ wsG := inG 5 (by decide +kernel) (by decide +kernel)
set_option maxRecDepth 20000 in
theorem w6 : Cond.selects RX4 yX4_elderOrNew yX4_elderOrNew ∈ wsG := inG 6 (by decide +kernel) (by decide +kernel)
set_option maxRecDepth 20000 in
theorem w7 : Cond.selects RX4 yX4_isJust yX4_isJust ∈ wsG := inG 7 (by decide +kernel) (by decide +kernel)
set_option maxRecDepth 20000 in
theorem w8 : Cond.selects RX4 yX4_fillLeaf yX4_fillLeaf ∈ wsG := inG 8 (by decide +kernel) (by decide +kernel)
set_option maxRecDepth 20000 in
theorem w9 : Cond.selects RX4 yX4_fillFromParts yX4_fillFromParts ∈ wsG := inG 9 (by decide +kernel) (by decide +kernel)
set_option maxRecDepth 20000 in
theorem w10 : Cond.selects RX4 yX4_addPart yX4_addPart ∈ wsG := inG 10 (by decide +kernel) (by decide +kernel)
set_option maxRecDepth 20000 in
theorem w11 : Cond.selects RX4 yX4_tableOf yX4_tableOf ∈ wsG := inG 11 (by decide +kernel) (by decide +kernel)
set_option maxRecDepth 20000 in
theorem w12 : Cond.selects RX4 yX4_trueStates yX4_trueStates ∈ wsG := inG 12 (by decide +kernel) (by decide +kernel)
set_option maxRecDepth 20000 in
theorem w13 : Cond.selects RX2 yX2_forgetAll yX2_forgetAll ∈ wsG := inG 13 (by decide +kernel) (by decide +kernel)
set_option maxRecDepth 20000 in
theorem w14 : Cond.selects RX3 yX3_tellStarts yX3_tellStarts ∈ wsG := inG 14 (by decide +kernel) (by decide +kernel)
set_option maxRecDepth 20000 in
theorem w15 : Cond.selects RX3 yX3_renewWay yX3_renewWay ∈ wsG := inG 15 (by decide +kernel) (by decide +kernel)
set_option maxRecDepth 20000 in
theorem w16 : Cond.selects RX3 yX3_leastBrokenDistance yX3_leastBrokenDistance ∈ wsG := inG 16 (by decide +kernel) (by decide +kernel)
set_option maxRecDepth 20000 in
theorem w17 : Cond.selects RX3 yX3_sources yX3_sources ∈ wsG := inG 17 (by decide +kernel) (by decide +kernel)
set_option maxRecDepth 20000 in
theorem w18 : Cond.selects RX3 yX3_leastRowInto yX3_leastRowInto ∈ wsG := inG 18 (by decide +kernel) (by decide +kernel)
set_option maxRecDepth 20000 in
theorem w19 : Cond.selects RX3 yX3_tellNext yX3_tellNext ∈ wsG := inG 19 (by decide +kernel) (by decide +kernel)
set_option maxRecDepth 20000 in
theorem w20 : Cond.selects RX3 yX3_tellClaim yX3_tellClaim ∈ wsG := inG 20 (by decide +kernel) (by decide +kernel)
set_option maxRecDepth 20000 in
theorem w21 : Cond.selects RX3 yX3_greatestDistance yX3_greatestDistance ∈ wsG := inG 21 (by decide +kernel) (by decide +kernel)
set_option maxRecDepth 20000 in
theorem w22 : Cond.selects RX3 yX3_looseInStart yX3_looseInStart ∈ wsG := inG 22 (by decide +kernel) (by decide +kernel)
set_option maxRecDepth 20000 in
theorem w23 : Cond.selects RX3 yX3_endsBroken yX3_endsBroken ∈ wsG := inG 23 (by decide +kernel) (by decide +kernel)
set_option maxRecDepth 20000 in
theorem w24 : Cond.selects RX3 yX3_looseInRow yX3_looseInRow ∈ wsG := inG 24 (by decide +kernel) (by decide +kernel)
set_option maxRecDepth 20000 in
theorem w25 : Cond.selects RX3 yX3_coneVariables yX3_coneVariables ∈ wsG := inG 25 (by decide +kernel) (by decide +kernel)
set_option maxRecDepth 20000 in
theorem w26 : Cond.selects RX3 yX3_inputsOf yX3_inputsOf ∈ wsG := inG 26 (by decide +kernel) (by decide +kernel)
set_option maxRecDepth 20000 in
theorem w27 : Cond.selects RX3 yX3_isClear yX3_isClear ∈ wsG := inG 27 (by decide +kernel) (by decide +kernel)
set_option maxRecDepth 20000 in
theorem w28 : Cond.selects RX1 yX1_find yX1_find ∈ wsG := inG 28 (by decide +kernel) (by decide +kernel)
set_option maxRecDepth 20000 in
theorem w29 : Cond.selects RX1 yX1_isKept yX1_isKept ∈ wsG := inG 29 (by decide +kernel) (by decide +kernel)
set_option maxRecDepth 20000 in
theorem w30 : Cond.selects RX2 yX2_goodStates yX2_goodStates ∈ wsG := inG 30 (by decide +kernel) (by decide +kernel)
set_option maxRecDepth 20000 in
theorem w31 : Cond.selects RX2 yX2_threats yX2_threats ∈ wsG := inG 31 (by decide +kernel) (by decide +kernel)
set_option maxRecDepth 20000 in
theorem w32 : Cond.selects RX1 yX1_search yX1_search ∈ wsG := inG 32 (by decide +kernel) (by decide +kernel)
set_option maxRecDepth 20000 in
theorem w33 : Cond.selects RX1 yX1_extend yX1_extend ∈ wsG := inG 33 (by decide +kernel) (by decide +kernel)
set_option maxRecDepth 20000 in
theorem w34 : Cond.selects RX2 yX2_weakStates yX2_weakStates ∈ wsG := inG 34 (by decide +kernel) (by decide +kernel)
set_option maxRecDepth 20000 in
theorem w35 : Cond.selects RX2 yX2_addByStrengthening yX2_addByStrengthening ∈ wsG := inG 35 (by decide +kernel) (by decide +kernel)
set_option maxRecDepth 20000 in
theorem w36 : Cond.selects RX2 yX2_leastThatCanGo yX2_leastThatCanGo ∈ wsG := inG 36 (by decide +kernel) (by decide +kernel)
set_option maxRecDepth 20000 in
theorem w37 : Cond.selects RX2 yX2_fits yX2_fits ∈ wsG := inG 37 (by decide +kernel) (by decide +kernel)
set_option maxRecDepth 20000 in
theorem w38 : Cond.selects RX2 yX2_widestNames yX2_widestNames ∈ wsG := inG 38 (by decide +kernel) (by decide +kernel)
set_option maxRecDepth 20000 in
theorem w39 : Cond.selects RX2 yX2_add yX2_add ∈ wsG := inG 39 (by decide +kernel) (by decide +kernel)
set_option maxRecDepth 20000 in
theorem w40 : Cond.selects RX2 yX2_addIfFitting yX2_addIfFitting ∈ wsG := inG 40 (by decide +kernel) (by decide +kernel)
set_option maxRecDepth 20000 in
theorem w41 : Cond.selects RX0 yX0_hasRow yX0_hasRow ∈ wsG := inG 41 (by decide +kernel) (by decide +kernel)
set_option maxRecDepth 20000 in
theorem w42 : Cond.selects RX6 yX6_faulted yX6_faulted ∈ wsG := inG 42 (by decide +kernel) (by decide +kernel)
set_option maxRecDepth 20000 in
theorem w43 : Cond.selects RX2 yX2_removeLast yX2_removeLast ∈ wsG := inG 43 (by decide +kernel) (by decide +kernel)
set_option maxRecDepth 20000 in
theorem w44 : Cond.selects RX5 yX5_countSafe yX5_countSafe ∈ wsG := inG 44 (by decide +kernel) (by decide +kernel)
set_option maxRecDepth 20000 in
theorem w45 : Cond.selects RX5 yX5_lengthen yX5_lengthen ∈ wsG := inG 45 (by decide +kernel) (by decide +kernel)
set_option maxRecDepth 20000 in
theorem w46 : Cond.selects RX3 yX3_sumOfDistances yX3_sumOfDistances ∈ wsG := inG 46 (by decide +kernel) (by decide +kernel)
set_option maxRecDepth 20000 in
theorem w47 : Cond.selects RX0 yX0_getNewRow yX0_getNewRow ∈ wsG := inG 47 (by decide +kernel) (by decide +kernel)
set_option maxRecDepth 20000 in
theorem w48 : Cond.selects RX0 yX0_hasPlace yX0_hasPlace ∈ wsG := inG 48 (by decide +kernel) (by decide +kernel)
set_option maxRecDepth 20000 in
theorem w49 : Cond.selects RX0 yX0_admits yX0_admits ∈ wsG := inG 49 (by decide +kernel) (by decide +kernel)
set_option maxRecDepth 20000 in
theorem w50 : Cond.selects RX0 yX0_becomeLike yX0_becomeLike ∈ wsG := inG 50 (by decide +kernel) (by decide +kernel)
set_option maxRecDepth 20000 in
theorem w51 : Cond.selects RX0 yX0_hasRange yX0_hasRange ∈ wsG := inG 51 (by decide +kernel) (by decide +kernel)
set_option maxRecDepth 20000 in
theorem w52 : Cond.selects RX0 yX0_loseRow yX0_loseRow ∈ wsG := inG 52 (by decide +kernel) (by decide +kernel)
set_option maxRecDepth 20000 in
theorem w53 : Cond.selects RX6 yX6_countFilledBoxes yX6_countFilledBoxes ∈ wsG := inG 53 (by decide +kernel) (by decide +kernel)
set_option maxRecDepth 20000 in
theorem w54 : Cond.selects RX7 yX7_comes yX7_comes ∈ wsG := inG 54 (by decide +kernel) (by decide +kernel)
set_option maxRecDepth 20000 in
theorem w55 : Cond.selects RX7 yX7_find yX7_find ∈ wsG := inG 55 (by decide +kernel) (by decide +kernel)
set_option maxRecDepth 20000 in
theorem w56 : Cond.selects RX7 yX7_takes yX7_takes ∈ wsG := inG 56 (by decide +kernel) (by decide +kernel)
set_option maxRecDepth 20000 in
theorem w57 : Cond.selects RX7 yX7_evaluated yX7_evaluated ∈ wsG := inG 57 (by decide +kernel) (by decide +kernel)
set_option maxRecDepth 20000 in
theorem w58 : Cond.selects RX7 yX7_valueIn yX7_valueIn ∈ wsG := inG 58 (by decide +kernel) (by decide +kernel)
set_option maxRecDepth 20000 in
theorem w59 : Cond.selects RX7 yX7_isTerm yX7_isTerm ∈ wsG := inG 59 (by decide +kernel) (by decide +kernel)
set_option maxRecDepth 20000 in
theorem w60 : Cond.selects RX7 yX7_holdsOf yX7_holdsOf ∈ wsG := inG 60 (by decide +kernel) (by decide +kernel)
set_option maxRecDepth 20000 in
theorem w61 : Cond.selects RX7 yX7_againstStates yX7_againstStates ∈ wsG := inG 61 (by decide +kernel) (by decide +kernel)
set_option maxRecDepth 20000 in
theorem w62 : Cond.selects RX7 yX7_stepOf yX7_stepOf ∈ wsG := inG 62 (by decide +kernel) (by decide +kernel)
set_option maxRecDepth 20000 in
theorem w63 : Cond.selects RX7 yX7_beforeOf yX7_beforeOf ∈ wsG := inG 63 (by decide +kernel) (by decide +kernel)
set_option maxRecDepth 20000 in
theorem w64 : Cond.selects RX7 yX7_findFar yX7_findFar ∈ wsG := inG 64 (by decide +kernel) (by decide +kernel)
set_option maxRecDepth 20000 in
theorem w65 : Cond.selects RX7 yX7_startSet yX7_startSet ∈ wsG := inG 65 (by decide +kernel) (by decide +kernel)
set_option maxRecDepth 20000 in
theorem w66 : Cond.selects RX7 yX7_metSet yX7_metSet ∈ wsG := inG 66 (by decide +kernel) (by decide +kernel)
set_option maxRecDepth 20000 in
theorem w67 : Cond.selects RX7 yX7_greatestFar yX7_greatestFar ∈ wsG := inG 67 (by decide +kernel) (by decide +kernel)
set_option maxRecDepth 20000 in
theorem w68 : Cond.selects RX7 yX7_wayLong yX7_wayLong ∈ wsG := inG 68 (by decide +kernel) (by decide +kernel)
set_option maxRecDepth 20000 in
theorem w69 : Cond.selects RX7 yX7_brokenSet yX7_brokenSet ∈ wsG := inG 69 (by decide +kernel) (by decide +kernel)
set_option maxRecDepth 20000 in
theorem w70 : Cond.selects RX7 yX7_findWay yX7_findWay ∈ wsG := inG 70 (by decide +kernel) (by decide +kernel)
set_option maxRecDepth 20000 in
theorem w71 : Cond.selects RX7 yX7_cameFrom yX7_cameFrom ∈ wsG := inG 71 (by decide +kernel) (by decide +kernel)
set_option maxRecDepth 20000 in
theorem w72 : Cond.selects RX7 yX7_isStillBroken yX7_isStillBroken ∈ wsG := inG 72 (by decide +kernel) (by decide +kernel)
set_option maxRecDepth 20000 in
theorem w73 : Cond.selects RX7 yX7_isClear yX7_isClear ∈ wsG := inG 73 (by decide +kernel) (by decide +kernel)
set_option maxRecDepth 20000 in
theorem w74 : Cond.selects RX7 yX7_findChain yX7_findChain ∈ wsG := inG 74 (by decide +kernel) (by decide +kernel)
set_option maxRecDepth 20000 in
theorem w75 : Cond.selects RX7 yX7_goodSet yX7_goodSet ∈ wsG := inG 75 (by decide +kernel) (by decide +kernel)
set_option maxRecDepth 20000 in
theorem w76 : Cond.selects RX7 yX7_inAll yX7_inAll ∈ wsG := inG 76 (by decide +kernel) (by decide +kernel)
set_option maxRecDepth 20000 in
theorem w77 : Cond.selects RX7 yX7_lastSet yX7_lastSet ∈ wsG := inG 77 (by decide +kernel) (by decide +kernel)
set_option maxRecDepth 20000 in
theorem w78 : Cond.selects RX7 yX7_extend yX7_extend ∈ wsG := inG 78 (by decide +kernel) (by decide +kernel)
set_option maxRecDepth 20000 in
theorem w79 : Cond.selects RX7 yX7_nextRow yX7_nextRow ∈ wsG := inG 79 (by decide +kernel) (by decide +kernel)
set_option maxRecDepth 20000 in
theorem w80 : Cond.selects RX7 yX7_isNew yX7_isNew ∈ wsG := inG 80 (by decide +kernel) (by decide +kernel)
set_option maxRecDepth 20000 in
theorem w81 : Cond.selects RX7 yX7_weakSet yX7_weakSet ∈ wsG := inG 81 (by decide +kernel) (by decide +kernel)
set_option maxRecDepth 20000 in
theorem w82 : Cond.selects RX7 yX7_firstWeak yX7_firstWeak ∈ wsG := inG 82 (by decide +kernel) (by decide +kernel)
set_option maxRecDepth 20000 in
theorem w83 : Cond.selects RX7 yX7_isFit yX7_isFit ∈ wsG := inG 83 (by decide +kernel) (by decide +kernel)
set_option maxRecDepth 20000 in
theorem w84 : Cond.selects RX7 yX7_notes yX7_notes ∈ wsG := inG 84 (by decide +kernel) (by decide +kernel)
set_option maxRecDepth 20000 in
theorem w85 : Cond.selects RX7 yX7_lemmaBy yX7_lemmaBy ∈ wsG := inG 85 (by decide +kernel) (by decide +kernel)
set_option maxRecDepth 20000 in
theorem w86 : Cond.selects RX7 yX7_fails yX7_fails ∈ wsG := inG 86 (by decide +kernel) (by decide +kernel)
set_option maxRecDepth 20000 in
theorem w87 : Cond.selects RX7 yX7_goesTo yX7_goesTo ∈ wsG := inG 87 (by decide +kernel) (by decide +kernel)
set_option maxRecDepth 20000 in
theorem w88 : Cond.selects RX7 yX7_manyBoxes yX7_manyBoxes ∈ wsG := inG 88 (by decide +kernel) (by decide +kernel)
set_option maxRecDepth 20000 in
theorem w90 : Cond.initialized RX6 ∈ wsG := inG 90 (by decide +kernel) (by decide +kernel)
set_option maxRecDepth 20000 in
theorem w91 : Cond.initialized RX4 ∈ wsG := inG 91 (by decide +kernel) (by decide +kernel)
set_option maxRecDepth 20000 in
theorem w92 : Cond.initialized RX3 ∈ wsG := inG 92 (by decide +kernel) (by decide +kernel)
set_option maxRecDepth 20000 in
theorem w93 : Cond.initialized RX2 ∈ wsG := inG 93 (by decide +kernel) (by decide +kernel)
set_option maxRecDepth 20000 in
theorem w94 : Cond.initialized RX1 ∈ wsG := inG 94 (by decide +kernel) (by decide +kernel)
set_option maxRecDepth 20000 in
theorem w95 : Cond.initialized RX5 ∈ wsG := inG 95 (by decide +kernel) (by decide +kernel)
set_option maxRecDepth 20000 in
theorem w96 : Cond.initialized RX0 ∈ wsG := inG 96 (by decide +kernel) (by decide +kernel)
set_option maxRecDepth 20000 in
theorem w97 : Cond.initialized RX7 ∈ wsG := inG 97 (by decide +kernel) (by decide +kernel)
set_option maxRecDepth 20000 in
theorem w98 : Cond.initialized RJ9 ∈ wsG := inG 98 (by decide +kernel) (by decide +kernel)
set_option maxRecDepth 20000 in
theorem w99 : Cond.initialized RJ6 ∈ wsG := inG 99 (by decide +kernel) (by decide +kernel)
set_option maxRecDepth 20000 in
theorem w100 : Cond.classLink RL 7 "ClaimChains" ∈ wsG := inG 100 (by decide +kernel) (by decide +kernel)
set_option maxRecDepth 20000 in
theorem w101 : Cond.instantiable RX6 8 ∈ wsG := inG 101 (by decide +kernel) (by decide +kernel)
set_option maxRecDepth 20000 in
theorem w102 : Cond.methodLink RL 9 yX6_init ∈ wsG := inG 102 (by decide +kernel) (by decide +kernel)
set_option maxRecDepth 20000 in
theorem w103 : Cond.instanceMethod yX6_init ∈ wsG := inG 103 (by decide +kernel) (by decide +kernel)
set_option maxRecDepth 20000 in
theorem w104 : Cond.code yX6_init cX6_init 2 none ∈ wsG := inG 104 (by decide +kernel) (by decide +kernel)
set_option maxRecDepth 20000 in
theorem w105 : Cond.methodLink RX6 3 objectInit ∈ wsG := inG 105 (by decide +kernel) (by decide +kernel)
set_option maxRecDepth 20000 in
theorem w106 : Cond.instanceMethod objectInit ∈ wsG := inG 106 (by decide +kernel) (by decide +kernel)
set_option maxRecDepth 20000 in
theorem w107 : Cond.code objectInit ⟨#[0xb1]⟩ 1 none ∈ wsG := inG 107 (by decide +kernel) (by decide +kernel)
set_option maxRecDepth 20000 in
theorem w108 : Cond.classLink RX6 9 "ClaimChains$Terms" ∈ wsG := inG 108 (by decide +kernel) (by decide +kernel)
set_option maxRecDepth 20000 in
theorem w109 : Cond.instantiable RX4 10 ∈ wsG := inG 109 (by decide +kernel) (by decide +kernel)
set_option maxRecDepth 20000 in
theorem w110 : Cond.methodLinkNest RX6 11 yX4_init "ClaimChains" ∈ nwG := inN 110 (by decide +kernel) (by decide +kernel)
set_option maxRecDepth 20000 in
theorem w111 : Cond.instanceMethod yX4_init ∈ wsG := inG 111 (by decide +kernel) (by decide +kernel)
set_option maxRecDepth 20000 in
theorem w112 : Cond.code yX4_init cX4_init 1 none ∈ wsG := inG 112 (by decide +kernel) (by decide +kernel)
set_option maxRecDepth 20000 in
theorem w113 : Cond.methodLink RX4 3 objectInit ∈ wsG := inG 113 (by decide +kernel) (by decide +kernel)
set_option maxRecDepth 20000 in
theorem w114 : Cond.fieldLink RX4 11 "ClaimChains$Terms" "kinds" "[I" ∈ wsG := inG 114 (by decide +kernel) (by decide +kernel)
set_option maxRecDepth 20000 in
theorem w115 : Cond.fieldLinkNest RX6 78 "ClaimChains$Terms" "kinds" "[I" "ClaimChains" ∈ nwG := inN 115 (by decide +kernel) (by decide +kernel)
set_option maxRecDepth 20000 in
theorem w116 : Cond.fieldLink RX4 15 "ClaimChains$Terms" "firsts" "[I" ∈ wsG := inG 116 (by decide +kernel) (by decide +kernel)
set_option maxRecDepth 20000 in
theorem w117 : Cond.fieldLinkNest RX6 81 "ClaimChains$Terms" "firsts" "[I" "ClaimChains" ∈ nwG := inN 117 (by decide +kernel) (by decide +kernel)
set_option maxRecDepth 20000 in
theorem w118 : Cond.fieldLink RX4 18 "ClaimChains$Terms" "seconds" "[I" ∈ wsG := inG 118 (by decide +kernel) (by decide +kernel)
set_option maxRecDepth 20000 in
theorem w119 : Cond.fieldLinkNest RX6 84 "ClaimChains$Terms" "seconds" "[I" "ClaimChains" ∈ nwG := inN 119 (by decide +kernel) (by decide +kernel)
set_option maxRecDepth 20000 in
theorem w120 : Cond.fieldLink RX4 21 "ClaimChains$Terms" "thirds" "[I" ∈ wsG := inG 120 (by decide +kernel) (by decide +kernel)
set_option maxRecDepth 20000 in
theorem w121 : Cond.fieldLinkNest RX6 87 "ClaimChains$Terms" "thirds" "[I" "ClaimChains" ∈ nwG := inN 121 (by decide +kernel) (by decide +kernel)
set_option maxRecDepth 20000 in
theorem w122 : Cond.fieldLink RX4 24 "ClaimChains$Terms" "variables" "[I" ∈ wsG := inG 122 (by decide +kernel) (by decide +kernel)
set_option maxRecDepth 20000 in
theorem w123 : Cond.fieldLinkNest RX6 90 "ClaimChains$Terms" "variables" "[I" "ClaimChains" ∈ nwG := inN 123 (by decide +kernel) (by decide +kernel)
set_option maxRecDepth 20000 in
theorem w124 : Cond.fieldLinkNest RX3 123 "ClaimChains$Terms" "variables" "[I" "ClaimChains" ∈ nwG := inN 124 (by decide +kernel) (by decide +kernel)
set_option maxRecDepth 20000 in
theorem w125 : Cond.fieldLink RX4 27 "ClaimChains$Terms" "inputs" "[I" ∈ wsG := inG 125 (by decide +kernel) (by decide +kernel)
set_option maxRecDepth 20000 in
theorem w126 : Cond.fieldLinkNest RX6 93 "ClaimChains$Terms" "inputs" "[I" "ClaimChains" ∈ nwG := inN 126 (by decide +kernel) (by decide +kernel)
set_option maxRecDepth 20000 in
theorem w127 : Cond.fieldLinkNest RX3 126 "ClaimChains$Terms" "inputs" "[I" "ClaimChains" ∈ nwG := inN 127 (by decide +kernel) (by decide +kernel)
set_option maxRecDepth 20000 in
theorem w128 : Cond.fieldLink RX4 30 "ClaimChains$Terms" "depths" "[I" ∈ wsG := inG 128 (by decide +kernel) (by decide +kernel)
set_option maxRecDepth 20000 in
theorem w129 : Cond.fieldLinkNest RX6 96 "ClaimChains$Terms" "depths" "[I" "ClaimChains" ∈ nwG := inN 129 (by decide +kernel) (by decide +kernel)
set_option maxRecDepth 20000 in
theorem w130 : Cond.fieldLink RX4 33 "ClaimChains$Terms" "leafCounts" "[J" ∈ wsG := inG 130 (by decide +kernel) (by decide +kernel)
set_option maxRecDepth 20000 in
theorem w131 : Cond.fieldLinkNest RX6 99 "ClaimChains$Terms" "leafCounts" "[J" "ClaimChains" ∈ nwG := inN 131 (by decide +kernel) (by decide +kernel)
set_option maxRecDepth 20000 in
theorem w132 : Cond.fieldLink RX4 37 "ClaimChains$Terms" "tables" "[J" ∈ wsG := inG 132 (by decide +kernel) (by decide +kernel)
set_option maxRecDepth 20000 in
theorem w133 : Cond.fieldLinkNest RX3 86 "ClaimChains$Terms" "tables" "[J" "ClaimChains" ∈ nwG := inN 133 (by decide +kernel) (by decide +kernel)
set_option maxRecDepth 20000 in
theorem w134 : Cond.fieldLinkNest RX6 115 "ClaimChains$Terms" "tables" "[J" "ClaimChains" ∈ nwG := inN 134 (by decide +kernel) (by decide +kernel)
set_option maxRecDepth 20000 in
theorem w135 : Cond.fieldLink RX4 40 "ClaimChains$Terms" "count" "I" ∈ wsG := inG 135 (by decide +kernel) (by decide +kernel)
set_option maxRecDepth 20000 in
theorem w136 : Cond.fieldLinkNest RX6 270 "ClaimChains$Terms" "count" "I" "ClaimChains" ∈ nwG := inN 136 (by decide +kernel) (by decide +kernel)
set_option maxRecDepth 20000 in
theorem w158 : Cond.arrayClass .int ∈ wsG := inG 158 (by decide +kernel) (by decide +kernel)
set_option maxRecDepth 20000 in
theorem w159 : Cond.arrayClass .long ∈ wsG := inG 159 (by decide +kernel) (by decide +kernel)
set_option maxRecDepth 20000 in
theorem w160 : Cond.classLink RX6 18 "ClaimChains$Machine" ∈ wsG := inG 160 (by decide +kernel) (by decide +kernel)
set_option maxRecDepth 20000 in
theorem w161 : Cond.instantiable RX3 15 ∈ wsG := inG 161 (by decide +kernel) (by decide +kernel)
set_option maxRecDepth 20000 in
theorem w162 : Cond.methodLinkNest RX6 20 yX3_init "ClaimChains" ∈ nwG := inN 162 (by decide +kernel) (by decide +kernel)
set_option maxRecDepth 20000 in
theorem w163 : Cond.instanceMethod yX3_init ∈ wsG := inG 163 (by decide +kernel) (by decide +kernel)
set_option maxRecDepth 20000 in
theorem w164 : Cond.code yX3_init cX3_init 3 none ∈ wsG := inG 164 (by decide +kernel) (by decide +kernel)
set_option maxRecDepth 20000 in
theorem w165 : Cond.methodLink RX3 3 objectInit ∈ wsG := inG 165 (by decide +kernel) (by decide +kernel)
set_option maxRecDepth 20000 in
theorem w166 : Cond.constant RX3 22 (65535) ∈ wsG := inG 166 (by decide +kernel) (by decide +kernel)
set_option maxRecDepth 20000 in
theorem w167 : Cond.methodLink RX3 60 yX3_renewSteps ∈ wsG := inG 167 (by decide +kernel) (by decide +kernel)
set_option maxRecDepth 20000 in
theorem w169 : Cond.instanceMethod yX3_renewSteps ∈ wsG := inG 169 (by decide +kernel) (by decide +kernel)
set_option maxRecDepth 20000 in
theorem w170 : Cond.code yX3_renewSteps cX3_renewSteps 4 none ∈ wsG := inG 170 (by decide +kernel) (by decide +kernel)
set_option maxRecDepth 20000 in
theorem w171 : Cond.methodLink RX3 75 yX3_nextTable ∈ wsG := inG 171 (by decide +kernel) (by decide +kernel)
set_option maxRecDepth 20000 in
theorem w173 : Cond.instanceMethod yX3_nextTable ∈ wsG := inG 173 (by decide +kernel) (by decide +kernel)
set_option maxRecDepth 20000 in
theorem w174 : Cond.code yX3_nextTable cX3_nextTable 3 (some .long) ∈ wsG := inG 174 (by decide +kernel) (by decide +kernel)
set_option maxRecDepth 20000 in
theorem w175 : Cond.methodLinkNest RX3 82 yX4_has "ClaimChains" ∈ nwG := inN 175 (by decide +kernel) (by decide +kernel)
set_option maxRecDepth 20000 in
theorem w177 : Cond.instanceMethod yX4_has ∈ wsG := inG 177 (by decide +kernel) (by decide +kernel)
set_option maxRecDepth 20000 in
theorem w178 : Cond.code yX4_has cX4_has 2 (some .boolean) ∈ wsG := inG 178 (by decide +kernel) (by decide +kernel)
set_option maxRecDepth 20000 in
theorem w179 : Cond.fieldLinkNest RX3 90 "ClaimChains" "VARIABLE_TABLES" "[J" "ClaimChains" ∈ nwG := inN 179 (by decide +kernel) (by decide +kernel)
set_option maxRecDepth 20000 in
theorem w181 : Cond.methodLink RX3 79 yX3_target ∈ wsG := inG 181 (by decide +kernel) (by decide +kernel)
set_option maxRecDepth 20000 in
theorem w183 : Cond.instanceMethod yX3_target ∈ wsG := inG 183 (by decide +kernel) (by decide +kernel)
set_option maxRecDepth 20000 in
theorem w184 : Cond.code yX3_target cX3_target 3 (some .int) ∈ wsG := inG 184 (by decide +kernel) (by decide +kernel)
set_option maxRecDepth 20000 in
theorem w185 : Cond.methodLink RX3 63 yX3_renewDistances ∈ wsG := inG 185 (by decide +kernel) (by decide +kernel)
set_option maxRecDepth 20000 in
theorem w187 : Cond.instanceMethod yX3_renewDistances ∈ wsG := inG 187 (by decide +kernel) (by decide +kernel)
set_option maxRecDepth 20000 in
theorem w188 : Cond.code yX3_renewDistances cX3_renewDistances 4 none ∈ wsG := inG 188 (by decide +kernel) (by decide +kernel)
set_option maxRecDepth 20000 in
theorem w189 : Cond.methodLinkNest RX3 93 yX6_isIn "ClaimChains" ∈ nwG := inN 189 (by decide +kernel) (by decide +kernel)
set_option maxRecDepth 20000 in
theorem w190 : Cond.static yX6_isIn ∈ wsG := inG 190 (by decide +kernel) (by decide +kernel)
set_option maxRecDepth 20000 in
theorem w191 : Cond.code yX6_isIn cX6_isIn 2 (some .boolean) ∈ wsG := inG 191 (by decide +kernel) (by decide +kernel)
set_option maxRecDepth 20000 in
theorem w192 : Cond.methodLink RX3 97 yX3_image ∈ wsG := inG 192 (by decide +kernel) (by decide +kernel)
set_option maxRecDepth 20000 in
theorem w194 : Cond.instanceMethod yX3_image ∈ wsG := inG 194 (by decide +kernel) (by decide +kernel)
set_option maxRecDepth 20000 in
theorem w195 : Cond.code yX3_image cX3_image 4 (some .int) ∈ wsG := inG 195 (by decide +kernel) (by decide +kernel)
set_option maxRecDepth 20000 in
theorem w196 : Cond.fieldLink RX3 56 "ClaimChains$Machine" "terms" "LClaimChains$Terms;" ∈ wsG := inG 196 (by decide +kernel) (by decide +kernel)
set_option maxRecDepth 20000 in
theorem w197 : Cond.fieldLink RX3 9 "ClaimChains$Machine" "startsTerm" "I" ∈ wsG := inG 197 (by decide +kernel) (by decide +kernel)
set_option maxRecDepth 20000 in
theorem w198 : Cond.fieldLink RX3 15 "ClaimChains$Machine" "claimTerm" "I" ∈ wsG := inG 198 (by decide +kernel) (by decide +kernel)
set_option maxRecDepth 20000 in
theorem w199 : Cond.fieldLink RX3 18 "ClaimChains$Machine" "nextTerms" "[I" ∈ wsG := inG 199 (by decide +kernel) (by decide +kernel)
set_option maxRecDepth 20000 in
theorem w200 : Cond.fieldLink RX3 23 "ClaimChains$Machine" "startStates" "I" ∈ wsG := inG 200 (by decide +kernel) (by decide +kernel)
set_option maxRecDepth 20000 in
theorem w201 : Cond.fieldLinkNest RX5 39 "ClaimChains$Machine" "startStates" "I" "ClaimChains" ∈ nwG := inN 201 (by decide +kernel) (by decide +kernel)
set_option maxRecDepth 20000 in
theorem w202 : Cond.fieldLinkNest RX2 46 "ClaimChains$Machine" "startStates" "I" "ClaimChains" ∈ nwG := inN 202 (by decide +kernel) (by decide +kernel)
set_option maxRecDepth 20000 in
theorem w203 : Cond.fieldLinkNest RX6 159 "ClaimChains$Machine" "startStates" "I" "ClaimChains" ∈ nwG := inN 203 (by decide +kernel) (by decide +kernel)
set_option maxRecDepth 20000 in
theorem w204 : Cond.fieldLink RX3 26 "ClaimChains$Machine" "brokenStates" "I" ∈ wsG := inG 204 (by decide +kernel) (by decide +kernel)
set_option maxRecDepth 20000 in
theorem w205 : Cond.fieldLinkNest RX5 22 "ClaimChains$Machine" "brokenStates" "I" "ClaimChains" ∈ nwG := inN 205 (by decide +kernel) (by decide +kernel)
set_option maxRecDepth 20000 in
theorem w206 : Cond.fieldLinkNest RX2 30 "ClaimChains$Machine" "brokenStates" "I" "ClaimChains" ∈ nwG := inN 206 (by decide +kernel) (by decide +kernel)
set_option maxRecDepth 20000 in
theorem w207 : Cond.fieldLinkNest RX6 162 "ClaimChains$Machine" "brokenStates" "I" "ClaimChains" ∈ nwG := inN 207 (by decide +kernel) (by decide +kernel)
set_option maxRecDepth 20000 in
theorem w208 : Cond.fieldLink RX3 29 "ClaimChains$Machine" "targets" "[I" ∈ wsG := inG 208 (by decide +kernel) (by decide +kernel)
set_option maxRecDepth 20000 in
theorem w209 : Cond.fieldLink RX3 32 "ClaimChains$Machine" "reached" "[I" ∈ wsG := inG 209 (by decide +kernel) (by decide +kernel)
set_option maxRecDepth 20000 in
theorem w210 : Cond.fieldLink RX3 35 "ClaimChains$Machine" "stepsVersion" "I" ∈ wsG := inG 210 (by decide +kernel) (by decide +kernel)
set_option maxRecDepth 20000 in
theorem w211 : Cond.fieldLinkNest RX1 59 "ClaimChains$Machine" "stepsVersion" "I" "ClaimChains" ∈ nwG := inN 211 (by decide +kernel) (by decide +kernel)
set_option maxRecDepth 20000 in
theorem w212 : Cond.fieldLink RX3 38 "ClaimChains$Machine" "distances" "[I" ∈ wsG := inG 212 (by decide +kernel) (by decide +kernel)
set_option maxRecDepth 20000 in
theorem w213 : Cond.fieldLinkNest RX6 141 "ClaimChains$Machine" "distances" "[I" "ClaimChains" ∈ nwG := inN 213 (by decide +kernel) (by decide +kernel)
set_option maxRecDepth 20000 in
theorem w214 : Cond.fieldLink RX3 41 "ClaimChains$Machine" "metStates" "I" ∈ wsG := inG 214 (by decide +kernel) (by decide +kernel)
set_option maxRecDepth 20000 in
theorem w215 : Cond.fieldLinkNest RX6 144 "ClaimChains$Machine" "metStates" "I" "ClaimChains" ∈ nwG := inN 215 (by decide +kernel) (by decide +kernel)
set_option maxRecDepth 20000 in
theorem w216 : Cond.fieldLink RX3 44 "ClaimChains$Machine" "wayLength" "I" ∈ wsG := inG 216 (by decide +kernel) (by decide +kernel)
set_option maxRecDepth 20000 in
theorem w217 : Cond.fieldLinkNest RX6 156 "ClaimChains$Machine" "wayLength" "I" "ClaimChains" ∈ nwG := inN 217 (by decide +kernel) (by decide +kernel)
set_option maxRecDepth 20000 in
theorem w218 : Cond.fieldLink RX3 47 "ClaimChains$Machine" "wayStates" "[I" ∈ wsG := inG 218 (by decide +kernel) (by decide +kernel)
set_option maxRecDepth 20000 in
theorem w219 : Cond.fieldLinkNest RX6 165 "ClaimChains$Machine" "wayStates" "[I" "ClaimChains" ∈ nwG := inN 219 (by decide +kernel) (by decide +kernel)
set_option maxRecDepth 20000 in
theorem w220 : Cond.fieldLink RX3 50 "ClaimChains$Machine" "wayRows" "[I" ∈ wsG := inG 220 (by decide +kernel) (by decide +kernel)
set_option maxRecDepth 20000 in
theorem w221 : Cond.fieldLinkNest RX6 168 "ClaimChains$Machine" "wayRows" "[I" "ClaimChains" ∈ nwG := inN 221 (by decide +kernel) (by decide +kernel)
set_option maxRecDepth 20000 in
theorem w222 : Cond.fieldLink RX3 53 "ClaimChains$Machine" "leading" "[I" ∈ wsG := inG 222 (by decide +kernel) (by decide +kernel)
set_option maxRecDepth 20000 in
theorem w254 : Cond.classLink RX6 27 "ClaimChains$Lemmas" ∈ wsG := inG 254 (by decide +kernel) (by decide +kernel)
set_option maxRecDepth 20000 in
theorem w255 : Cond.instantiable RX2 5 ∈ wsG := inG 255 (by decide +kernel) (by decide +kernel)
set_option maxRecDepth 20000 in
theorem w256 : Cond.methodLinkNest RX6 29 yX2_init "ClaimChains" ∈ nwG := inN 256 (by decide +kernel) (by decide +kernel)
set_option maxRecDepth 20000 in
theorem w257 : Cond.instanceMethod yX2_init ∈ wsG := inG 257 (by decide +kernel) (by decide +kernel)
set_option maxRecDepth 20000 in
theorem w258 : Cond.code yX2_init cX2_init 2 none ∈ wsG := inG 258 (by decide +kernel) (by decide +kernel)
set_option maxRecDepth 20000 in
theorem w259 : Cond.methodLink RX2 3 objectInit ∈ wsG := inG 259 (by decide +kernel) (by decide +kernel)
set_option maxRecDepth 20000 in
theorem w260 : Cond.constant RX2 22 (65535) ∈ wsG := inG 260 (by decide +kernel) (by decide +kernel)
set_option maxRecDepth 20000 in
theorem w261 : Cond.fieldLink RX2 26 "ClaimChains$Lemmas" "machine" "LClaimChains$Machine;" ∈ wsG := inG 261 (by decide +kernel) (by decide +kernel)
set_option maxRecDepth 20000 in
theorem w262 : Cond.fieldLink RX2 11 "ClaimChains$Lemmas" "sets" "[I" ∈ wsG := inG 262 (by decide +kernel) (by decide +kernel)
set_option maxRecDepth 20000 in
theorem w263 : Cond.fieldLinkNest RX6 233 "ClaimChains$Lemmas" "sets" "[I" "ClaimChains" ∈ nwG := inN 263 (by decide +kernel) (by decide +kernel)
set_option maxRecDepth 20000 in
theorem w264 : Cond.fieldLink RX2 15 "ClaimChains$Lemmas" "cubes" "[I" ∈ wsG := inG 264 (by decide +kernel) (by decide +kernel)
set_option maxRecDepth 20000 in
theorem w265 : Cond.fieldLinkNest RX6 236 "ClaimChains$Lemmas" "cubes" "[I" "ClaimChains" ∈ nwG := inN 265 (by decide +kernel) (by decide +kernel)
set_option maxRecDepth 20000 in
theorem w266 : Cond.fieldLink RX2 18 "ClaimChains$Lemmas" "count" "I" ∈ wsG := inG 266 (by decide +kernel) (by decide +kernel)
set_option maxRecDepth 20000 in
theorem w267 : Cond.fieldLinkNest RX6 227 "ClaimChains$Lemmas" "count" "I" "ClaimChains" ∈ nwG := inN 267 (by decide +kernel) (by decide +kernel)
set_option maxRecDepth 20000 in
theorem w268 : Cond.fieldLink RX2 23 "ClaimChains$Lemmas" "common" "I" ∈ wsG := inG 268 (by decide +kernel) (by decide +kernel)
set_option maxRecDepth 20000 in
theorem w280 : Cond.classLink RX6 36 "ClaimChains$Chains" ∈ wsG := inG 280 (by decide +kernel) (by decide +kernel)
set_option maxRecDepth 20000 in
theorem w281 : Cond.instantiable RX1 10 ∈ wsG := inG 281 (by decide +kernel) (by decide +kernel)
set_option maxRecDepth 20000 in
theorem w282 : Cond.methodLinkNest RX6 38 yX1_init "ClaimChains" ∈ nwG := inN 282 (by decide +kernel) (by decide +kernel)
set_option maxRecDepth 20000 in
theorem w283 : Cond.instanceMethod yX1_init ∈ wsG := inG 283 (by decide +kernel) (by decide +kernel)
set_option maxRecDepth 20000 in
theorem w284 : Cond.code yX1_init cX1_init 3 none ∈ wsG := inG 284 (by decide +kernel) (by decide +kernel)
set_option maxRecDepth 20000 in
theorem w285 : Cond.methodLink RX1 3 objectInit ∈ wsG := inG 285 (by decide +kernel) (by decide +kernel)
set_option maxRecDepth 20000 in
theorem w286 : Cond.fieldLink RX1 38 "ClaimChains$Chains" "machine" "LClaimChains$Machine;" ∈ wsG := inG 286 (by decide +kernel) (by decide +kernel)
set_option maxRecDepth 20000 in
theorem w287 : Cond.fieldLink RX1 42 "ClaimChains$Chains" "lemmas" "LClaimChains$Lemmas;" ∈ wsG := inG 287 (by decide +kernel) (by decide +kernel)
set_option maxRecDepth 20000 in
theorem w288 : Cond.fieldLink RX1 9 "ClaimChains$Chains" "path" "[I" ∈ wsG := inG 288 (by decide +kernel) (by decide +kernel)
set_option maxRecDepth 20000 in
theorem w289 : Cond.fieldLinkNest RX6 192 "ClaimChains$Chains" "path" "[I" "ClaimChains" ∈ nwG := inN 289 (by decide +kernel) (by decide +kernel)
set_option maxRecDepth 20000 in
theorem w290 : Cond.fieldLink RX1 15 "ClaimChains$Chains" "rows" "[I" ∈ wsG := inG 290 (by decide +kernel) (by decide +kernel)
set_option maxRecDepth 20000 in
theorem w291 : Cond.fieldLinkNest RX6 195 "ClaimChains$Chains" "rows" "[I" "ClaimChains" ∈ nwG := inN 291 (by decide +kernel) (by decide +kernel)
set_option maxRecDepth 20000 in
theorem w292 : Cond.fieldLink RX1 18 "ClaimChains$Chains" "leading" "[I" ∈ wsG := inG 292 (by decide +kernel) (by decide +kernel)
set_option maxRecDepth 20000 in
theorem w293 : Cond.fieldLink RX1 21 "ClaimChains$Chains" "found" "Z" ∈ wsG := inG 293 (by decide +kernel) (by decide +kernel)
set_option maxRecDepth 20000 in
theorem w294 : Cond.fieldLink RX1 25 "ClaimChains$Chains" "keptLength" "I" ∈ wsG := inG 294 (by decide +kernel) (by decide +kernel)
set_option maxRecDepth 20000 in
theorem w295 : Cond.fieldLink RX1 29 "ClaimChains$Chains" "keptGood" "I" ∈ wsG := inG 295 (by decide +kernel) (by decide +kernel)
set_option maxRecDepth 20000 in
theorem w296 : Cond.fieldLink RX1 32 "ClaimChains$Chains" "keptThreats" "I" ∈ wsG := inG 296 (by decide +kernel) (by decide +kernel)
set_option maxRecDepth 20000 in
theorem w297 : Cond.fieldLink RX1 35 "ClaimChains$Chains" "keptVersion" "I" ∈ wsG := inG 297 (by decide +kernel) (by decide +kernel)
set_option maxRecDepth 20000 in
theorem w319 : Cond.classLink RX6 45 "ClaimChains$Walks" ∈ wsG := inG 319 (by decide +kernel) (by decide +kernel)
set_option maxRecDepth 20000 in
theorem w320 : Cond.instantiable RX5 3 ∈ wsG := inG 320 (by decide +kernel) (by decide +kernel)
set_option maxRecDepth 20000 in
theorem w321 : Cond.methodLinkNest RX6 47 yX5_init "ClaimChains" ∈ nwG := inN 321 (by decide +kernel) (by decide +kernel)
set_option maxRecDepth 20000 in
theorem w322 : Cond.instanceMethod yX5_init ∈ wsG := inG 322 (by decide +kernel) (by decide +kernel)
set_option maxRecDepth 20000 in
theorem w323 : Cond.code yX5_init cX5_init 2 none ∈ wsG := inG 323 (by decide +kernel) (by decide +kernel)
set_option maxRecDepth 20000 in
theorem w324 : Cond.methodLink RX5 3 objectInit ∈ wsG := inG 324 (by decide +kernel) (by decide +kernel)
set_option maxRecDepth 20000 in
theorem w325 : Cond.fieldLink RX5 18 "ClaimChains$Walks" "machine" "LClaimChains$Machine;" ∈ wsG := inG 325 (by decide +kernel) (by decide +kernel)
set_option maxRecDepth 20000 in
theorem w326 : Cond.fieldLink RX5 9 "ClaimChains$Walks" "shorter" "[I" ∈ wsG := inG 326 (by decide +kernel) (by decide +kernel)
set_option maxRecDepth 20000 in
theorem w327 : Cond.fieldLink RX5 15 "ClaimChains$Walks" "safe" "[I" ∈ wsG := inG 327 (by decide +kernel) (by decide +kernel)
set_option maxRecDepth 20000 in
theorem w335 : Cond.classLink RX6 52 "ClaimChains$Box" ∈ wsG := inG 335 (by decide +kernel) (by decide +kernel)
set_option maxRecDepth 20000 in
theorem w337 : Cond.instantiable RX0 3 ∈ wsG := inG 337 (by decide +kernel) (by decide +kernel)
set_option maxRecDepth 20000 in
theorem w338 : Cond.methodLinkNest RX6 58 yX0_init "ClaimChains" ∈ nwG := inN 338 (by decide +kernel) (by decide +kernel)
set_option maxRecDepth 20000 in
theorem w339 : Cond.instanceMethod yX0_init ∈ wsG := inG 339 (by decide +kernel) (by decide +kernel)
set_option maxRecDepth 20000 in
theorem w340 : Cond.code yX0_init cX0_init 1 none ∈ wsG := inG 340 (by decide +kernel) (by decide +kernel)
set_option maxRecDepth 20000 in
theorem w341 : Cond.methodLink RX0 3 objectInit ∈ wsG := inG 341 (by decide +kernel) (by decide +kernel)
set_option maxRecDepth 20000 in
theorem w342 : Cond.fieldLink RX0 11 "ClaimChains$Box" "places" "[I" ∈ wsG := inG 342 (by decide +kernel) (by decide +kernel)
set_option maxRecDepth 20000 in
theorem w343 : Cond.fieldLinkNest RX6 224 "ClaimChains$Box" "places" "[I" "ClaimChains" ∈ nwG := inN 343 (by decide +kernel) (by decide +kernel)
set_option maxRecDepth 20000 in
theorem w344 : Cond.fieldLink RX0 15 "ClaimChains$Box" "sort" "I" ∈ wsG := inG 344 (by decide +kernel) (by decide +kernel)
set_option maxRecDepth 20000 in
theorem w345 : Cond.fieldLink RX0 19 "ClaimChains$Box" "length" "I" ∈ wsG := inG 345 (by decide +kernel) (by decide +kernel)
set_option maxRecDepth 20000 in
theorem w346 : Cond.fieldLinkNest RX6 221 "ClaimChains$Box" "length" "I" "ClaimChains" ∈ nwG := inN 346 (by decide +kernel) (by decide +kernel)
set_option maxRecDepth 20000 in
theorem w354 : Cond.fieldLink RX6 12 "ClaimChains" "terms" "LClaimChains$Terms;" ∈ wsG := inG 354 (by decide +kernel) (by decide +kernel)
set_option maxRecDepth 20000 in
theorem w355 : Cond.fieldLink RX6 23 "ClaimChains" "machine" "LClaimChains$Machine;" ∈ wsG := inG 355 (by decide +kernel) (by decide +kernel)
set_option maxRecDepth 20000 in
theorem w356 : Cond.fieldLink RX6 32 "ClaimChains" "lemmas" "LClaimChains$Lemmas;" ∈ wsG := inG 356 (by decide +kernel) (by decide +kernel)
set_option maxRecDepth 20000 in
theorem w357 : Cond.fieldLink RX6 41 "ClaimChains" "chains" "LClaimChains$Chains;" ∈ wsG := inG 357 (by decide +kernel) (by decide +kernel)
set_option maxRecDepth 20000 in
theorem w358 : Cond.fieldLink RX6 48 "ClaimChains" "walks" "LClaimChains$Walks;" ∈ wsG := inG 358 (by decide +kernel) (by decide +kernel)
set_option maxRecDepth 20000 in
theorem w359 : Cond.fieldLink RX6 54 "ClaimChains" "boxes" "[LClaimChains$Box;" ∈ wsG := inG 359 (by decide +kernel) (by decide +kernel)
set_option maxRecDepth 20000 in
theorem w360 : Cond.fieldLink RX6 59 "ClaimChains" "carried" "[I" ∈ wsG := inG 360 (by decide +kernel) (by decide +kernel)
set_option maxRecDepth 20000 in
theorem w361 : Cond.fieldLink RX6 63 "ClaimChains" "latestFault" "I" ∈ wsG := inG 361 (by decide +kernel) (by decide +kernel)
set_option maxRecDepth 20000 in
theorem w379 : Cond.methodLink RL 13 yX6_leaf ∈ wsG := inG 379 (by decide +kernel) (by decide +kernel)
set_option maxRecDepth 20000 in
theorem w380 : Cond.instanceMethod yX6_leaf ∈ wsG := inG 380 (by decide +kernel) (by decide +kernel)
set_option maxRecDepth 20000 in
theorem w381 : Cond.selects RX6 yX6_leaf yX6_leaf ∈ wsG := inG 381 (by decide +kernel) (by decide +kernel)
set_option maxRecDepth 20000 in
theorem w382 : Cond.code yX6_leaf cX6_leaf 3 (some .int) ∈ wsG := inG 382 (by decide +kernel) (by decide +kernel)
set_option maxRecDepth 20000 in
theorem w383 : Cond.fieldLink RX6 67 "ClaimChains" "LEAF_NUMBERS" "[I" ∈ wsG := inG 383 (by decide +kernel) (by decide +kernel)
set_option maxRecDepth 20000 in
theorem w385 : Cond.methodLinkNest RX6 70 yX4_elderOrNew "ClaimChains" ∈ nwG := inN 385 (by decide +kernel) (by decide +kernel)
set_option maxRecDepth 20000 in
theorem w387 : Cond.instanceMethod yX4_elderOrNew ∈ wsG := inG 387 (by decide +kernel) (by decide +kernel)
set_option maxRecDepth 20000 in
theorem w388 : Cond.code yX4_elderOrNew cX4_elderOrNew 6 (some .int) ∈ wsG := inG 388 (by decide +kernel) (by decide +kernel)
set_option maxRecDepth 20000 in
theorem w389 : Cond.methodLink RX4 45 yX4_isJust ∈ wsG := inG 389 (by decide +kernel) (by decide +kernel)
set_option maxRecDepth 20000 in
theorem w391 : Cond.instanceMethod yX4_isJust ∈ wsG := inG 391 (by decide +kernel) (by decide +kernel)
set_option maxRecDepth 20000 in
theorem w392 : Cond.code yX4_isJust cX4_isJust 6 (some .boolean) ∈ wsG := inG 392 (by decide +kernel) (by decide +kernel)
set_option maxRecDepth 20000 in
theorem w393 : Cond.methodLink RX4 49 yX4_fillLeaf ∈ wsG := inG 393 (by decide +kernel) (by decide +kernel)
set_option maxRecDepth 20000 in
theorem w395 : Cond.instanceMethod yX4_fillLeaf ∈ wsG := inG 395 (by decide +kernel) (by decide +kernel)
set_option maxRecDepth 20000 in
theorem w396 : Cond.code yX4_fillLeaf cX4_fillLeaf 3 none ∈ wsG := inG 396 (by decide +kernel) (by decide +kernel)
set_option maxRecDepth 20000 in
theorem w397 : Cond.methodLink RX4 56 yX4_leafTable ∈ wsG := inG 397 (by decide +kernel) (by decide +kernel)
set_option maxRecDepth 20000 in
theorem w398 : Cond.static yX4_leafTable ∈ wsG := inG 398 (by decide +kernel) (by decide +kernel)
set_option maxRecDepth 20000 in
theorem w399 : Cond.code yX4_leafTable cX4_leafTable 2 (some .long) ∈ wsG := inG 399 (by decide +kernel) (by decide +kernel)
set_option maxRecDepth 20000 in
theorem w400 : Cond.fieldLinkNest RX4 60 "ClaimChains" "CONSTANT_TABLES" "[J" "ClaimChains" ∈ nwG := inN 400 (by decide +kernel) (by decide +kernel)
set_option maxRecDepth 20000 in
theorem w402 : Cond.fieldLinkNest RX4 63 "ClaimChains" "VARIABLE_TABLES" "[J" "ClaimChains" ∈ nwG := inN 402 (by decide +kernel) (by decide +kernel)
set_option maxRecDepth 20000 in
theorem w403 : Cond.fieldLinkNest RX4 66 "ClaimChains" "INPUT_TABLES" "[J" "ClaimChains" ∈ nwG := inN 403 (by decide +kernel) (by decide +kernel)
set_option maxRecDepth 20000 in
theorem w405 : Cond.methodLink RX4 53 yX4_fillFromParts ∈ wsG := inG 405 (by decide +kernel) (by decide +kernel)
set_option maxRecDepth 20000 in
theorem w407 : Cond.instanceMethod yX4_fillFromParts ∈ wsG := inG 407 (by decide +kernel) (by decide +kernel)
set_option maxRecDepth 20000 in
theorem w408 : Cond.code yX4_fillFromParts cX4_fillFromParts 2 none ∈ wsG := inG 408 (by decide +kernel) (by decide +kernel)
set_option maxRecDepth 20000 in
theorem w409 : Cond.methodLink RX4 69 yX4_addPart ∈ wsG := inG 409 (by decide +kernel) (by decide +kernel)
set_option maxRecDepth 20000 in
theorem w411 : Cond.instanceMethod yX4_addPart ∈ wsG := inG 411 (by decide +kernel) (by decide +kernel)
set_option maxRecDepth 20000 in
theorem w412 : Cond.code yX4_addPart cX4_addPart 3 none ∈ wsG := inG 412 (by decide +kernel) (by decide +kernel)
set_option maxRecDepth 20000 in
theorem w413 : Cond.methodLink RX4 81 yX4_has ∈ wsG := inG 413 (by decide +kernel) (by decide +kernel)
set_option maxRecDepth 20000 in
theorem w414 : Cond.methodLink RX4 85 yJ9_max_7cf53 ∈ wsG := inG 414 (by decide +kernel) (by decide +kernel)
set_option maxRecDepth 20000 in
theorem w415 : Cond.static yJ9_max_7cf53 ∈ wsG := inG 415 (by decide +kernel) (by decide +kernel)
set_option maxRecDepth 20000 in
theorem w416 : Cond.code yJ9_max_7cf53 cJ9_max_7cf53 2 (some .int) ∈ wsG := inG 416 (by decide +kernel) (by decide +kernel)
set_option maxRecDepth 20000 in
theorem w417 : Cond.methodLink RX4 73 yX4_tableOf ∈ wsG := inG 417 (by decide +kernel) (by decide +kernel)
set_option maxRecDepth 20000 in
theorem w419 : Cond.instanceMethod yX4_tableOf ∈ wsG := inG 419 (by decide +kernel) (by decide +kernel)
set_option maxRecDepth 20000 in
theorem w420 : Cond.code yX4_tableOf cX4_tableOf 2 (some .long) ∈ wsG := inG 420 (by decide +kernel) (by decide +kernel)
set_option maxRecDepth 20000 in
theorem w421 : Cond.methodLink RX4 77 yX4_joinedTable ∈ wsG := inG 421 (by decide +kernel) (by decide +kernel)
set_option maxRecDepth 20000 in
theorem w422 : Cond.static yX4_joinedTable ∈ wsG := inG 422 (by decide +kernel) (by decide +kernel)
set_option maxRecDepth 20000 in
theorem w423 : Cond.code yX4_joinedTable cX4_joinedTable 7 (some .long) ∈ wsG := inG 423 (by decide +kernel) (by decide +kernel)
set_option maxRecDepth 20000 in
theorem w424 : Cond.constantLong RX4 91 (-1) ∈ wsG := inG 424 (by decide +kernel) (by decide +kernel)
set_option maxRecDepth 20000 in
theorem w425 : Cond.methodLink RL 18 yX6_gate ∈ wsG := inG 425 (by decide +kernel) (by decide +kernel)
set_option maxRecDepth 20000 in
theorem w426 : Cond.instanceMethod yX6_gate ∈ wsG := inG 426 (by decide +kernel) (by decide +kernel)
set_option maxRecDepth 20000 in
theorem w427 : Cond.selects RX6 yX6_gate yX6_gate ∈ wsG := inG 427 (by decide +kernel) (by decide +kernel)
set_option maxRecDepth 20000 in
theorem w428 : Cond.code yX6_gate cX6_gate 4 (some .int) ∈ wsG := inG 428 (by decide +kernel) (by decide +kernel)
set_option maxRecDepth 20000 in
theorem w429 : Cond.methodLinkNest RX6 74 yX4_has "ClaimChains" ∈ nwG := inN 429 (by decide +kernel) (by decide +kernel)
set_option maxRecDepth 20000 in
theorem w430 : Cond.methodLink RL 23 yX6_choice ∈ wsG := inG 430 (by decide +kernel) (by decide +kernel)
set_option maxRecDepth 20000 in
theorem w431 : Cond.instanceMethod yX6_choice ∈ wsG := inG 431 (by decide +kernel) (by decide +kernel)
set_option maxRecDepth 20000 in
theorem w432 : Cond.selects RX6 yX6_choice yX6_choice ∈ wsG := inG 432 (by decide +kernel) (by decide +kernel)
set_option maxRecDepth 20000 in
theorem w433 : Cond.code yX6_choice cX6_choice 4 (some .int) ∈ wsG := inG 433 (by decide +kernel) (by decide +kernel)
set_option maxRecDepth 20000 in
theorem w434 : Cond.methodLink RL 27 yX6_ofTerm ∈ wsG := inG 434 (by decide +kernel) (by decide +kernel)
set_option maxRecDepth 20000 in
theorem w435 : Cond.instanceMethod yX6_ofTerm ∈ wsG := inG 435 (by decide +kernel) (by decide +kernel)
set_option maxRecDepth 20000 in
theorem w436 : Cond.selects RX6 yX6_ofTerm yX6_ofTerm ∈ wsG := inG 436 (by decide +kernel) (by decide +kernel)
set_option maxRecDepth 20000 in
theorem w437 : Cond.code yX6_ofTerm cX6_ofTerm 3 (some .int) ∈ wsG := inG 437 (by decide +kernel) (by decide +kernel)
set_option maxRecDepth 20000 in
theorem w438 : Cond.methodLink RL 31 yX6_leaves ∈ wsG := inG 438 (by decide +kernel) (by decide +kernel)
set_option maxRecDepth 20000 in
theorem w439 : Cond.instanceMethod yX6_leaves ∈ wsG := inG 439 (by decide +kernel) (by decide +kernel)
set_option maxRecDepth 20000 in
theorem w440 : Cond.selects RX6 yX6_leaves yX6_leaves ∈ wsG := inG 440 (by decide +kernel) (by decide +kernel)
set_option maxRecDepth 20000 in
theorem w441 : Cond.code yX6_leaves cX6_leaves 2 (some .long) ∈ wsG := inG 441 (by decide +kernel) (by decide +kernel)
set_option maxRecDepth 20000 in
theorem w442 : Cond.constantLong RX6 103 (-9223372036854775808) ∈ wsG := inG 442 (by decide +kernel) (by decide +kernel)
set_option maxRecDepth 20000 in
theorem w443 : Cond.methodLink RL 36 yX6_value ∈ wsG := inG 443 (by decide +kernel) (by decide +kernel)
set_option maxRecDepth 20000 in
theorem w444 : Cond.instanceMethod yX6_value ∈ wsG := inG 444 (by decide +kernel) (by decide +kernel)
set_option maxRecDepth 20000 in
theorem w445 : Cond.selects RX6 yX6_value yX6_value ∈ wsG := inG 445 (by decide +kernel) (by decide +kernel)
set_option maxRecDepth 20000 in
theorem w446 : Cond.code yX6_value cX6_value 4 (some .int) ∈ wsG := inG 446 (by decide +kernel) (by decide +kernel)
set_option maxRecDepth 20000 in
theorem w447 : Cond.methodLink RX6 105 yX6_isState ∈ wsG := inG 447 (by decide +kernel) (by decide +kernel)
set_option maxRecDepth 20000 in
theorem w448 : Cond.static yX6_isState ∈ wsG := inG 448 (by decide +kernel) (by decide +kernel)
set_option maxRecDepth 20000 in
theorem w449 : Cond.code yX6_isState cX6_isState 1 (some .boolean) ∈ wsG := inG 449 (by decide +kernel) (by decide +kernel)
set_option maxRecDepth 20000 in
theorem w450 : Cond.methodLink RX6 108 yX6_isRow ∈ wsG := inG 450 (by decide +kernel) (by decide +kernel)
set_option maxRecDepth 20000 in
theorem w451 : Cond.static yX6_isRow ∈ wsG := inG 451 (by decide +kernel) (by decide +kernel)
set_option maxRecDepth 20000 in
theorem w452 : Cond.code yX6_isRow cX6_isRow 1 (some .boolean) ∈ wsG := inG 452 (by decide +kernel) (by decide +kernel)
set_option maxRecDepth 20000 in
theorem w453 : Cond.methodLinkNest RX6 111 yX4_trueStates "ClaimChains" ∈ nwG := inN 453 (by decide +kernel) (by decide +kernel)
set_option maxRecDepth 20000 in
theorem w455 : Cond.instanceMethod yX4_trueStates ∈ wsG := inG 455 (by decide +kernel) (by decide +kernel)
set_option maxRecDepth 20000 in
theorem w456 : Cond.code yX4_trueStates cX4_trueStates 3 (some .int) ∈ wsG := inG 456 (by decide +kernel) (by decide +kernel)
set_option maxRecDepth 20000 in
theorem w457 : Cond.constant RX4 44 (65535) ∈ wsG := inG 457 (by decide +kernel) (by decide +kernel)
set_option maxRecDepth 20000 in
theorem w458 : Cond.methodLink RL 40 yX6_holds ∈ wsG := inG 458 (by decide +kernel) (by decide +kernel)
set_option maxRecDepth 20000 in
theorem w459 : Cond.instanceMethod yX6_holds ∈ wsG := inG 459 (by decide +kernel) (by decide +kernel)
set_option maxRecDepth 20000 in
theorem w460 : Cond.selects RX6 yX6_holds yX6_holds ∈ wsG := inG 460 (by decide +kernel) (by decide +kernel)
set_option maxRecDepth 20000 in
theorem w461 : Cond.code yX6_holds cX6_holds 3 (some .int) ∈ wsG := inG 461 (by decide +kernel) (by decide +kernel)
set_option maxRecDepth 20000 in
theorem w462 : Cond.methodLink RL 44 yX6_alike ∈ wsG := inG 462 (by decide +kernel) (by decide +kernel)
set_option maxRecDepth 20000 in
theorem w463 : Cond.instanceMethod yX6_alike ∈ wsG := inG 463 (by decide +kernel) (by decide +kernel)
set_option maxRecDepth 20000 in
theorem w464 : Cond.selects RX6 yX6_alike yX6_alike ∈ wsG := inG 464 (by decide +kernel) (by decide +kernel)
set_option maxRecDepth 20000 in
theorem w465 : Cond.code yX6_alike cX6_alike 3 (some .int) ∈ wsG := inG 465 (by decide +kernel) (by decide +kernel)
set_option maxRecDepth 20000 in
theorem w466 : Cond.methodLink RX6 118 yX6_bit ∈ wsG := inG 466 (by decide +kernel) (by decide +kernel)
set_option maxRecDepth 20000 in
theorem w467 : Cond.static yX6_bit ∈ wsG := inG 467 (by decide +kernel) (by decide +kernel)
set_option maxRecDepth 20000 in
theorem w468 : Cond.code yX6_bit cX6_bit 1 (some .int) ∈ wsG := inG 468 (by decide +kernel) (by decide +kernel)
set_option maxRecDepth 20000 in
theorem w469 : Cond.methodLink RL 48 yX6_starts ∈ wsG := inG 469 (by decide +kernel) (by decide +kernel)
set_option maxRecDepth 20000 in
theorem w470 : Cond.instanceMethod yX6_starts ∈ wsG := inG 470 (by decide +kernel) (by decide +kernel)
set_option maxRecDepth 20000 in
theorem w471 : Cond.selects RX6 yX6_starts yX6_starts ∈ wsG := inG 471 (by decide +kernel) (by decide +kernel)
set_option maxRecDepth 20000 in
theorem w472 : Cond.code yX6_starts cX6_starts 2 (some .int) ∈ wsG := inG 472 (by decide +kernel) (by decide +kernel)
set_option maxRecDepth 20000 in
theorem w473 : Cond.methodLinkNest RX6 122 yX2_forgetAll "ClaimChains" ∈ nwG := inN 473 (by decide +kernel) (by decide +kernel)
set_option maxRecDepth 20000 in
theorem w475 : Cond.instanceMethod yX2_forgetAll ∈ wsG := inG 475 (by decide +kernel) (by decide +kernel)
set_option maxRecDepth 20000 in
theorem w476 : Cond.code yX2_forgetAll cX2_forgetAll 1 none ∈ wsG := inG 476 (by decide +kernel) (by decide +kernel)
set_option maxRecDepth 20000 in
theorem w477 : Cond.methodLinkNest RX6 125 yX3_tellStarts "ClaimChains" ∈ nwG := inN 477 (by decide +kernel) (by decide +kernel)
set_option maxRecDepth 20000 in
theorem w479 : Cond.instanceMethod yX3_tellStarts ∈ wsG := inG 479 (by decide +kernel) (by decide +kernel)
set_option maxRecDepth 20000 in
theorem w480 : Cond.code yX3_tellStarts cX3_tellStarts 3 (some .int) ∈ wsG := inG 480 (by decide +kernel) (by decide +kernel)
set_option maxRecDepth 20000 in
theorem w481 : Cond.methodLinkNest RX3 66 yX4_trueStates "ClaimChains" ∈ nwG := inN 481 (by decide +kernel) (by decide +kernel)
set_option maxRecDepth 20000 in
theorem w482 : Cond.methodLink RX3 72 yX3_renewWay ∈ wsG := inG 482 (by decide +kernel) (by decide +kernel)
set_option maxRecDepth 20000 in
theorem w484 : Cond.instanceMethod yX3_renewWay ∈ wsG := inG 484 (by decide +kernel) (by decide +kernel)
set_option maxRecDepth 20000 in
theorem w485 : Cond.code yX3_renewWay cX3_renewWay 3 none ∈ wsG := inG 485 (by decide +kernel) (by decide +kernel)
set_option maxRecDepth 20000 in
theorem w486 : Cond.methodLink RX3 106 yX3_leastBrokenDistance ∈ wsG := inG 486 (by decide +kernel) (by decide +kernel)
set_option maxRecDepth 20000 in
theorem w488 : Cond.instanceMethod yX3_leastBrokenDistance ∈ wsG := inG 488 (by decide +kernel) (by decide +kernel)
set_option maxRecDepth 20000 in
theorem w489 : Cond.code yX3_leastBrokenDistance cX3_leastBrokenDistance 3 (some .int) ∈ wsG := inG 489 (by decide +kernel) (by decide +kernel)
set_option maxRecDepth 20000 in
theorem w490 : Cond.methodLink RX3 110 yX3_sources ∈ wsG := inG 490 (by decide +kernel) (by decide +kernel)
set_option maxRecDepth 20000 in
theorem w492 : Cond.instanceMethod yX3_sources ∈ wsG := inG 492 (by decide +kernel) (by decide +kernel)
set_option maxRecDepth 20000 in
theorem w493 : Cond.code yX3_sources cX3_sources 4 (some .int) ∈ wsG := inG 493 (by decide +kernel) (by decide +kernel)
set_option maxRecDepth 20000 in
theorem w494 : Cond.methodLinkNest RX3 113 yX6_leastOf "ClaimChains" ∈ nwG := inN 494 (by decide +kernel) (by decide +kernel)
set_option maxRecDepth 20000 in
theorem w495 : Cond.static yX6_leastOf ∈ wsG := inG 495 (by decide +kernel) (by decide +kernel)
set_option maxRecDepth 20000 in
theorem w496 : Cond.code yX6_leastOf cX6_leastOf 2 (some .int) ∈ wsG := inG 496 (by decide +kernel) (by decide +kernel)
set_option maxRecDepth 20000 in
theorem w497 : Cond.methodLink RX6 274 yX6_isIn ∈ wsG := inG 497 (by decide +kernel) (by decide +kernel)
set_option maxRecDepth 20000 in
theorem w498 : Cond.methodLink RX3 101 yJ9_max_7cf53 ∈ wsG := inG 498 (by decide +kernel) (by decide +kernel)
set_option maxRecDepth 20000 in
theorem w499 : Cond.methodLink RX3 116 yX3_leastRowInto ∈ wsG := inG 499 (by decide +kernel) (by decide +kernel)
set_option maxRecDepth 20000 in
theorem w501 : Cond.instanceMethod yX3_leastRowInto ∈ wsG := inG 501 (by decide +kernel) (by decide +kernel)
set_option maxRecDepth 20000 in
theorem w502 : Cond.code yX3_leastRowInto cX3_leastRowInto 4 (some .int) ∈ wsG := inG 502 (by decide +kernel) (by decide +kernel)
set_option maxRecDepth 20000 in
theorem w503 : Cond.methodLink RL 53 yX6_next ∈ wsG := inG 503 (by decide +kernel) (by decide +kernel)
set_option maxRecDepth 20000 in
theorem w504 : Cond.instanceMethod yX6_next ∈ wsG := inG 504 (by decide +kernel) (by decide +kernel)
set_option maxRecDepth 20000 in
theorem w505 : Cond.selects RX6 yX6_next yX6_next ∈ wsG := inG 505 (by decide +kernel) (by decide +kernel)
set_option maxRecDepth 20000 in
theorem w506 : Cond.code yX6_next cX6_next 3 (some .int) ∈ wsG := inG 506 (by decide +kernel) (by decide +kernel)
set_option maxRecDepth 20000 in
theorem w507 : Cond.methodLinkNest RX6 129 yX3_tellNext "ClaimChains" ∈ nwG := inN 507 (by decide +kernel) (by decide +kernel)
set_option maxRecDepth 20000 in
theorem w509 : Cond.instanceMethod yX3_tellNext ∈ wsG := inG 509 (by decide +kernel) (by decide +kernel)
set_option maxRecDepth 20000 in
theorem w510 : Cond.code yX3_tellNext cX3_tellNext 4 (some .int) ∈ wsG := inG 510 (by decide +kernel) (by decide +kernel)
set_option maxRecDepth 20000 in
theorem w511 : Cond.methodLink RL 57 yX6_claim ∈ wsG := inG 511 (by decide +kernel) (by decide +kernel)
set_option maxRecDepth 20000 in
theorem w512 : Cond.instanceMethod yX6_claim ∈ wsG := inG 512 (by decide +kernel) (by decide +kernel)
set_option maxRecDepth 20000 in
theorem w513 : Cond.selects RX6 yX6_claim yX6_claim ∈ wsG := inG 513 (by decide +kernel) (by decide +kernel)
set_option maxRecDepth 20000 in
theorem w514 : Cond.code yX6_claim cX6_claim 2 (some .int) ∈ wsG := inG 514 (by decide +kernel) (by decide +kernel)
set_option maxRecDepth 20000 in
theorem w515 : Cond.methodLinkNest RX6 132 yX3_tellClaim "ClaimChains" ∈ nwG := inN 515 (by decide +kernel) (by decide +kernel)
set_option maxRecDepth 20000 in
theorem w517 : Cond.instanceMethod yX3_tellClaim ∈ wsG := inG 517 (by decide +kernel) (by decide +kernel)
set_option maxRecDepth 20000 in
theorem w518 : Cond.code yX3_tellClaim cX3_tellClaim 3 (some .int) ∈ wsG := inG 518 (by decide +kernel) (by decide +kernel)
set_option maxRecDepth 20000 in
theorem w519 : Cond.methodLink RL 61 yX6_step ∈ wsG := inG 519 (by decide +kernel) (by decide +kernel)
set_option maxRecDepth 20000 in
theorem w520 : Cond.instanceMethod yX6_step ∈ wsG := inG 520 (by decide +kernel) (by decide +kernel)
set_option maxRecDepth 20000 in
theorem w521 : Cond.selects RX6 yX6_step yX6_step ∈ wsG := inG 521 (by decide +kernel) (by decide +kernel)
set_option maxRecDepth 20000 in
theorem w522 : Cond.code yX6_step cX6_step 3 (some .int) ∈ wsG := inG 522 (by decide +kernel) (by decide +kernel)
set_option maxRecDepth 20000 in
theorem w523 : Cond.methodLinkNest RX6 135 yX3_target "ClaimChains" ∈ nwG := inN 523 (by decide +kernel) (by decide +kernel)
set_option maxRecDepth 20000 in
theorem w524 : Cond.methodLink RL 65 yX6_before ∈ wsG := inG 524 (by decide +kernel) (by decide +kernel)
set_option maxRecDepth 20000 in
theorem w525 : Cond.instanceMethod yX6_before ∈ wsG := inG 525 (by decide +kernel) (by decide +kernel)
set_option maxRecDepth 20000 in
theorem w526 : Cond.selects RX6 yX6_before yX6_before ∈ wsG := inG 526 (by decide +kernel) (by decide +kernel)
set_option maxRecDepth 20000 in
theorem w527 : Cond.code yX6_before cX6_before 2 (some .int) ∈ wsG := inG 527 (by decide +kernel) (by decide +kernel)
set_option maxRecDepth 20000 in
theorem w528 : Cond.methodLinkNest RX6 138 yX3_sources "ClaimChains" ∈ nwG := inN 528 (by decide +kernel) (by decide +kernel)
set_option maxRecDepth 20000 in
theorem w529 : Cond.methodLink RL 69 yX6_distance ∈ wsG := inG 529 (by decide +kernel) (by decide +kernel)
set_option maxRecDepth 20000 in
theorem w530 : Cond.instanceMethod yX6_distance ∈ wsG := inG 530 (by decide +kernel) (by decide +kernel)
set_option maxRecDepth 20000 in
theorem w531 : Cond.selects RX6 yX6_distance yX6_distance ∈ wsG := inG 531 (by decide +kernel) (by decide +kernel)
set_option maxRecDepth 20000 in
theorem w532 : Cond.code yX6_distance cX6_distance 2 (some .int) ∈ wsG := inG 532 (by decide +kernel) (by decide +kernel)
set_option maxRecDepth 20000 in
theorem w533 : Cond.methodLink RL 73 yX6_met ∈ wsG := inG 533 (by decide +kernel) (by decide +kernel)
set_option maxRecDepth 20000 in
theorem w534 : Cond.instanceMethod yX6_met ∈ wsG := inG 534 (by decide +kernel) (by decide +kernel)
set_option maxRecDepth 20000 in
theorem w535 : Cond.selects RX6 yX6_met yX6_met ∈ wsG := inG 535 (by decide +kernel) (by decide +kernel)
set_option maxRecDepth 20000 in
theorem w536 : Cond.code yX6_met cX6_met 2 (some .int) ∈ wsG := inG 536 (by decide +kernel) (by decide +kernel)
set_option maxRecDepth 20000 in
theorem w537 : Cond.methodLink RX6 147 yJ6_bitCount_0f7a4 ∈ wsG := inG 537 (by decide +kernel) (by decide +kernel)
set_option maxRecDepth 20000 in
theorem w538 : Cond.static yJ6_bitCount_0f7a4 ∈ wsG := inG 538 (by decide +kernel) (by decide +kernel)
set_option maxRecDepth 20000 in
theorem w539 : Cond.code yJ6_bitCount_0f7a4 cJ6_bitCount_0f7a4 1 (some .int) ∈ wsG := inG 539 (by decide +kernel) (by decide +kernel)
set_option maxRecDepth 20000 in
theorem w540 : Cond.constant RJ6 265 (1431655765) ∈ wsG := inG 540 (by decide +kernel) (by decide +kernel)
set_option maxRecDepth 20000 in
theorem w541 : Cond.constant RJ6 266 (858993459) ∈ wsG := inG 541 (by decide +kernel) (by decide +kernel)
set_option maxRecDepth 20000 in
theorem w542 : Cond.constant RJ6 267 (252645135) ∈ wsG := inG 542 (by decide +kernel) (by decide +kernel)
set_option maxRecDepth 20000 in
theorem w543 : Cond.methodLinkNest RX6 152 yX3_greatestDistance "ClaimChains" ∈ nwG := inN 543 (by decide +kernel) (by decide +kernel)
set_option maxRecDepth 20000 in
theorem w545 : Cond.instanceMethod yX3_greatestDistance ∈ wsG := inG 545 (by decide +kernel) (by decide +kernel)
set_option maxRecDepth 20000 in
theorem w546 : Cond.code yX3_greatestDistance cX3_greatestDistance 3 (some .int) ∈ wsG := inG 546 (by decide +kernel) (by decide +kernel)
set_option maxRecDepth 20000 in
theorem w547 : Cond.methodLink RL 77 yX6_way ∈ wsG := inG 547 (by decide +kernel) (by decide +kernel)
set_option maxRecDepth 20000 in
theorem w548 : Cond.instanceMethod yX6_way ∈ wsG := inG 548 (by decide +kernel) (by decide +kernel)
set_option maxRecDepth 20000 in
theorem w549 : Cond.selects RX6 yX6_way yX6_way ∈ wsG := inG 549 (by decide +kernel) (by decide +kernel)
set_option maxRecDepth 20000 in
theorem w550 : Cond.code yX6_way cX6_way 3 (some .int) ∈ wsG := inG 550 (by decide +kernel) (by decide +kernel)
set_option maxRecDepth 20000 in
theorem w551 : Cond.methodLink RL 81 yX6_loose ∈ wsG := inG 551 (by decide +kernel) (by decide +kernel)
set_option maxRecDepth 20000 in
theorem w552 : Cond.instanceMethod yX6_loose ∈ wsG := inG 552 (by decide +kernel) (by decide +kernel)
set_option maxRecDepth 20000 in
theorem w553 : Cond.selects RX6 yX6_loose yX6_loose ∈ wsG := inG 553 (by decide +kernel) (by decide +kernel)
set_option maxRecDepth 20000 in
theorem w554 : Cond.code yX6_loose cX6_loose 2 (some .int) ∈ wsG := inG 554 (by decide +kernel) (by decide +kernel)
set_option maxRecDepth 20000 in
theorem w555 : Cond.methodLinkNest RX6 171 yX3_looseInStart "ClaimChains" ∈ nwG := inN 555 (by decide +kernel) (by decide +kernel)
set_option maxRecDepth 20000 in
theorem w557 : Cond.instanceMethod yX3_looseInStart ∈ wsG := inG 557 (by decide +kernel) (by decide +kernel)
set_option maxRecDepth 20000 in
theorem w558 : Cond.code yX3_looseInStart cX3_looseInStart 4 (some .int) ∈ wsG := inG 558 (by decide +kernel) (by decide +kernel)
set_option maxRecDepth 20000 in
theorem w559 : Cond.methodLink RX3 119 yX3_endsBroken ∈ wsG := inG 559 (by decide +kernel) (by decide +kernel)
set_option maxRecDepth 20000 in
theorem w561 : Cond.instanceMethod yX3_endsBroken ∈ wsG := inG 561 (by decide +kernel) (by decide +kernel)
set_option maxRecDepth 20000 in
theorem w562 : Cond.code yX3_endsBroken cX3_endsBroken 7 (some .boolean) ∈ wsG := inG 562 (by decide +kernel) (by decide +kernel)
set_option maxRecDepth 20000 in
theorem w563 : Cond.methodLinkNest RX6 174 yX3_looseInRow "ClaimChains" ∈ nwG := inN 563 (by decide +kernel) (by decide +kernel)
set_option maxRecDepth 20000 in
theorem w565 : Cond.instanceMethod yX3_looseInRow ∈ wsG := inG 565 (by decide +kernel) (by decide +kernel)
set_option maxRecDepth 20000 in
theorem w566 : Cond.code yX3_looseInRow cX3_looseInRow 4 (some .int) ∈ wsG := inG 566 (by decide +kernel) (by decide +kernel)
set_option maxRecDepth 20000 in
theorem w567 : Cond.methodLink RL 85 yX6_cone ∈ wsG := inG 567 (by decide +kernel) (by decide +kernel)
set_option maxRecDepth 20000 in
theorem w568 : Cond.instanceMethod yX6_cone ∈ wsG := inG 568 (by decide +kernel) (by decide +kernel)
set_option maxRecDepth 20000 in
theorem w569 : Cond.selects RX6 yX6_cone yX6_cone ∈ wsG := inG 569 (by decide +kernel) (by decide +kernel)
set_option maxRecDepth 20000 in
theorem w570 : Cond.code yX6_cone cX6_cone 3 (some .int) ∈ wsG := inG 570 (by decide +kernel) (by decide +kernel)
set_option maxRecDepth 20000 in
theorem w571 : Cond.methodLinkNest RX6 177 yX3_coneVariables "ClaimChains" ∈ nwG := inN 571 (by decide +kernel) (by decide +kernel)
set_option maxRecDepth 20000 in
theorem w573 : Cond.instanceMethod yX3_coneVariables ∈ wsG := inG 573 (by decide +kernel) (by decide +kernel)
set_option maxRecDepth 20000 in
theorem w574 : Cond.code yX3_coneVariables cX3_coneVariables 4 (some .int) ∈ wsG := inG 574 (by decide +kernel) (by decide +kernel)
set_option maxRecDepth 20000 in
theorem w575 : Cond.methodLinkNest RX6 180 yX3_inputsOf "ClaimChains" ∈ nwG := inN 575 (by decide +kernel) (by decide +kernel)
set_option maxRecDepth 20000 in
theorem w577 : Cond.instanceMethod yX3_inputsOf ∈ wsG := inG 577 (by decide +kernel) (by decide +kernel)
set_option maxRecDepth 20000 in
theorem w578 : Cond.code yX3_inputsOf cX3_inputsOf 4 (some .int) ∈ wsG := inG 578 (by decide +kernel) (by decide +kernel)
set_option maxRecDepth 20000 in
theorem w579 : Cond.methodLink RL 89 yX6_clear ∈ wsG := inG 579 (by decide +kernel) (by decide +kernel)
set_option maxRecDepth 20000 in
theorem w580 : Cond.instanceMethod yX6_clear ∈ wsG := inG 580 (by decide +kernel) (by decide +kernel)
set_option maxRecDepth 20000 in
theorem w581 : Cond.selects RX6 yX6_clear yX6_clear ∈ wsG := inG 581 (by decide +kernel) (by decide +kernel)
set_option maxRecDepth 20000 in
theorem w582 : Cond.code yX6_clear cX6_clear 2 (some .int) ∈ wsG := inG 582 (by decide +kernel) (by decide +kernel)
set_option maxRecDepth 20000 in
theorem w583 : Cond.methodLinkNest RX6 183 yX3_isClear "ClaimChains" ∈ nwG := inN 583 (by decide +kernel) (by decide +kernel)
set_option maxRecDepth 20000 in
theorem w585 : Cond.instanceMethod yX3_isClear ∈ wsG := inG 585 (by decide +kernel) (by decide +kernel)
set_option maxRecDepth 20000 in
theorem w586 : Cond.code yX3_isClear cX3_isClear 3 (some .boolean) ∈ wsG := inG 586 (by decide +kernel) (by decide +kernel)
set_option maxRecDepth 20000 in
theorem w587 : Cond.methodLink RL 93 yX6_shut ∈ wsG := inG 587 (by decide +kernel) (by decide +kernel)
set_option maxRecDepth 20000 in
theorem w588 : Cond.instanceMethod yX6_shut ∈ wsG := inG 588 (by decide +kernel) (by decide +kernel)
set_option maxRecDepth 20000 in
theorem w589 : Cond.selects RX6 yX6_shut yX6_shut ∈ wsG := inG 589 (by decide +kernel) (by decide +kernel)
set_option maxRecDepth 20000 in
theorem w590 : Cond.code yX6_shut cX6_shut 2 (some .int) ∈ wsG := inG 590 (by decide +kernel) (by decide +kernel)
set_option maxRecDepth 20000 in
theorem w591 : Cond.methodLinkNest RX6 186 yX1_find "ClaimChains" ∈ nwG := inN 591 (by decide +kernel) (by decide +kernel)
set_option maxRecDepth 20000 in
theorem w593 : Cond.instanceMethod yX1_find ∈ wsG := inG 593 (by decide +kernel) (by decide +kernel)
set_option maxRecDepth 20000 in
theorem w594 : Cond.code yX1_find cX1_find 2 (some .boolean) ∈ wsG := inG 594 (by decide +kernel) (by decide +kernel)
set_option maxRecDepth 20000 in
theorem w595 : Cond.methodLink RX1 46 yX1_isKept ∈ wsG := inG 595 (by decide +kernel) (by decide +kernel)
set_option maxRecDepth 20000 in
theorem w597 : Cond.instanceMethod yX1_isKept ∈ wsG := inG 597 (by decide +kernel) (by decide +kernel)
set_option maxRecDepth 20000 in
theorem w598 : Cond.code yX1_isKept cX1_isKept 2 (some .boolean) ∈ wsG := inG 598 (by decide +kernel) (by decide +kernel)
set_option maxRecDepth 20000 in
theorem w599 : Cond.methodLinkNest RX1 50 yX2_goodStates "ClaimChains" ∈ nwG := inN 599 (by decide +kernel) (by decide +kernel)
set_option maxRecDepth 20000 in
theorem w601 : Cond.instanceMethod yX2_goodStates ∈ wsG := inG 601 (by decide +kernel) (by decide +kernel)
set_option maxRecDepth 20000 in
theorem w602 : Cond.code yX2_goodStates cX2_goodStates 1 (some .int) ∈ wsG := inG 602 (by decide +kernel) (by decide +kernel)
set_option maxRecDepth 20000 in
theorem w603 : Cond.methodLinkNest RX1 56 yX2_threats "ClaimChains" ∈ nwG := inN 603 (by decide +kernel) (by decide +kernel)
set_option maxRecDepth 20000 in
theorem w605 : Cond.instanceMethod yX2_threats ∈ wsG := inG 605 (by decide +kernel) (by decide +kernel)
set_option maxRecDepth 20000 in
theorem w606 : Cond.code yX2_threats cX2_threats 1 (some .int) ∈ wsG := inG 606 (by decide +kernel) (by decide +kernel)
set_option maxRecDepth 20000 in
theorem w607 : Cond.methodLink RX1 64 yX1_search ∈ wsG := inG 607 (by decide +kernel) (by decide +kernel)
set_option maxRecDepth 20000 in
theorem w609 : Cond.instanceMethod yX1_search ∈ wsG := inG 609 (by decide +kernel) (by decide +kernel)
set_option maxRecDepth 20000 in
theorem w610 : Cond.code yX1_search cX1_search 3 (some .boolean) ∈ wsG := inG 610 (by decide +kernel) (by decide +kernel)
set_option maxRecDepth 20000 in
theorem w611 : Cond.methodLinkNest RX1 67 yX3_sources "ClaimChains" ∈ nwG := inN 611 (by decide +kernel) (by decide +kernel)
set_option maxRecDepth 20000 in
theorem w612 : Cond.methodLinkNest RX1 71 yX6_isIn "ClaimChains" ∈ nwG := inN 612 (by decide +kernel) (by decide +kernel)
set_option maxRecDepth 20000 in
theorem w613 : Cond.methodLink RX1 75 yX1_extend ∈ wsG := inG 613 (by decide +kernel) (by decide +kernel)
set_option maxRecDepth 20000 in
theorem w615 : Cond.instanceMethod yX1_extend ∈ wsG := inG 615 (by decide +kernel) (by decide +kernel)
set_option maxRecDepth 20000 in
theorem w616 : Cond.code yX1_extend cX1_extend 8 (some .boolean) ∈ wsG := inG 616 (by decide +kernel) (by decide +kernel)
set_option maxRecDepth 20000 in
theorem w617 : Cond.methodLinkNest RX1 79 yX3_target "ClaimChains" ∈ nwG := inN 617 (by decide +kernel) (by decide +kernel)
set_option maxRecDepth 20000 in
theorem w618 : Cond.methodLink RL 97 yX6_settle ∈ wsG := inG 618 (by decide +kernel) (by decide +kernel)
set_option maxRecDepth 20000 in
theorem w619 : Cond.instanceMethod yX6_settle ∈ wsG := inG 619 (by decide +kernel) (by decide +kernel)
set_option maxRecDepth 20000 in
theorem w620 : Cond.selects RX6 yX6_settle yX6_settle ∈ wsG := inG 620 (by decide +kernel) (by decide +kernel)
set_option maxRecDepth 20000 in
theorem w621 : Cond.code yX6_settle cX6_settle 3 (some .int) ∈ wsG := inG 621 (by decide +kernel) (by decide +kernel)
set_option maxRecDepth 20000 in
theorem w622 : Cond.methodLinkNest RX6 189 yX3_leastBrokenDistance "ClaimChains" ∈ nwG := inN 622 (by decide +kernel) (by decide +kernel)
set_option maxRecDepth 20000 in
theorem w623 : Cond.methodLink RL 101 yX6_chain ∈ wsG := inG 623 (by decide +kernel) (by decide +kernel)
set_option maxRecDepth 20000 in
theorem w624 : Cond.instanceMethod yX6_chain ∈ wsG := inG 624 (by decide +kernel) (by decide +kernel)
set_option maxRecDepth 20000 in
theorem w625 : Cond.selects RX6 yX6_chain yX6_chain ∈ wsG := inG 625 (by decide +kernel) (by decide +kernel)
set_option maxRecDepth 20000 in
theorem w626 : Cond.code yX6_chain cX6_chain 5 (some .int) ∈ wsG := inG 626 (by decide +kernel) (by decide +kernel)
set_option maxRecDepth 20000 in
theorem w627 : Cond.methodLink RL 105 yX6_weak ∈ wsG := inG 627 (by decide +kernel) (by decide +kernel)
set_option maxRecDepth 20000 in
theorem w628 : Cond.instanceMethod yX6_weak ∈ wsG := inG 628 (by decide +kernel) (by decide +kernel)
set_option maxRecDepth 20000 in
theorem w629 : Cond.selects RX6 yX6_weak yX6_weak ∈ wsG := inG 629 (by decide +kernel) (by decide +kernel)
set_option maxRecDepth 20000 in
theorem w630 : Cond.code yX6_weak cX6_weak 2 (some .int) ∈ wsG := inG 630 (by decide +kernel) (by decide +kernel)
set_option maxRecDepth 20000 in
theorem w631 : Cond.methodLinkNest RX6 198 yX2_weakStates "ClaimChains" ∈ nwG := inN 631 (by decide +kernel) (by decide +kernel)
set_option maxRecDepth 20000 in
theorem w633 : Cond.instanceMethod yX2_weakStates ∈ wsG := inG 633 (by decide +kernel) (by decide +kernel)
set_option maxRecDepth 20000 in
theorem w634 : Cond.code yX2_weakStates cX2_weakStates 1 (some .int) ∈ wsG := inG 634 (by decide +kernel) (by decide +kernel)
set_option maxRecDepth 20000 in
theorem w635 : Cond.methodLink RX2 35 yX2_goodStates ∈ wsG := inG 635 (by decide +kernel) (by decide +kernel)
set_option maxRecDepth 20000 in
theorem w636 : Cond.methodLink RX2 39 yX2_threats ∈ wsG := inG 636 (by decide +kernel) (by decide +kernel)
set_option maxRecDepth 20000 in
theorem w637 : Cond.methodLinkNest RX2 42 yX3_sources "ClaimChains" ∈ nwG := inN 637 (by decide +kernel) (by decide +kernel)
set_option maxRecDepth 20000 in
theorem w638 : Cond.methodLinkNest RX6 201 yX2_goodStates "ClaimChains" ∈ nwG := inN 638 (by decide +kernel) (by decide +kernel)
set_option maxRecDepth 20000 in
theorem w639 : Cond.methodLink RL 109 yX6_strengthen ∈ wsG := inG 639 (by decide +kernel) (by decide +kernel)
set_option maxRecDepth 20000 in
theorem w640 : Cond.instanceMethod yX6_strengthen ∈ wsG := inG 640 (by decide +kernel) (by decide +kernel)
set_option maxRecDepth 20000 in
theorem w641 : Cond.selects RX6 yX6_strengthen yX6_strengthen ∈ wsG := inG 641 (by decide +kernel) (by decide +kernel)
set_option maxRecDepth 20000 in
theorem w642 : Cond.code yX6_strengthen cX6_strengthen 1 (some .int) ∈ wsG := inG 642 (by decide +kernel) (by decide +kernel)
set_option maxRecDepth 20000 in
theorem w643 : Cond.methodLinkNest RX6 204 yX2_addByStrengthening "ClaimChains" ∈ nwG := inN 643 (by decide +kernel) (by decide +kernel)
set_option maxRecDepth 20000 in
theorem w645 : Cond.instanceMethod yX2_addByStrengthening ∈ wsG := inG 645 (by decide +kernel) (by decide +kernel)
set_option maxRecDepth 20000 in
theorem w646 : Cond.code yX2_addByStrengthening cX2_addByStrengthening 4 (some .int) ∈ wsG := inG 646 (by decide +kernel) (by decide +kernel)
set_option maxRecDepth 20000 in
theorem w647 : Cond.methodLink RX2 60 yX2_weakStates ∈ wsG := inG 647 (by decide +kernel) (by decide +kernel)
set_option maxRecDepth 20000 in
theorem w648 : Cond.methodLink RX2 63 yX2_leastThatCanGo ∈ wsG := inG 648 (by decide +kernel) (by decide +kernel)
set_option maxRecDepth 20000 in
theorem w650 : Cond.instanceMethod yX2_leastThatCanGo ∈ wsG := inG 650 (by decide +kernel) (by decide +kernel)
set_option maxRecDepth 20000 in
theorem w651 : Cond.code yX2_leastThatCanGo cX2_leastThatCanGo 3 (some .int) ∈ wsG := inG 651 (by decide +kernel) (by decide +kernel)
set_option maxRecDepth 20000 in
theorem w652 : Cond.methodLinkNest RX2 72 yX6_isIn "ClaimChains" ∈ nwG := inN 652 (by decide +kernel) (by decide +kernel)
set_option maxRecDepth 20000 in
theorem w653 : Cond.methodLink RX2 52 yX2_fits ∈ wsG := inG 653 (by decide +kernel) (by decide +kernel)
set_option maxRecDepth 20000 in
theorem w655 : Cond.instanceMethod yX2_fits ∈ wsG := inG 655 (by decide +kernel) (by decide +kernel)
set_option maxRecDepth 20000 in
theorem w656 : Cond.code yX2_fits cX2_fits 2 (some .boolean) ∈ wsG := inG 656 (by decide +kernel) (by decide +kernel)
set_option maxRecDepth 20000 in
theorem w657 : Cond.methodLinkNest RX2 49 yX3_image "ClaimChains" ∈ nwG := inN 657 (by decide +kernel) (by decide +kernel)
set_option maxRecDepth 20000 in
theorem w658 : Cond.methodLink RX2 66 yX2_widestNames ∈ wsG := inG 658 (by decide +kernel) (by decide +kernel)
set_option maxRecDepth 20000 in
theorem w660 : Cond.instanceMethod yX2_widestNames ∈ wsG := inG 660 (by decide +kernel) (by decide +kernel)
set_option maxRecDepth 20000 in
theorem w661 : Cond.code yX2_widestNames cX2_widestNames 5 (some .int) ∈ wsG := inG 661 (by decide +kernel) (by decide +kernel)
set_option maxRecDepth 20000 in
theorem w662 : Cond.methodLink RX2 69 yX2_outside ∈ wsG := inG 662 (by decide +kernel) (by decide +kernel)
set_option maxRecDepth 20000 in
theorem w663 : Cond.static yX2_outside ∈ wsG := inG 663 (by decide +kernel) (by decide +kernel)
set_option maxRecDepth 20000 in
theorem w664 : Cond.code yX2_outside cX2_outside 4 (some .int) ∈ wsG := inG 664 (by decide +kernel) (by decide +kernel)
set_option maxRecDepth 20000 in
theorem w665 : Cond.methodLink RX2 56 yX2_add ∈ wsG := inG 665 (by decide +kernel) (by decide +kernel)
set_option maxRecDepth 20000 in
theorem w667 : Cond.instanceMethod yX2_add ∈ wsG := inG 667 (by decide +kernel) (by decide +kernel)
set_option maxRecDepth 20000 in
theorem w668 : Cond.code yX2_add cX2_add 3 (some .int) ∈ wsG := inG 668 (by decide +kernel) (by decide +kernel)
set_option maxRecDepth 20000 in
theorem w669 : Cond.methodLink RL 114 yX6_lemma ∈ wsG := inG 669 (by decide +kernel) (by decide +kernel)
set_option maxRecDepth 20000 in
theorem w670 : Cond.instanceMethod yX6_lemma ∈ wsG := inG 670 (by decide +kernel) (by decide +kernel)
set_option maxRecDepth 20000 in
theorem w671 : Cond.selects RX6 yX6_lemma yX6_lemma ∈ wsG := inG 671 (by decide +kernel) (by decide +kernel)
set_option maxRecDepth 20000 in
theorem w672 : Cond.code yX6_lemma cX6_lemma 2 (some .int) ∈ wsG := inG 672 (by decide +kernel) (by decide +kernel)
set_option maxRecDepth 20000 in
theorem w673 : Cond.methodLinkNest RX6 207 yX2_addIfFitting "ClaimChains" ∈ nwG := inN 673 (by decide +kernel) (by decide +kernel)
set_option maxRecDepth 20000 in
theorem w675 : Cond.instanceMethod yX2_addIfFitting ∈ wsG := inG 675 (by decide +kernel) (by decide +kernel)
set_option maxRecDepth 20000 in
theorem w676 : Cond.code yX2_addIfFitting cX2_addIfFitting 2 (some .int) ∈ wsG := inG 676 (by decide +kernel) (by decide +kernel)
set_option maxRecDepth 20000 in
theorem w677 : Cond.methodLink RL 118 yX6_block ∈ wsG := inG 677 (by decide +kernel) (by decide +kernel)
set_option maxRecDepth 20000 in
theorem w678 : Cond.instanceMethod yX6_block ∈ wsG := inG 678 (by decide +kernel) (by decide +kernel)
set_option maxRecDepth 20000 in
theorem w679 : Cond.selects RX6 yX6_block yX6_block ∈ wsG := inG 679 (by decide +kernel) (by decide +kernel)
set_option maxRecDepth 20000 in
theorem w680 : Cond.code yX6_block cX6_block 6 (some .int) ∈ wsG := inG 680 (by decide +kernel) (by decide +kernel)
set_option maxRecDepth 20000 in
theorem w681 : Cond.methodLink RX6 210 yX6_isBox ∈ wsG := inG 681 (by decide +kernel) (by decide +kernel)
set_option maxRecDepth 20000 in
theorem w682 : Cond.static yX6_isBox ∈ wsG := inG 682 (by decide +kernel) (by decide +kernel)
set_option maxRecDepth 20000 in
theorem w683 : Cond.code yX6_isBox cX6_isBox 1 (some .boolean) ∈ wsG := inG 683 (by decide +kernel) (by decide +kernel)
set_option maxRecDepth 20000 in
theorem w684 : Cond.methodLinkNest RX6 213 yX0_hasRow "ClaimChains" ∈ nwG := inN 684 (by decide +kernel) (by decide +kernel)
set_option maxRecDepth 20000 in
theorem w686 : Cond.instanceMethod yX0_hasRow ∈ wsG := inG 686 (by decide +kernel) (by decide +kernel)
set_option maxRecDepth 20000 in
theorem w687 : Cond.code yX0_hasRow cX0_hasRow 1 (some .boolean) ∈ wsG := inG 687 (by decide +kernel) (by decide +kernel)
set_option maxRecDepth 20000 in
theorem w688 : Cond.methodLink RX6 217 yX6_faulted ∈ wsG := inG 688 (by decide +kernel) (by decide +kernel)
set_option maxRecDepth 20000 in
theorem w690 : Cond.instanceMethod yX6_faulted ∈ wsG := inG 690 (by decide +kernel) (by decide +kernel)
set_option maxRecDepth 20000 in
theorem w691 : Cond.code yX6_faulted cX6_faulted 2 (some .int) ∈ wsG := inG 691 (by decide +kernel) (by decide +kernel)
set_option maxRecDepth 20000 in
theorem w692 : Cond.constant RX6 220 (65535) ∈ wsG := inG 692 (by decide +kernel) (by decide +kernel)
set_option maxRecDepth 20000 in
theorem w693 : Cond.methodLink RL 122 yX6_back ∈ wsG := inG 693 (by decide +kernel) (by decide +kernel)
set_option maxRecDepth 20000 in
theorem w694 : Cond.instanceMethod yX6_back ∈ wsG := inG 694 (by decide +kernel) (by decide +kernel)
set_option maxRecDepth 20000 in
theorem w695 : Cond.selects RX6 yX6_back yX6_back ∈ wsG := inG 695 (by decide +kernel) (by decide +kernel)
set_option maxRecDepth 20000 in
theorem w696 : Cond.code yX6_back cX6_back 1 (some .int) ∈ wsG := inG 696 (by decide +kernel) (by decide +kernel)
set_option maxRecDepth 20000 in
theorem w697 : Cond.methodLinkNest RX6 230 yX2_removeLast "ClaimChains" ∈ nwG := inN 697 (by decide +kernel) (by decide +kernel)
set_option maxRecDepth 20000 in
theorem w699 : Cond.instanceMethod yX2_removeLast ∈ wsG := inG 699 (by decide +kernel) (by decide +kernel)
set_option maxRecDepth 20000 in
theorem w700 : Cond.code yX2_removeLast cX2_removeLast 2 (some .int) ∈ wsG := inG 700 (by decide +kernel) (by decide +kernel)
set_option maxRecDepth 20000 in
theorem w701 : Cond.methodLink RL 126 yX6_ofLemma ∈ wsG := inG 701 (by decide +kernel) (by decide +kernel)
set_option maxRecDepth 20000 in
theorem w702 : Cond.instanceMethod yX6_ofLemma ∈ wsG := inG 702 (by decide +kernel) (by decide +kernel)
set_option maxRecDepth 20000 in
theorem w703 : Cond.selects RX6 yX6_ofLemma yX6_ofLemma ∈ wsG := inG 703 (by decide +kernel) (by decide +kernel)
set_option maxRecDepth 20000 in
theorem w704 : Cond.code yX6_ofLemma cX6_ofLemma 3 (some .int) ∈ wsG := inG 704 (by decide +kernel) (by decide +kernel)
set_option maxRecDepth 20000 in
theorem w705 : Cond.methodLink RL 130 yX6_closed ∈ wsG := inG 705 (by decide +kernel) (by decide +kernel)
set_option maxRecDepth 20000 in
theorem w706 : Cond.instanceMethod yX6_closed ∈ wsG := inG 706 (by decide +kernel) (by decide +kernel)
set_option maxRecDepth 20000 in
theorem w707 : Cond.selects RX6 yX6_closed yX6_closed ∈ wsG := inG 707 (by decide +kernel) (by decide +kernel)
set_option maxRecDepth 20000 in
theorem w708 : Cond.code yX6_closed cX6_closed 2 (some .int) ∈ wsG := inG 708 (by decide +kernel) (by decide +kernel)
set_option maxRecDepth 20000 in
theorem w709 : Cond.methodLink RL 134 yX6_chance ∈ wsG := inG 709 (by decide +kernel) (by decide +kernel)
set_option maxRecDepth 20000 in
theorem w710 : Cond.instanceMethod yX6_chance ∈ wsG := inG 710 (by decide +kernel) (by decide +kernel)
set_option maxRecDepth 20000 in
theorem w711 : Cond.selects RX6 yX6_chance yX6_chance ∈ wsG := inG 711 (by decide +kernel) (by decide +kernel)
set_option maxRecDepth 20000 in
theorem w712 : Cond.code yX6_chance cX6_chance 4 (some .int) ∈ wsG := inG 712 (by decide +kernel) (by decide +kernel)
set_option maxRecDepth 20000 in
theorem w713 : Cond.methodLinkNest RX6 239 yX5_countSafe "ClaimChains" ∈ nwG := inN 713 (by decide +kernel) (by decide +kernel)
set_option maxRecDepth 20000 in
theorem w715 : Cond.instanceMethod yX5_countSafe ∈ wsG := inG 715 (by decide +kernel) (by decide +kernel)
set_option maxRecDepth 20000 in
theorem w716 : Cond.code yX5_countSafe cX5_countSafe 4 (some .int) ∈ wsG := inG 716 (by decide +kernel) (by decide +kernel)
set_option maxRecDepth 20000 in
theorem w717 : Cond.methodLinkNest RX5 28 yX6_isIn "ClaimChains" ∈ nwG := inN 717 (by decide +kernel) (by decide +kernel)
set_option maxRecDepth 20000 in
theorem w718 : Cond.methodLinkNest RX5 32 yX6_bit "ClaimChains" ∈ nwG := inN 718 (by decide +kernel) (by decide +kernel)
set_option maxRecDepth 20000 in
theorem w719 : Cond.methodLink RX5 36 yX5_lengthen ∈ wsG := inG 719 (by decide +kernel) (by decide +kernel)
set_option maxRecDepth 20000 in
theorem w721 : Cond.instanceMethod yX5_lengthen ∈ wsG := inG 721 (by decide +kernel) (by decide +kernel)
set_option maxRecDepth 20000 in
theorem w722 : Cond.code yX5_lengthen cX5_lengthen 3 none ∈ wsG := inG 722 (by decide +kernel) (by decide +kernel)
set_option maxRecDepth 20000 in
theorem w723 : Cond.methodLinkNest RX5 42 yX3_target "ClaimChains" ∈ nwG := inN 723 (by decide +kernel) (by decide +kernel)
set_option maxRecDepth 20000 in
theorem w724 : Cond.methodLink RX6 242 yX6_nearestBits ∈ wsG := inG 724 (by decide +kernel) (by decide +kernel)
set_option maxRecDepth 20000 in
theorem w725 : Cond.static yX6_nearestBits ∈ wsG := inG 725 (by decide +kernel) (by decide +kernel)
set_option maxRecDepth 20000 in
theorem w726 : Cond.code yX6_nearestBits cX6_nearestBits 13 (some .long) ∈ wsG := inG 726 (by decide +kernel) (by decide +kernel)
set_option maxRecDepth 20000 in
theorem w727 : Cond.constantLong RX6 277 (2) ∈ wsG := inG 727 (by decide +kernel) (by decide +kernel)
set_option maxRecDepth 20000 in
theorem w728 : Cond.methodLink RL 138 yX6_mean ∈ wsG := inG 728 (by decide +kernel) (by decide +kernel)
set_option maxRecDepth 20000 in
theorem w729 : Cond.instanceMethod yX6_mean ∈ wsG := inG 729 (by decide +kernel) (by decide +kernel)
set_option maxRecDepth 20000 in
theorem w730 : Cond.selects RX6 yX6_mean yX6_mean ∈ wsG := inG 730 (by decide +kernel) (by decide +kernel)
set_option maxRecDepth 20000 in
theorem w731 : Cond.code yX6_mean cX6_mean 2 (some .long) ∈ wsG := inG 731 (by decide +kernel) (by decide +kernel)
set_option maxRecDepth 20000 in
theorem w732 : Cond.methodLinkNest RX6 246 yX3_sumOfDistances "ClaimChains" ∈ nwG := inN 732 (by decide +kernel) (by decide +kernel)
set_option maxRecDepth 20000 in
theorem w734 : Cond.instanceMethod yX3_sumOfDistances ∈ wsG := inG 734 (by decide +kernel) (by decide +kernel)
set_option maxRecDepth 20000 in
theorem w735 : Cond.code yX3_sumOfDistances cX3_sumOfDistances 3 (some .int) ∈ wsG := inG 735 (by decide +kernel) (by decide +kernel)
set_option maxRecDepth 20000 in
theorem w736 : Cond.methodLink RL 143 yX6_box ∈ wsG := inG 736 (by decide +kernel) (by decide +kernel)
set_option maxRecDepth 20000 in
theorem w737 : Cond.instanceMethod yX6_box ∈ wsG := inG 737 (by decide +kernel) (by decide +kernel)
set_option maxRecDepth 20000 in
theorem w738 : Cond.selects RX6 yX6_box yX6_box ∈ wsG := inG 738 (by decide +kernel) (by decide +kernel)
set_option maxRecDepth 20000 in
theorem w739 : Cond.code yX6_box cX6_box 4 (some .int) ∈ wsG := inG 739 (by decide +kernel) (by decide +kernel)
set_option maxRecDepth 20000 in
theorem w740 : Cond.methodLinkNest RX6 249 yX0_getNewRow "ClaimChains" ∈ nwG := inN 740 (by decide +kernel) (by decide +kernel)
set_option maxRecDepth 20000 in
theorem w742 : Cond.instanceMethod yX0_getNewRow ∈ wsG := inG 742 (by decide +kernel) (by decide +kernel)
set_option maxRecDepth 20000 in
theorem w743 : Cond.code yX0_getNewRow cX0_getNewRow 4 none ∈ wsG := inG 743 (by decide +kernel) (by decide +kernel)
set_option maxRecDepth 20000 in
theorem w744 : Cond.methodLink RL 147 yX6_lay ∈ wsG := inG 744 (by decide +kernel) (by decide +kernel)
set_option maxRecDepth 20000 in
theorem w745 : Cond.instanceMethod yX6_lay ∈ wsG := inG 745 (by decide +kernel) (by decide +kernel)
set_option maxRecDepth 20000 in
theorem w746 : Cond.selects RX6 yX6_lay yX6_lay ∈ wsG := inG 746 (by decide +kernel) (by decide +kernel)
set_option maxRecDepth 20000 in
theorem w747 : Cond.code yX6_lay cX6_lay 5 (some .int) ∈ wsG := inG 747 (by decide +kernel) (by decide +kernel)
set_option maxRecDepth 20000 in
theorem w748 : Cond.methodLinkNest RX6 253 yX0_hasPlace "ClaimChains" ∈ nwG := inN 748 (by decide +kernel) (by decide +kernel)
set_option maxRecDepth 20000 in
theorem w750 : Cond.instanceMethod yX0_hasPlace ∈ wsG := inG 750 (by decide +kernel) (by decide +kernel)
set_option maxRecDepth 20000 in
theorem w751 : Cond.code yX0_hasPlace cX0_hasPlace 2 (some .boolean) ∈ wsG := inG 751 (by decide +kernel) (by decide +kernel)
set_option maxRecDepth 20000 in
theorem w752 : Cond.methodLinkNest RX6 256 yX0_admits "ClaimChains" ∈ nwG := inN 752 (by decide +kernel) (by decide +kernel)
set_option maxRecDepth 20000 in
theorem w754 : Cond.instanceMethod yX0_admits ∈ wsG := inG 754 (by decide +kernel) (by decide +kernel)
set_option maxRecDepth 20000 in
theorem w755 : Cond.code yX0_admits cX0_admits 2 (some .boolean) ∈ wsG := inG 755 (by decide +kernel) (by decide +kernel)
set_option maxRecDepth 20000 in
theorem w756 : Cond.methodLink RL 151 yX6_take ∈ wsG := inG 756 (by decide +kernel) (by decide +kernel)
set_option maxRecDepth 20000 in
theorem w757 : Cond.instanceMethod yX6_take ∈ wsG := inG 757 (by decide +kernel) (by decide +kernel)
set_option maxRecDepth 20000 in
theorem w758 : Cond.selects RX6 yX6_take yX6_take ∈ wsG := inG 758 (by decide +kernel) (by decide +kernel)
set_option maxRecDepth 20000 in
theorem w759 : Cond.code yX6_take cX6_take 4 (some .int) ∈ wsG := inG 759 (by decide +kernel) (by decide +kernel)
set_option maxRecDepth 20000 in
theorem w760 : Cond.methodLink RL 155 yX6_same ∈ wsG := inG 760 (by decide +kernel) (by decide +kernel)
set_option maxRecDepth 20000 in
theorem w761 : Cond.instanceMethod yX6_same ∈ wsG := inG 761 (by decide +kernel) (by decide +kernel)
set_option maxRecDepth 20000 in
theorem w762 : Cond.selects RX6 yX6_same yX6_same ∈ wsG := inG 762 (by decide +kernel) (by decide +kernel)
set_option maxRecDepth 20000 in
theorem w763 : Cond.code yX6_same cX6_same 4 (some .int) ∈ wsG := inG 763 (by decide +kernel) (by decide +kernel)
set_option maxRecDepth 20000 in
theorem w764 : Cond.methodLinkNest RX6 259 yX0_becomeLike "ClaimChains" ∈ nwG := inN 764 (by decide +kernel) (by decide +kernel)
set_option maxRecDepth 20000 in
theorem w766 : Cond.instanceMethod yX0_becomeLike ∈ wsG := inG 766 (by decide +kernel) (by decide +kernel)
set_option maxRecDepth 20000 in
theorem w767 : Cond.code yX0_becomeLike cX0_becomeLike 3 none ∈ wsG := inG 767 (by decide +kernel) (by decide +kernel)
set_option maxRecDepth 20000 in
theorem w768 : Cond.methodLink RL 159 yX6_move ∈ wsG := inG 768 (by decide +kernel) (by decide +kernel)
set_option maxRecDepth 20000 in
theorem w769 : Cond.instanceMethod yX6_move ∈ wsG := inG 769 (by decide +kernel) (by decide +kernel)
set_option maxRecDepth 20000 in
theorem w770 : Cond.selects RX6 yX6_move yX6_move ∈ wsG := inG 770 (by decide +kernel) (by decide +kernel)
set_option maxRecDepth 20000 in
theorem w771 : Cond.code yX6_move cX6_move 10 (some .int) ∈ wsG := inG 771 (by decide +kernel) (by decide +kernel)
set_option maxRecDepth 20000 in
theorem w772 : Cond.methodLinkNest RX6 263 yX0_hasRange "ClaimChains" ∈ nwG := inN 772 (by decide +kernel) (by decide +kernel)
set_option maxRecDepth 20000 in
theorem w774 : Cond.instanceMethod yX0_hasRange ∈ wsG := inG 774 (by decide +kernel) (by decide +kernel)
set_option maxRecDepth 20000 in
theorem w775 : Cond.code yX0_hasRange cX0_hasRange 3 (some .boolean) ∈ wsG := inG 775 (by decide +kernel) (by decide +kernel)
set_option maxRecDepth 20000 in
theorem w776 : Cond.methodLink RL 164 yX6_states ∈ wsG := inG 776 (by decide +kernel) (by decide +kernel)
set_option maxRecDepth 20000 in
theorem w777 : Cond.instanceMethod yX6_states ∈ wsG := inG 777 (by decide +kernel) (by decide +kernel)
set_option maxRecDepth 20000 in
theorem w778 : Cond.selects RX6 yX6_states yX6_states ∈ wsG := inG 778 (by decide +kernel) (by decide +kernel)
set_option maxRecDepth 20000 in
theorem w779 : Cond.code yX6_states cX6_states 9 (some .int) ∈ wsG := inG 779 (by decide +kernel) (by decide +kernel)
set_option maxRecDepth 20000 in
theorem w780 : Cond.methodLink RL 168 yX6_lose ∈ wsG := inG 780 (by decide +kernel) (by decide +kernel)
set_option maxRecDepth 20000 in
theorem w781 : Cond.instanceMethod yX6_lose ∈ wsG := inG 781 (by decide +kernel) (by decide +kernel)
set_option maxRecDepth 20000 in
theorem w782 : Cond.selects RX6 yX6_lose yX6_lose ∈ wsG := inG 782 (by decide +kernel) (by decide +kernel)
set_option maxRecDepth 20000 in
theorem w783 : Cond.code yX6_lose cX6_lose 2 (some .int) ∈ wsG := inG 783 (by decide +kernel) (by decide +kernel)
set_option maxRecDepth 20000 in
theorem w784 : Cond.methodLinkNest RX6 267 yX0_loseRow "ClaimChains" ∈ nwG := inN 784 (by decide +kernel) (by decide +kernel)
set_option maxRecDepth 20000 in
theorem w786 : Cond.instanceMethod yX0_loseRow ∈ wsG := inG 786 (by decide +kernel) (by decide +kernel)
set_option maxRecDepth 20000 in
theorem w787 : Cond.code yX0_loseRow cX0_loseRow 1 none ∈ wsG := inG 787 (by decide +kernel) (by decide +kernel)
set_option maxRecDepth 20000 in
theorem w788 : Cond.methodLink RL 172 yX6_fault ∈ wsG := inG 788 (by decide +kernel) (by decide +kernel)
set_option maxRecDepth 20000 in
theorem w789 : Cond.instanceMethod yX6_fault ∈ wsG := inG 789 (by decide +kernel) (by decide +kernel)
set_option maxRecDepth 20000 in
theorem w790 : Cond.selects RX6 yX6_fault yX6_fault ∈ wsG := inG 790 (by decide +kernel) (by decide +kernel)
set_option maxRecDepth 20000 in
theorem w791 : Cond.code yX6_fault cX6_fault 1 (some .int) ∈ wsG := inG 791 (by decide +kernel) (by decide +kernel)
set_option maxRecDepth 20000 in
theorem w792 : Cond.methodLink RL 176 yX6_many ∈ wsG := inG 792 (by decide +kernel) (by decide +kernel)
set_option maxRecDepth 20000 in
theorem w793 : Cond.instanceMethod yX6_many ∈ wsG := inG 793 (by decide +kernel) (by decide +kernel)
set_option maxRecDepth 20000 in
theorem w794 : Cond.selects RX6 yX6_many yX6_many ∈ wsG := inG 794 (by decide +kernel) (by decide +kernel)
set_option maxRecDepth 20000 in
theorem w795 : Cond.code yX6_many cX6_many 2 (some .int) ∈ wsG := inG 795 (by decide +kernel) (by decide +kernel)
set_option maxRecDepth 20000 in
theorem w796 : Cond.methodLink RX6 271 yX6_countFilledBoxes ∈ wsG := inG 796 (by decide +kernel) (by decide +kernel)
set_option maxRecDepth 20000 in
theorem w798 : Cond.instanceMethod yX6_countFilledBoxes ∈ wsG := inG 798 (by decide +kernel) (by decide +kernel)
set_option maxRecDepth 20000 in
theorem w799 : Cond.code yX6_countFilledBoxes cX6_countFilledBoxes 3 (some .int) ∈ wsG := inG 799 (by decide +kernel) (by decide +kernel)
set_option maxRecDepth 20000 in
theorem w800 : Cond.classLink RL 10 "ClaimChainsModel" ∈ wsG := inG 800 (by decide +kernel) (by decide +kernel)
set_option maxRecDepth 20000 in
theorem w801 : Cond.instantiable RX7 30 ∈ wsG := inG 801 (by decide +kernel) (by decide +kernel)
set_option maxRecDepth 20000 in
theorem w802 : Cond.methodLink RL 12 yX7_init ∈ wsG := inG 802 (by decide +kernel) (by decide +kernel)
set_option maxRecDepth 20000 in
theorem w803 : Cond.instanceMethod yX7_init ∈ wsG := inG 803 (by decide +kernel) (by decide +kernel)
set_option maxRecDepth 20000 in
theorem w804 : Cond.code yX7_init cX7_init 1 none ∈ wsG := inG 804 (by decide +kernel) (by decide +kernel)
set_option maxRecDepth 20000 in
theorem w805 : Cond.methodLink RX7 1 objectInit ∈ wsG := inG 805 (by decide +kernel) (by decide +kernel)
set_option maxRecDepth 20000 in
theorem w806 : Cond.fieldLink RX7 84 "ClaimChainsModel" "fault" "I" ∈ wsG := inG 806 (by decide +kernel) (by decide +kernel)
set_option maxRecDepth 20000 in
theorem w807 : Cond.fieldLink RX7 91 "ClaimChainsModel" "many" "I" ∈ wsG := inG 807 (by decide +kernel) (by decide +kernel)
set_option maxRecDepth 20000 in
theorem w808 : Cond.fieldLink RX7 7 "ClaimChainsModel" "kind" "[I" ∈ wsG := inG 808 (by decide +kernel) (by decide +kernel)
set_option maxRecDepth 20000 in
theorem w809 : Cond.fieldLink RX7 13 "ClaimChainsModel" "part" "[I" ∈ wsG := inG 809 (by decide +kernel) (by decide +kernel)
set_option maxRecDepth 20000 in
theorem w810 : Cond.fieldLink RX7 16 "ClaimChainsModel" "variables" "[I" ∈ wsG := inG 810 (by decide +kernel) (by decide +kernel)
set_option maxRecDepth 20000 in
theorem w811 : Cond.fieldLink RX7 19 "ClaimChainsModel" "inputs" "[I" ∈ wsG := inG 811 (by decide +kernel) (by decide +kernel)
set_option maxRecDepth 20000 in
theorem w812 : Cond.fieldLink RX7 22 "ClaimChainsModel" "deep" "[I" ∈ wsG := inG 812 (by decide +kernel) (by decide +kernel)
set_option maxRecDepth 20000 in
theorem w813 : Cond.fieldLink RX7 25 "ClaimChainsModel" "leavesOf" "[J" ∈ wsG := inG 813 (by decide +kernel) (by decide +kernel)
set_option maxRecDepth 20000 in
theorem w814 : Cond.fieldLink RX7 29 "ClaimChainsModel" "values" "[I" ∈ wsG := inG 814 (by decide +kernel) (by decide +kernel)
set_option maxRecDepth 20000 in
theorem w815 : Cond.fieldLink RX7 32 "ClaimChainsModel" "startTerm" "I" ∈ wsG := inG 815 (by decide +kernel) (by decide +kernel)
set_option maxRecDepth 20000 in
theorem w816 : Cond.fieldLink RX7 36 "ClaimChainsModel" "claimTerm" "I" ∈ wsG := inG 816 (by decide +kernel) (by decide +kernel)
set_option maxRecDepth 20000 in
theorem w817 : Cond.fieldLink RX7 39 "ClaimChainsModel" "nextTerm" "[I" ∈ wsG := inG 817 (by decide +kernel) (by decide +kernel)
set_option maxRecDepth 20000 in
theorem w818 : Cond.fieldLink RX7 42 "ClaimChainsModel" "far" "[I" ∈ wsG := inG 818 (by decide +kernel) (by decide +kernel)
set_option maxRecDepth 20000 in
theorem w819 : Cond.fieldLink RX7 167 "ClaimChainsModel" "wayMany" "I" ∈ wsG := inG 819 (by decide +kernel) (by decide +kernel)
set_option maxRecDepth 20000 in
theorem w820 : Cond.fieldLink RX7 45 "ClaimChainsModel" "wayState" "[I" ∈ wsG := inG 820 (by decide +kernel) (by decide +kernel)
set_option maxRecDepth 20000 in
theorem w821 : Cond.fieldLink RX7 48 "ClaimChainsModel" "wayRow" "[I" ∈ wsG := inG 821 (by decide +kernel) (by decide +kernel)
set_option maxRecDepth 20000 in
theorem w822 : Cond.fieldLink RX7 136 "ClaimChainsModel" "lemmas" "I" ∈ wsG := inG 822 (by decide +kernel) (by decide +kernel)
set_option maxRecDepth 20000 in
theorem w823 : Cond.fieldLink RX7 51 "ClaimChainsModel" "lemmaOf" "[I" ∈ wsG := inG 823 (by decide +kernel) (by decide +kernel)
set_option maxRecDepth 20000 in
theorem w824 : Cond.fieldLink RX7 54 "ClaimChainsModel" "cubeOf" "[I" ∈ wsG := inG 824 (by decide +kernel) (by decide +kernel)
set_option maxRecDepth 20000 in
theorem w825 : Cond.fieldLink RX7 57 "ClaimChainsModel" "chainState" "[I" ∈ wsG := inG 825 (by decide +kernel) (by decide +kernel)
set_option maxRecDepth 20000 in
theorem w826 : Cond.fieldLink RX7 60 "ClaimChainsModel" "chainRow" "[I" ∈ wsG := inG 826 (by decide +kernel) (by decide +kernel)
set_option maxRecDepth 20000 in
theorem w827 : Cond.fieldLink RX7 63 "ClaimChainsModel" "steps" "[I" ∈ wsG := inG 827 (by decide +kernel) (by decide +kernel)
set_option maxRecDepth 20000 in
theorem w828 : Cond.fieldLink RX7 188 "ClaimChainsModel" "good" "I" ∈ wsG := inG 828 (by decide +kernel) (by decide +kernel)
set_option maxRecDepth 20000 in
theorem w829 : Cond.fieldLink RX7 185 "ClaimChainsModel" "last" "I" ∈ wsG := inG 829 (by decide +kernel) (by decide +kernel)
set_option maxRecDepth 20000 in
theorem w830 : Cond.fieldLink RX7 66 "ClaimChainsModel" "wrong" "[I" ∈ wsG := inG 830 (by decide +kernel) (by decide +kernel)
set_option maxRecDepth 20000 in
theorem w831 : Cond.fieldLink RX7 69 "ClaimChainsModel" "wrongThen" "[I" ∈ wsG := inG 831 (by decide +kernel) (by decide +kernel)
set_option maxRecDepth 20000 in
theorem w832 : Cond.fieldLink RX7 72 "ClaimChainsModel" "sortOf" "[I" ∈ wsG := inG 832 (by decide +kernel) (by decide +kernel)
set_option maxRecDepth 20000 in
theorem w833 : Cond.fieldLink RX7 75 "ClaimChainsModel" "longOf" "[I" ∈ wsG := inG 833 (by decide +kernel) (by decide +kernel)
set_option maxRecDepth 20000 in
theorem w834 : Cond.fieldLink RX7 78 "ClaimChainsModel" "place" "[I" ∈ wsG := inG 834 (by decide +kernel) (by decide +kernel)
set_option maxRecDepth 20000 in
theorem w835 : Cond.fieldLink RX7 81 "ClaimChainsModel" "moved" "[I" ∈ wsG := inG 835 (by decide +kernel) (by decide +kernel)
set_option maxRecDepth 20000 in
theorem w897 : Cond.methodLink RL 17 yX7_leaf ∈ wsG := inG 897 (by decide +kernel) (by decide +kernel)
set_option maxRecDepth 20000 in
theorem w898 : Cond.instanceMethod yX7_leaf ∈ wsG := inG 898 (by decide +kernel) (by decide +kernel)
set_option maxRecDepth 20000 in
theorem w899 : Cond.selects RX7 yX7_leaf yX7_leaf ∈ wsG := inG 899 (by decide +kernel) (by decide +kernel)
set_option maxRecDepth 20000 in
theorem w900 : Cond.code yX7_leaf cX7_leaf 3 (some .int) ∈ wsG := inG 900 (by decide +kernel) (by decide +kernel)
set_option maxRecDepth 20000 in
theorem w901 : Cond.methodLink RX7 94 yX7_within ∈ wsG := inG 901 (by decide +kernel) (by decide +kernel)
set_option maxRecDepth 20000 in
theorem w902 : Cond.static yX7_within ∈ wsG := inG 902 (by decide +kernel) (by decide +kernel)
set_option maxRecDepth 20000 in
theorem w903 : Cond.code yX7_within cX7_within 3 (some .boolean) ∈ wsG := inG 903 (by decide +kernel) (by decide +kernel)
set_option maxRecDepth 20000 in
theorem w904 : Cond.methodLink RX7 113 yX7_comes ∈ wsG := inG 904 (by decide +kernel) (by decide +kernel)
set_option maxRecDepth 20000 in
theorem w906 : Cond.instanceMethod yX7_comes ∈ wsG := inG 906 (by decide +kernel) (by decide +kernel)
set_option maxRecDepth 20000 in
theorem w907 : Cond.code yX7_comes cX7_comes 9 (some .int) ∈ wsG := inG 907 (by decide +kernel) (by decide +kernel)
set_option maxRecDepth 20000 in
theorem w908 : Cond.methodLink RX7 102 yX7_find ∈ wsG := inG 908 (by decide +kernel) (by decide +kernel)
set_option maxRecDepth 20000 in
theorem w910 : Cond.instanceMethod yX7_find ∈ wsG := inG 910 (by decide +kernel) (by decide +kernel)
set_option maxRecDepth 20000 in
theorem w911 : Cond.code yX7_find cX7_find 7 (some .int) ∈ wsG := inG 911 (by decide +kernel) (by decide +kernel)
set_option maxRecDepth 20000 in
theorem w912 : Cond.methodLink RX7 106 yX7_takes ∈ wsG := inG 912 (by decide +kernel) (by decide +kernel)
set_option maxRecDepth 20000 in
theorem w914 : Cond.instanceMethod yX7_takes ∈ wsG := inG 914 (by decide +kernel) (by decide +kernel)
set_option maxRecDepth 20000 in
theorem w915 : Cond.code yX7_takes cX7_takes 3 none ∈ wsG := inG 915 (by decide +kernel) (by decide +kernel)
set_option maxRecDepth 20000 in
theorem w916 : Cond.methodLink RX7 110 yX7_evaluated ∈ wsG := inG 916 (by decide +kernel) (by decide +kernel)
set_option maxRecDepth 20000 in
theorem w918 : Cond.instanceMethod yX7_evaluated ∈ wsG := inG 918 (by decide +kernel) (by decide +kernel)
set_option maxRecDepth 20000 in
theorem w919 : Cond.code yX7_evaluated cX7_evaluated 7 (some .int) ∈ wsG := inG 919 (by decide +kernel) (by decide +kernel)
set_option maxRecDepth 20000 in
theorem w920 : Cond.methodLink RX7 98 yX7_valueIn ∈ wsG := inG 920 (by decide +kernel) (by decide +kernel)
set_option maxRecDepth 20000 in
theorem w922 : Cond.instanceMethod yX7_valueIn ∈ wsG := inG 922 (by decide +kernel) (by decide +kernel)
set_option maxRecDepth 20000 in
theorem w923 : Cond.code yX7_valueIn cX7_valueIn 4 (some .int) ∈ wsG := inG 923 (by decide +kernel) (by decide +kernel)
set_option maxRecDepth 20000 in
theorem w924 : Cond.methodLink RX7 87 yX7_isIn ∈ wsG := inG 924 (by decide +kernel) (by decide +kernel)
set_option maxRecDepth 20000 in
theorem w925 : Cond.static yX7_isIn ∈ wsG := inG 925 (by decide +kernel) (by decide +kernel)
set_option maxRecDepth 20000 in
theorem w926 : Cond.code yX7_isIn cX7_isIn 2 (some .int) ∈ wsG := inG 926 (by decide +kernel) (by decide +kernel)
set_option maxRecDepth 20000 in
theorem w927 : Cond.methodLink RL 22 yX7_gate ∈ wsG := inG 927 (by decide +kernel) (by decide +kernel)
set_option maxRecDepth 20000 in
theorem w928 : Cond.instanceMethod yX7_gate ∈ wsG := inG 928 (by decide +kernel) (by decide +kernel)
set_option maxRecDepth 20000 in
theorem w929 : Cond.selects RX7 yX7_gate yX7_gate ∈ wsG := inG 929 (by decide +kernel) (by decide +kernel)
set_option maxRecDepth 20000 in
theorem w930 : Cond.code yX7_gate cX7_gate 4 (some .int) ∈ wsG := inG 930 (by decide +kernel) (by decide +kernel)
set_option maxRecDepth 20000 in
theorem w931 : Cond.methodLink RX7 116 yX7_isTerm ∈ wsG := inG 931 (by decide +kernel) (by decide +kernel)
set_option maxRecDepth 20000 in
theorem w933 : Cond.instanceMethod yX7_isTerm ∈ wsG := inG 933 (by decide +kernel) (by decide +kernel)
set_option maxRecDepth 20000 in
theorem w934 : Cond.code yX7_isTerm cX7_isTerm 2 (some .boolean) ∈ wsG := inG 934 (by decide +kernel) (by decide +kernel)
set_option maxRecDepth 20000 in
theorem w935 : Cond.methodLink RL 26 yX7_choice ∈ wsG := inG 935 (by decide +kernel) (by decide +kernel)
set_option maxRecDepth 20000 in
theorem w936 : Cond.instanceMethod yX7_choice ∈ wsG := inG 936 (by decide +kernel) (by decide +kernel)
set_option maxRecDepth 20000 in
theorem w937 : Cond.selects RX7 yX7_choice yX7_choice ∈ wsG := inG 937 (by decide +kernel) (by decide +kernel)
set_option maxRecDepth 20000 in
theorem w938 : Cond.code yX7_choice cX7_choice 4 (some .int) ∈ wsG := inG 938 (by decide +kernel) (by decide +kernel)
set_option maxRecDepth 20000 in
theorem w939 : Cond.methodLink RL 30 yX7_ofTerm ∈ wsG := inG 939 (by decide +kernel) (by decide +kernel)
set_option maxRecDepth 20000 in
theorem w940 : Cond.instanceMethod yX7_ofTerm ∈ wsG := inG 940 (by decide +kernel) (by decide +kernel)
set_option maxRecDepth 20000 in
theorem w941 : Cond.selects RX7 yX7_ofTerm yX7_ofTerm ∈ wsG := inG 941 (by decide +kernel) (by decide +kernel)
set_option maxRecDepth 20000 in
theorem w942 : Cond.code yX7_ofTerm cX7_ofTerm 3 (some .int) ∈ wsG := inG 942 (by decide +kernel) (by decide +kernel)
set_option maxRecDepth 20000 in
theorem w943 : Cond.methodLink RL 35 yX7_leaves ∈ wsG := inG 943 (by decide +kernel) (by decide +kernel)
set_option maxRecDepth 20000 in
theorem w944 : Cond.instanceMethod yX7_leaves ∈ wsG := inG 944 (by decide +kernel) (by decide +kernel)
set_option maxRecDepth 20000 in
theorem w945 : Cond.selects RX7 yX7_leaves yX7_leaves ∈ wsG := inG 945 (by decide +kernel) (by decide +kernel)
set_option maxRecDepth 20000 in
theorem w946 : Cond.code yX7_leaves cX7_leaves 2 (some .long) ∈ wsG := inG 946 (by decide +kernel) (by decide +kernel)
set_option maxRecDepth 20000 in
theorem w947 : Cond.constantLong RX7 120 (-9223372036854775808) ∈ wsG := inG 947 (by decide +kernel) (by decide +kernel)
set_option maxRecDepth 20000 in
theorem w948 : Cond.methodLink RL 39 yX7_value ∈ wsG := inG 948 (by decide +kernel) (by decide +kernel)
set_option maxRecDepth 20000 in
theorem w949 : Cond.instanceMethod yX7_value ∈ wsG := inG 949 (by decide +kernel) (by decide +kernel)
set_option maxRecDepth 20000 in
theorem w950 : Cond.selects RX7 yX7_value yX7_value ∈ wsG := inG 950 (by decide +kernel) (by decide +kernel)
set_option maxRecDepth 20000 in
theorem w951 : Cond.code yX7_value cX7_value 4 (some .int) ∈ wsG := inG 951 (by decide +kernel) (by decide +kernel)
set_option maxRecDepth 20000 in
theorem w952 : Cond.methodLink RX7 122 yX7_isState ∈ wsG := inG 952 (by decide +kernel) (by decide +kernel)
set_option maxRecDepth 20000 in
theorem w953 : Cond.static yX7_isState ∈ wsG := inG 953 (by decide +kernel) (by decide +kernel)
set_option maxRecDepth 20000 in
theorem w954 : Cond.code yX7_isState cX7_isState 1 (some .boolean) ∈ wsG := inG 954 (by decide +kernel) (by decide +kernel)
set_option maxRecDepth 20000 in
theorem w955 : Cond.methodLink RX7 125 yX7_isRow ∈ wsG := inG 955 (by decide +kernel) (by decide +kernel)
set_option maxRecDepth 20000 in
theorem w956 : Cond.static yX7_isRow ∈ wsG := inG 956 (by decide +kernel) (by decide +kernel)
set_option maxRecDepth 20000 in
theorem w957 : Cond.code yX7_isRow cX7_isRow 1 (some .boolean) ∈ wsG := inG 957 (by decide +kernel) (by decide +kernel)
set_option maxRecDepth 20000 in
theorem w958 : Cond.methodLink RL 43 yX7_holds ∈ wsG := inG 958 (by decide +kernel) (by decide +kernel)
set_option maxRecDepth 20000 in
theorem w959 : Cond.instanceMethod yX7_holds ∈ wsG := inG 959 (by decide +kernel) (by decide +kernel)
set_option maxRecDepth 20000 in
theorem w960 : Cond.selects RX7 yX7_holds yX7_holds ∈ wsG := inG 960 (by decide +kernel) (by decide +kernel)
set_option maxRecDepth 20000 in
theorem w961 : Cond.code yX7_holds cX7_holds 3 (some .int) ∈ wsG := inG 961 (by decide +kernel) (by decide +kernel)
set_option maxRecDepth 20000 in
theorem w962 : Cond.methodLink RX7 128 yX7_holdsOf ∈ wsG := inG 962 (by decide +kernel) (by decide +kernel)
set_option maxRecDepth 20000 in
theorem w964 : Cond.instanceMethod yX7_holdsOf ∈ wsG := inG 964 (by decide +kernel) (by decide +kernel)
set_option maxRecDepth 20000 in
theorem w965 : Cond.code yX7_holdsOf cX7_holdsOf 5 (some .int) ∈ wsG := inG 965 (by decide +kernel) (by decide +kernel)
set_option maxRecDepth 20000 in
theorem w966 : Cond.methodLink RL 47 yX7_alike ∈ wsG := inG 966 (by decide +kernel) (by decide +kernel)
set_option maxRecDepth 20000 in
theorem w967 : Cond.instanceMethod yX7_alike ∈ wsG := inG 967 (by decide +kernel) (by decide +kernel)
set_option maxRecDepth 20000 in
theorem w968 : Cond.selects RX7 yX7_alike yX7_alike ∈ wsG := inG 968 (by decide +kernel) (by decide +kernel)
set_option maxRecDepth 20000 in
theorem w969 : Cond.code yX7_alike cX7_alike 4 (some .int) ∈ wsG := inG 969 (by decide +kernel) (by decide +kernel)
set_option maxRecDepth 20000 in
theorem w970 : Cond.methodLink RL 52 yX7_starts ∈ wsG := inG 970 (by decide +kernel) (by decide +kernel)
set_option maxRecDepth 20000 in
theorem w971 : Cond.instanceMethod yX7_starts ∈ wsG := inG 971 (by decide +kernel) (by decide +kernel)
set_option maxRecDepth 20000 in
theorem w972 : Cond.selects RX7 yX7_starts yX7_starts ∈ wsG := inG 972 (by decide +kernel) (by decide +kernel)
set_option maxRecDepth 20000 in
theorem w973 : Cond.code yX7_starts cX7_starts 4 (some .int) ∈ wsG := inG 973 (by decide +kernel) (by decide +kernel)
set_option maxRecDepth 20000 in
theorem w974 : Cond.methodLink RX7 132 yX7_againstStates ∈ wsG := inG 974 (by decide +kernel) (by decide +kernel)
set_option maxRecDepth 20000 in
theorem w976 : Cond.instanceMethod yX7_againstStates ∈ wsG := inG 976 (by decide +kernel) (by decide +kernel)
set_option maxRecDepth 20000 in
theorem w977 : Cond.code yX7_againstStates cX7_againstStates 2 (some .int) ∈ wsG := inG 977 (by decide +kernel) (by decide +kernel)
set_option maxRecDepth 20000 in
theorem w978 : Cond.methodLink RL 56 yX7_next ∈ wsG := inG 978 (by decide +kernel) (by decide +kernel)
set_option maxRecDepth 20000 in
theorem w979 : Cond.instanceMethod yX7_next ∈ wsG := inG 979 (by decide +kernel) (by decide +kernel)
set_option maxRecDepth 20000 in
theorem w980 : Cond.selects RX7 yX7_next yX7_next ∈ wsG := inG 980 (by decide +kernel) (by decide +kernel)
set_option maxRecDepth 20000 in
theorem w981 : Cond.code yX7_next cX7_next 4 (some .int) ∈ wsG := inG 981 (by decide +kernel) (by decide +kernel)
set_option maxRecDepth 20000 in
theorem w982 : Cond.methodLink RL 60 yX7_claim ∈ wsG := inG 982 (by decide +kernel) (by decide +kernel)
set_option maxRecDepth 20000 in
theorem w983 : Cond.instanceMethod yX7_claim ∈ wsG := inG 983 (by decide +kernel) (by decide +kernel)
set_option maxRecDepth 20000 in
theorem w984 : Cond.selects RX7 yX7_claim yX7_claim ∈ wsG := inG 984 (by decide +kernel) (by decide +kernel)
set_option maxRecDepth 20000 in
theorem w985 : Cond.code yX7_claim cX7_claim 4 (some .int) ∈ wsG := inG 985 (by decide +kernel) (by decide +kernel)
set_option maxRecDepth 20000 in
theorem w986 : Cond.methodLink RL 64 yX7_step ∈ wsG := inG 986 (by decide +kernel) (by decide +kernel)
set_option maxRecDepth 20000 in
theorem w987 : Cond.instanceMethod yX7_step ∈ wsG := inG 987 (by decide +kernel) (by decide +kernel)
set_option maxRecDepth 20000 in
theorem w988 : Cond.selects RX7 yX7_step yX7_step ∈ wsG := inG 988 (by decide +kernel) (by decide +kernel)
set_option maxRecDepth 20000 in
theorem w989 : Cond.code yX7_step cX7_step 3 (some .int) ∈ wsG := inG 989 (by decide +kernel) (by decide +kernel)
set_option maxRecDepth 20000 in
theorem w990 : Cond.methodLink RX7 139 yX7_stepOf ∈ wsG := inG 990 (by decide +kernel) (by decide +kernel)
set_option maxRecDepth 20000 in
theorem w992 : Cond.instanceMethod yX7_stepOf ∈ wsG := inG 992 (by decide +kernel) (by decide +kernel)
set_option maxRecDepth 20000 in
theorem w993 : Cond.code yX7_stepOf cX7_stepOf 5 (some .int) ∈ wsG := inG 993 (by decide +kernel) (by decide +kernel)
set_option maxRecDepth 20000 in
theorem w994 : Cond.methodLink RL 68 yX7_before ∈ wsG := inG 994 (by decide +kernel) (by decide +kernel)
set_option maxRecDepth 20000 in
theorem w995 : Cond.instanceMethod yX7_before ∈ wsG := inG 995 (by decide +kernel) (by decide +kernel)
set_option maxRecDepth 20000 in
theorem w996 : Cond.selects RX7 yX7_before yX7_before ∈ wsG := inG 996 (by decide +kernel) (by decide +kernel)
set_option maxRecDepth 20000 in
theorem w997 : Cond.code yX7_before cX7_before 2 (some .int) ∈ wsG := inG 997 (by decide +kernel) (by decide +kernel)
set_option maxRecDepth 20000 in
theorem w998 : Cond.methodLink RX7 142 yX7_beforeOf ∈ wsG := inG 998 (by decide +kernel) (by decide +kernel)
set_option maxRecDepth 20000 in
theorem w1000 : Cond.instanceMethod yX7_beforeOf ∈ wsG := inG 1000 (by decide +kernel) (by decide +kernel)
set_option maxRecDepth 20000 in
theorem w1001 : Cond.code yX7_beforeOf cX7_beforeOf 5 (some .int) ∈ wsG := inG 1001 (by decide +kernel) (by decide +kernel)
set_option maxRecDepth 20000 in
theorem w1002 : Cond.methodLink RL 72 yX7_distance ∈ wsG := inG 1002 (by decide +kernel) (by decide +kernel)
set_option maxRecDepth 20000 in
theorem w1003 : Cond.instanceMethod yX7_distance ∈ wsG := inG 1003 (by decide +kernel) (by decide +kernel)
set_option maxRecDepth 20000 in
theorem w1004 : Cond.selects RX7 yX7_distance yX7_distance ∈ wsG := inG 1004 (by decide +kernel) (by decide +kernel)
set_option maxRecDepth 20000 in
theorem w1005 : Cond.code yX7_distance cX7_distance 2 (some .int) ∈ wsG := inG 1005 (by decide +kernel) (by decide +kernel)
set_option maxRecDepth 20000 in
theorem w1006 : Cond.methodLink RX7 149 yX7_findFar ∈ wsG := inG 1006 (by decide +kernel) (by decide +kernel)
set_option maxRecDepth 20000 in
theorem w1008 : Cond.instanceMethod yX7_findFar ∈ wsG := inG 1008 (by decide +kernel) (by decide +kernel)
set_option maxRecDepth 20000 in
theorem w1009 : Cond.code yX7_findFar cX7_findFar 5 none ∈ wsG := inG 1009 (by decide +kernel) (by decide +kernel)
set_option maxRecDepth 20000 in
theorem w1010 : Cond.methodLink RX7 145 yX7_startSet ∈ wsG := inG 1010 (by decide +kernel) (by decide +kernel)
set_option maxRecDepth 20000 in
theorem w1012 : Cond.instanceMethod yX7_startSet ∈ wsG := inG 1012 (by decide +kernel) (by decide +kernel)
set_option maxRecDepth 20000 in
theorem w1013 : Cond.code yX7_startSet cX7_startSet 1 (some .int) ∈ wsG := inG 1013 (by decide +kernel) (by decide +kernel)
set_option maxRecDepth 20000 in
theorem w1014 : Cond.constant RX7 131 (65535) ∈ wsG := inG 1014 (by decide +kernel) (by decide +kernel)
set_option maxRecDepth 20000 in
theorem w1015 : Cond.methodLink RL 76 yX7_met ∈ wsG := inG 1015 (by decide +kernel) (by decide +kernel)
set_option maxRecDepth 20000 in
theorem w1016 : Cond.instanceMethod yX7_met ∈ wsG := inG 1016 (by decide +kernel) (by decide +kernel)
set_option maxRecDepth 20000 in
theorem w1017 : Cond.selects RX7 yX7_met yX7_met ∈ wsG := inG 1017 (by decide +kernel) (by decide +kernel)
set_option maxRecDepth 20000 in
theorem w1018 : Cond.code yX7_met cX7_met 2 (some .int) ∈ wsG := inG 1018 (by decide +kernel) (by decide +kernel)
set_option maxRecDepth 20000 in
theorem w1019 : Cond.methodLink RX7 155 yX7_metSet ∈ wsG := inG 1019 (by decide +kernel) (by decide +kernel)
set_option maxRecDepth 20000 in
theorem w1021 : Cond.instanceMethod yX7_metSet ∈ wsG := inG 1021 (by decide +kernel) (by decide +kernel)
set_option maxRecDepth 20000 in
theorem w1022 : Cond.code yX7_metSet cX7_metSet 3 (some .int) ∈ wsG := inG 1022 (by decide +kernel) (by decide +kernel)
set_option maxRecDepth 20000 in
theorem w1023 : Cond.methodLink RX7 158 yX7_sizeOf ∈ wsG := inG 1023 (by decide +kernel) (by decide +kernel)
set_option maxRecDepth 20000 in
theorem w1024 : Cond.static yX7_sizeOf ∈ wsG := inG 1024 (by decide +kernel) (by decide +kernel)
set_option maxRecDepth 20000 in
theorem w1025 : Cond.code yX7_sizeOf cX7_sizeOf 3 (some .int) ∈ wsG := inG 1025 (by decide +kernel) (by decide +kernel)
set_option maxRecDepth 20000 in
theorem w1026 : Cond.methodLink RX7 161 yX7_greatestFar ∈ wsG := inG 1026 (by decide +kernel) (by decide +kernel)
set_option maxRecDepth 20000 in
theorem w1028 : Cond.instanceMethod yX7_greatestFar ∈ wsG := inG 1028 (by decide +kernel) (by decide +kernel)
set_option maxRecDepth 20000 in
theorem w1029 : Cond.code yX7_greatestFar cX7_greatestFar 3 (some .int) ∈ wsG := inG 1029 (by decide +kernel) (by decide +kernel)
set_option maxRecDepth 20000 in
theorem w1030 : Cond.methodLink RX7 164 yX7_wayLong ∈ wsG := inG 1030 (by decide +kernel) (by decide +kernel)
set_option maxRecDepth 20000 in
theorem w1032 : Cond.instanceMethod yX7_wayLong ∈ wsG := inG 1032 (by decide +kernel) (by decide +kernel)
set_option maxRecDepth 20000 in
theorem w1033 : Cond.code yX7_wayLong cX7_wayLong 4 (some .int) ∈ wsG := inG 1033 (by decide +kernel) (by decide +kernel)
set_option maxRecDepth 20000 in
theorem w1034 : Cond.methodLink RX7 152 yX7_brokenSet ∈ wsG := inG 1034 (by decide +kernel) (by decide +kernel)
set_option maxRecDepth 20000 in
theorem w1036 : Cond.instanceMethod yX7_brokenSet ∈ wsG := inG 1036 (by decide +kernel) (by decide +kernel)
set_option maxRecDepth 20000 in
theorem w1037 : Cond.code yX7_brokenSet cX7_brokenSet 1 (some .int) ∈ wsG := inG 1037 (by decide +kernel) (by decide +kernel)
set_option maxRecDepth 20000 in
theorem w1038 : Cond.methodLink RL 80 yX7_way ∈ wsG := inG 1038 (by decide +kernel) (by decide +kernel)
set_option maxRecDepth 20000 in
theorem w1039 : Cond.instanceMethod yX7_way ∈ wsG := inG 1039 (by decide +kernel) (by decide +kernel)
set_option maxRecDepth 20000 in
theorem w1040 : Cond.selects RX7 yX7_way yX7_way ∈ wsG := inG 1040 (by decide +kernel) (by decide +kernel)
set_option maxRecDepth 20000 in
theorem w1041 : Cond.code yX7_way cX7_way 3 (some .int) ∈ wsG := inG 1041 (by decide +kernel) (by decide +kernel)
set_option maxRecDepth 20000 in
theorem w1042 : Cond.methodLink RX7 173 yX7_findWay ∈ wsG := inG 1042 (by decide +kernel) (by decide +kernel)
set_option maxRecDepth 20000 in
theorem w1044 : Cond.instanceMethod yX7_findWay ∈ wsG := inG 1044 (by decide +kernel) (by decide +kernel)
set_option maxRecDepth 20000 in
theorem w1045 : Cond.code yX7_findWay cX7_findWay 6 none ∈ wsG := inG 1045 (by decide +kernel) (by decide +kernel)
set_option maxRecDepth 20000 in
theorem w1046 : Cond.methodLink RX7 170 yX7_cameFrom ∈ wsG := inG 1046 (by decide +kernel) (by decide +kernel)
set_option maxRecDepth 20000 in
theorem w1048 : Cond.instanceMethod yX7_cameFrom ∈ wsG := inG 1048 (by decide +kernel) (by decide +kernel)
set_option maxRecDepth 20000 in
theorem w1049 : Cond.code yX7_cameFrom cX7_cameFrom 6 (some .int) ∈ wsG := inG 1049 (by decide +kernel) (by decide +kernel)
set_option maxRecDepth 20000 in
theorem w1050 : Cond.methodLink RL 84 yX7_loose ∈ wsG := inG 1050 (by decide +kernel) (by decide +kernel)
set_option maxRecDepth 20000 in
theorem w1051 : Cond.instanceMethod yX7_loose ∈ wsG := inG 1051 (by decide +kernel) (by decide +kernel)
set_option maxRecDepth 20000 in
theorem w1052 : Cond.selects RX7 yX7_loose yX7_loose ∈ wsG := inG 1052 (by decide +kernel) (by decide +kernel)
set_option maxRecDepth 20000 in
theorem w1053 : Cond.code yX7_loose cX7_loose 7 (some .int) ∈ wsG := inG 1053 (by decide +kernel) (by decide +kernel)
set_option maxRecDepth 20000 in
theorem w1054 : Cond.methodLink RX7 176 yX7_isStillBroken ∈ wsG := inG 1054 (by decide +kernel) (by decide +kernel)
set_option maxRecDepth 20000 in
theorem w1056 : Cond.instanceMethod yX7_isStillBroken ∈ wsG := inG 1056 (by decide +kernel) (by decide +kernel)
set_option maxRecDepth 20000 in
theorem w1057 : Cond.code yX7_isStillBroken cX7_isStillBroken 6 (some .boolean) ∈ wsG := inG 1057 (by decide +kernel) (by decide +kernel)
set_option maxRecDepth 20000 in
theorem w1058 : Cond.methodLink RL 88 yX7_cone ∈ wsG := inG 1058 (by decide +kernel) (by decide +kernel)
set_option maxRecDepth 20000 in
theorem w1059 : Cond.instanceMethod yX7_cone ∈ wsG := inG 1059 (by decide +kernel) (by decide +kernel)
set_option maxRecDepth 20000 in
theorem w1060 : Cond.selects RX7 yX7_cone yX7_cone ∈ wsG := inG 1060 (by decide +kernel) (by decide +kernel)
set_option maxRecDepth 20000 in
theorem w1061 : Cond.code yX7_cone cX7_cone 7 (some .int) ∈ wsG := inG 1061 (by decide +kernel) (by decide +kernel)
set_option maxRecDepth 20000 in
theorem w1062 : Cond.methodLink RL 92 yX7_clear ∈ wsG := inG 1062 (by decide +kernel) (by decide +kernel)
set_option maxRecDepth 20000 in
theorem w1063 : Cond.instanceMethod yX7_clear ∈ wsG := inG 1063 (by decide +kernel) (by decide +kernel)
set_option maxRecDepth 20000 in
theorem w1064 : Cond.selects RX7 yX7_clear yX7_clear ∈ wsG := inG 1064 (by decide +kernel) (by decide +kernel)
set_option maxRecDepth 20000 in
theorem w1065 : Cond.code yX7_clear cX7_clear 2 (some .int) ∈ wsG := inG 1065 (by decide +kernel) (by decide +kernel)
set_option maxRecDepth 20000 in
theorem w1066 : Cond.methodLink RX7 182 yX7_isClear ∈ wsG := inG 1066 (by decide +kernel) (by decide +kernel)
set_option maxRecDepth 20000 in
theorem w1068 : Cond.instanceMethod yX7_isClear ∈ wsG := inG 1068 (by decide +kernel) (by decide +kernel)
set_option maxRecDepth 20000 in
theorem w1069 : Cond.code yX7_isClear cX7_isClear 3 (some .boolean) ∈ wsG := inG 1069 (by decide +kernel) (by decide +kernel)
set_option maxRecDepth 20000 in
theorem w1070 : Cond.methodLink RL 96 yX7_shut ∈ wsG := inG 1070 (by decide +kernel) (by decide +kernel)
set_option maxRecDepth 20000 in
theorem w1071 : Cond.instanceMethod yX7_shut ∈ wsG := inG 1071 (by decide +kernel) (by decide +kernel)
set_option maxRecDepth 20000 in
theorem w1072 : Cond.selects RX7 yX7_shut yX7_shut ∈ wsG := inG 1072 (by decide +kernel) (by decide +kernel)
set_option maxRecDepth 20000 in
theorem w1073 : Cond.code yX7_shut cX7_shut 2 (some .int) ∈ wsG := inG 1073 (by decide +kernel) (by decide +kernel)
set_option maxRecDepth 20000 in
theorem w1074 : Cond.methodLink RX7 207 yX7_findChain ∈ wsG := inG 1074 (by decide +kernel) (by decide +kernel)
set_option maxRecDepth 20000 in
theorem w1076 : Cond.instanceMethod yX7_findChain ∈ wsG := inG 1076 (by decide +kernel) (by decide +kernel)
set_option maxRecDepth 20000 in
theorem w1077 : Cond.code yX7_findChain cX7_findChain 4 (some .boolean) ∈ wsG := inG 1077 (by decide +kernel) (by decide +kernel)
set_option maxRecDepth 20000 in
theorem w1078 : Cond.methodLink RX7 198 yX7_goodSet ∈ wsG := inG 1078 (by decide +kernel) (by decide +kernel)
set_option maxRecDepth 20000 in
theorem w1080 : Cond.instanceMethod yX7_goodSet ∈ wsG := inG 1080 (by decide +kernel) (by decide +kernel)
set_option maxRecDepth 20000 in
theorem w1081 : Cond.code yX7_goodSet cX7_goodSet 1 (some .int) ∈ wsG := inG 1081 (by decide +kernel) (by decide +kernel)
set_option maxRecDepth 20000 in
theorem w1082 : Cond.methodLink RX7 179 yX7_inAll ∈ wsG := inG 1082 (by decide +kernel) (by decide +kernel)
set_option maxRecDepth 20000 in
theorem w1084 : Cond.instanceMethod yX7_inAll ∈ wsG := inG 1084 (by decide +kernel) (by decide +kernel)
set_option maxRecDepth 20000 in
theorem w1085 : Cond.code yX7_inAll cX7_inAll 3 (some .int) ∈ wsG := inG 1085 (by decide +kernel) (by decide +kernel)
set_option maxRecDepth 20000 in
theorem w1086 : Cond.methodLink RX7 201 yX7_lastSet ∈ wsG := inG 1086 (by decide +kernel) (by decide +kernel)
set_option maxRecDepth 20000 in
theorem w1088 : Cond.instanceMethod yX7_lastSet ∈ wsG := inG 1088 (by decide +kernel) (by decide +kernel)
set_option maxRecDepth 20000 in
theorem w1089 : Cond.code yX7_lastSet cX7_lastSet 1 (some .int) ∈ wsG := inG 1089 (by decide +kernel) (by decide +kernel)
set_option maxRecDepth 20000 in
theorem w1090 : Cond.methodLink RX7 204 yX7_extend ∈ wsG := inG 1090 (by decide +kernel) (by decide +kernel)
set_option maxRecDepth 20000 in
theorem w1092 : Cond.instanceMethod yX7_extend ∈ wsG := inG 1092 (by decide +kernel) (by decide +kernel)
set_option maxRecDepth 20000 in
theorem w1093 : Cond.code yX7_extend cX7_extend 4 (some .boolean) ∈ wsG := inG 1093 (by decide +kernel) (by decide +kernel)
set_option maxRecDepth 20000 in
theorem w1094 : Cond.methodLink RX7 195 yX7_nextRow ∈ wsG := inG 1094 (by decide +kernel) (by decide +kernel)
set_option maxRecDepth 20000 in
theorem w1096 : Cond.instanceMethod yX7_nextRow ∈ wsG := inG 1096 (by decide +kernel) (by decide +kernel)
set_option maxRecDepth 20000 in
theorem w1097 : Cond.code yX7_nextRow cX7_nextRow 8 (some .int) ∈ wsG := inG 1097 (by decide +kernel) (by decide +kernel)
set_option maxRecDepth 20000 in
theorem w1098 : Cond.methodLink RX7 191 yX7_isNew ∈ wsG := inG 1098 (by decide +kernel) (by decide +kernel)
set_option maxRecDepth 20000 in
theorem w1100 : Cond.instanceMethod yX7_isNew ∈ wsG := inG 1100 (by decide +kernel) (by decide +kernel)
set_option maxRecDepth 20000 in
theorem w1101 : Cond.code yX7_isNew cX7_isNew 4 (some .boolean) ∈ wsG := inG 1101 (by decide +kernel) (by decide +kernel)
set_option maxRecDepth 20000 in
theorem w1102 : Cond.methodLink RL 100 yX7_settle ∈ wsG := inG 1102 (by decide +kernel) (by decide +kernel)
set_option maxRecDepth 20000 in
theorem w1103 : Cond.instanceMethod yX7_settle ∈ wsG := inG 1103 (by decide +kernel) (by decide +kernel)
set_option maxRecDepth 20000 in
theorem w1104 : Cond.selects RX7 yX7_settle yX7_settle ∈ wsG := inG 1104 (by decide +kernel) (by decide +kernel)
set_option maxRecDepth 20000 in
theorem w1105 : Cond.code yX7_settle cX7_settle 3 (some .int) ∈ wsG := inG 1105 (by decide +kernel) (by decide +kernel)
set_option maxRecDepth 20000 in
theorem w1106 : Cond.methodLink RL 104 yX7_chain ∈ wsG := inG 1106 (by decide +kernel) (by decide +kernel)
set_option maxRecDepth 20000 in
theorem w1107 : Cond.instanceMethod yX7_chain ∈ wsG := inG 1107 (by decide +kernel) (by decide +kernel)
set_option maxRecDepth 20000 in
theorem w1108 : Cond.selects RX7 yX7_chain yX7_chain ∈ wsG := inG 1108 (by decide +kernel) (by decide +kernel)
set_option maxRecDepth 20000 in
theorem w1109 : Cond.code yX7_chain cX7_chain 4 (some .int) ∈ wsG := inG 1109 (by decide +kernel) (by decide +kernel)
set_option maxRecDepth 20000 in
theorem w1110 : Cond.methodLink RL 108 yX7_weak ∈ wsG := inG 1110 (by decide +kernel) (by decide +kernel)
set_option maxRecDepth 20000 in
theorem w1111 : Cond.instanceMethod yX7_weak ∈ wsG := inG 1111 (by decide +kernel) (by decide +kernel)
set_option maxRecDepth 20000 in
theorem w1112 : Cond.selects RX7 yX7_weak yX7_weak ∈ wsG := inG 1112 (by decide +kernel) (by decide +kernel)
set_option maxRecDepth 20000 in
theorem w1113 : Cond.code yX7_weak cX7_weak 2 (some .int) ∈ wsG := inG 1113 (by decide +kernel) (by decide +kernel)
set_option maxRecDepth 20000 in
theorem w1114 : Cond.methodLink RX7 210 yX7_weakSet ∈ wsG := inG 1114 (by decide +kernel) (by decide +kernel)
set_option maxRecDepth 20000 in
theorem w1116 : Cond.instanceMethod yX7_weakSet ∈ wsG := inG 1116 (by decide +kernel) (by decide +kernel)
set_option maxRecDepth 20000 in
theorem w1117 : Cond.code yX7_weakSet cX7_weakSet 5 (some .int) ∈ wsG := inG 1117 (by decide +kernel) (by decide +kernel)
set_option maxRecDepth 20000 in
theorem w1118 : Cond.methodLink RL 113 yX7_strengthen ∈ wsG := inG 1118 (by decide +kernel) (by decide +kernel)
set_option maxRecDepth 20000 in
theorem w1119 : Cond.instanceMethod yX7_strengthen ∈ wsG := inG 1119 (by decide +kernel) (by decide +kernel)
set_option maxRecDepth 20000 in
theorem w1120 : Cond.selects RX7 yX7_strengthen yX7_strengthen ∈ wsG := inG 1120 (by decide +kernel) (by decide +kernel)
set_option maxRecDepth 20000 in
theorem w1121 : Cond.code yX7_strengthen cX7_strengthen 6 (some .int) ∈ wsG := inG 1121 (by decide +kernel) (by decide +kernel)
set_option maxRecDepth 20000 in
theorem w1122 : Cond.methodLink RX7 216 yX7_firstWeak ∈ wsG := inG 1122 (by decide +kernel) (by decide +kernel)
set_option maxRecDepth 20000 in
theorem w1124 : Cond.instanceMethod yX7_firstWeak ∈ wsG := inG 1124 (by decide +kernel) (by decide +kernel)
set_option maxRecDepth 20000 in
theorem w1125 : Cond.code yX7_firstWeak cX7_firstWeak 3 (some .int) ∈ wsG := inG 1125 (by decide +kernel) (by decide +kernel)
set_option maxRecDepth 20000 in
theorem w1126 : Cond.methodLink RX7 213 yX7_isFit ∈ wsG := inG 1126 (by decide +kernel) (by decide +kernel)
set_option maxRecDepth 20000 in
theorem w1128 : Cond.instanceMethod yX7_isFit ∈ wsG := inG 1128 (by decide +kernel) (by decide +kernel)
set_option maxRecDepth 20000 in
theorem w1129 : Cond.code yX7_isFit cX7_isFit 5 (some .boolean) ∈ wsG := inG 1129 (by decide +kernel) (by decide +kernel)
set_option maxRecDepth 20000 in
theorem w1130 : Cond.methodLink RX7 219 yX7_outside ∈ wsG := inG 1130 (by decide +kernel) (by decide +kernel)
set_option maxRecDepth 20000 in
theorem w1131 : Cond.static yX7_outside ∈ wsG := inG 1131 (by decide +kernel) (by decide +kernel)
set_option maxRecDepth 20000 in
theorem w1132 : Cond.code yX7_outside cX7_outside 4 (some .int) ∈ wsG := inG 1132 (by decide +kernel) (by decide +kernel)
set_option maxRecDepth 20000 in
theorem w1133 : Cond.methodLink RX7 222 yX7_notes ∈ wsG := inG 1133 (by decide +kernel) (by decide +kernel)
set_option maxRecDepth 20000 in
theorem w1135 : Cond.instanceMethod yX7_notes ∈ wsG := inG 1135 (by decide +kernel) (by decide +kernel)
set_option maxRecDepth 20000 in
theorem w1136 : Cond.code yX7_notes cX7_notes 3 (some .int) ∈ wsG := inG 1136 (by decide +kernel) (by decide +kernel)
set_option maxRecDepth 20000 in
theorem w1137 : Cond.methodLink RL 117 yX7_lemma ∈ wsG := inG 1137 (by decide +kernel) (by decide +kernel)
set_option maxRecDepth 20000 in
theorem w1138 : Cond.instanceMethod yX7_lemma ∈ wsG := inG 1138 (by decide +kernel) (by decide +kernel)
set_option maxRecDepth 20000 in
theorem w1139 : Cond.selects RX7 yX7_lemma yX7_lemma ∈ wsG := inG 1139 (by decide +kernel) (by decide +kernel)
set_option maxRecDepth 20000 in
theorem w1140 : Cond.code yX7_lemma cX7_lemma 3 (some .int) ∈ wsG := inG 1140 (by decide +kernel) (by decide +kernel)
set_option maxRecDepth 20000 in
theorem w1141 : Cond.methodLink RX7 225 yX7_lemmaBy ∈ wsG := inG 1141 (by decide +kernel) (by decide +kernel)
set_option maxRecDepth 20000 in
theorem w1143 : Cond.instanceMethod yX7_lemmaBy ∈ wsG := inG 1143 (by decide +kernel) (by decide +kernel)
set_option maxRecDepth 20000 in
theorem w1144 : Cond.code yX7_lemmaBy cX7_lemmaBy 2 (some .int) ∈ wsG := inG 1144 (by decide +kernel) (by decide +kernel)
set_option maxRecDepth 20000 in
theorem w1145 : Cond.methodLink RL 121 yX7_block ∈ wsG := inG 1145 (by decide +kernel) (by decide +kernel)
set_option maxRecDepth 20000 in
theorem w1146 : Cond.instanceMethod yX7_block ∈ wsG := inG 1146 (by decide +kernel) (by decide +kernel)
set_option maxRecDepth 20000 in
theorem w1147 : Cond.selects RX7 yX7_block yX7_block ∈ wsG := inG 1147 (by decide +kernel) (by decide +kernel)
set_option maxRecDepth 20000 in
theorem w1148 : Cond.code yX7_block cX7_block 5 (some .int) ∈ wsG := inG 1148 (by decide +kernel) (by decide +kernel)
set_option maxRecDepth 20000 in
theorem w1149 : Cond.methodLink RX7 228 yX7_isBox ∈ wsG := inG 1149 (by decide +kernel) (by decide +kernel)
set_option maxRecDepth 20000 in
theorem w1150 : Cond.static yX7_isBox ∈ wsG := inG 1150 (by decide +kernel) (by decide +kernel)
set_option maxRecDepth 20000 in
theorem w1151 : Cond.code yX7_isBox cX7_isBox 1 (some .boolean) ∈ wsG := inG 1151 (by decide +kernel) (by decide +kernel)
set_option maxRecDepth 20000 in
theorem w1152 : Cond.methodLink RX7 231 yX7_fails ∈ wsG := inG 1152 (by decide +kernel) (by decide +kernel)
set_option maxRecDepth 20000 in
theorem w1154 : Cond.instanceMethod yX7_fails ∈ wsG := inG 1154 (by decide +kernel) (by decide +kernel)
set_option maxRecDepth 20000 in
theorem w1155 : Cond.code yX7_fails cX7_fails 2 (some .int) ∈ wsG := inG 1155 (by decide +kernel) (by decide +kernel)
set_option maxRecDepth 20000 in
theorem w1156 : Cond.methodLink RL 125 yX7_back ∈ wsG := inG 1156 (by decide +kernel) (by decide +kernel)
set_option maxRecDepth 20000 in
theorem w1157 : Cond.instanceMethod yX7_back ∈ wsG := inG 1157 (by decide +kernel) (by decide +kernel)
set_option maxRecDepth 20000 in
theorem w1158 : Cond.selects RX7 yX7_back yX7_back ∈ wsG := inG 1158 (by decide +kernel) (by decide +kernel)
set_option maxRecDepth 20000 in
theorem w1159 : Cond.code yX7_back cX7_back 1 (some .int) ∈ wsG := inG 1159 (by decide +kernel) (by decide +kernel)
set_option maxRecDepth 20000 in
theorem w1160 : Cond.methodLink RL 129 yX7_ofLemma ∈ wsG := inG 1160 (by decide +kernel) (by decide +kernel)
set_option maxRecDepth 20000 in
theorem w1161 : Cond.instanceMethod yX7_ofLemma ∈ wsG := inG 1161 (by decide +kernel) (by decide +kernel)
set_option maxRecDepth 20000 in
theorem w1162 : Cond.selects RX7 yX7_ofLemma yX7_ofLemma ∈ wsG := inG 1162 (by decide +kernel) (by decide +kernel)
set_option maxRecDepth 20000 in
theorem w1163 : Cond.code yX7_ofLemma cX7_ofLemma 3 (some .int) ∈ wsG := inG 1163 (by decide +kernel) (by decide +kernel)
set_option maxRecDepth 20000 in
theorem w1164 : Cond.methodLink RL 133 yX7_closed ∈ wsG := inG 1164 (by decide +kernel) (by decide +kernel)
set_option maxRecDepth 20000 in
theorem w1165 : Cond.instanceMethod yX7_closed ∈ wsG := inG 1165 (by decide +kernel) (by decide +kernel)
set_option maxRecDepth 20000 in
theorem w1166 : Cond.selects RX7 yX7_closed yX7_closed ∈ wsG := inG 1166 (by decide +kernel) (by decide +kernel)
set_option maxRecDepth 20000 in
theorem w1167 : Cond.code yX7_closed cX7_closed 1 (some .int) ∈ wsG := inG 1167 (by decide +kernel) (by decide +kernel)
set_option maxRecDepth 20000 in
theorem w1168 : Cond.methodLink RL 137 yX7_chance ∈ wsG := inG 1168 (by decide +kernel) (by decide +kernel)
set_option maxRecDepth 20000 in
theorem w1169 : Cond.instanceMethod yX7_chance ∈ wsG := inG 1169 (by decide +kernel) (by decide +kernel)
set_option maxRecDepth 20000 in
theorem w1170 : Cond.selects RX7 yX7_chance yX7_chance ∈ wsG := inG 1170 (by decide +kernel) (by decide +kernel)
set_option maxRecDepth 20000 in
theorem w1171 : Cond.code yX7_chance cX7_chance 8 (some .int) ∈ wsG := inG 1171 (by decide +kernel) (by decide +kernel)
set_option maxRecDepth 20000 in
theorem w1172 : Cond.methodLink RX7 236 yX7_nearestBits ∈ wsG := inG 1172 (by decide +kernel) (by decide +kernel)
set_option maxRecDepth 20000 in
theorem w1173 : Cond.static yX7_nearestBits ∈ wsG := inG 1173 (by decide +kernel) (by decide +kernel)
set_option maxRecDepth 20000 in
theorem w1174 : Cond.code yX7_nearestBits cX7_nearestBits 13 (some .long) ∈ wsG := inG 1174 (by decide +kernel) (by decide +kernel)
set_option maxRecDepth 20000 in
theorem w1175 : Cond.constantLong RX7 234 (2) ∈ wsG := inG 1175 (by decide +kernel) (by decide +kernel)
set_option maxRecDepth 20000 in
theorem w1176 : Cond.methodLink RL 142 yX7_mean ∈ wsG := inG 1176 (by decide +kernel) (by decide +kernel)
set_option maxRecDepth 20000 in
theorem w1177 : Cond.instanceMethod yX7_mean ∈ wsG := inG 1177 (by decide +kernel) (by decide +kernel)
set_option maxRecDepth 20000 in
theorem w1178 : Cond.selects RX7 yX7_mean yX7_mean ∈ wsG := inG 1178 (by decide +kernel) (by decide +kernel)
set_option maxRecDepth 20000 in
theorem w1179 : Cond.code yX7_mean cX7_mean 4 (some .long) ∈ wsG := inG 1179 (by decide +kernel) (by decide +kernel)
set_option maxRecDepth 20000 in
theorem w1180 : Cond.methodLink RL 146 yX7_box ∈ wsG := inG 1180 (by decide +kernel) (by decide +kernel)
set_option maxRecDepth 20000 in
theorem w1181 : Cond.instanceMethod yX7_box ∈ wsG := inG 1181 (by decide +kernel) (by decide +kernel)
set_option maxRecDepth 20000 in
theorem w1182 : Cond.selects RX7 yX7_box yX7_box ∈ wsG := inG 1182 (by decide +kernel) (by decide +kernel)
set_option maxRecDepth 20000 in
theorem w1183 : Cond.code yX7_box cX7_box 5 (some .int) ∈ wsG := inG 1183 (by decide +kernel) (by decide +kernel)
set_option maxRecDepth 20000 in
theorem w1184 : Cond.methodLink RL 150 yX7_lay ∈ wsG := inG 1184 (by decide +kernel) (by decide +kernel)
set_option maxRecDepth 20000 in
theorem w1185 : Cond.instanceMethod yX7_lay ∈ wsG := inG 1185 (by decide +kernel) (by decide +kernel)
set_option maxRecDepth 20000 in
theorem w1186 : Cond.selects RX7 yX7_lay yX7_lay ∈ wsG := inG 1186 (by decide +kernel) (by decide +kernel)
set_option maxRecDepth 20000 in
theorem w1187 : Cond.code yX7_lay cX7_lay 4 (some .int) ∈ wsG := inG 1187 (by decide +kernel) (by decide +kernel)
set_option maxRecDepth 20000 in
theorem w1188 : Cond.methodLink RX7 240 yX7_goesTo ∈ wsG := inG 1188 (by decide +kernel) (by decide +kernel)
set_option maxRecDepth 20000 in
theorem w1190 : Cond.instanceMethod yX7_goesTo ∈ wsG := inG 1190 (by decide +kernel) (by decide +kernel)
set_option maxRecDepth 20000 in
theorem w1191 : Cond.code yX7_goesTo cX7_goesTo 3 (some .boolean) ∈ wsG := inG 1191 (by decide +kernel) (by decide +kernel)
set_option maxRecDepth 20000 in
theorem w1192 : Cond.methodLink RL 154 yX7_take ∈ wsG := inG 1192 (by decide +kernel) (by decide +kernel)
set_option maxRecDepth 20000 in
theorem w1193 : Cond.instanceMethod yX7_take ∈ wsG := inG 1193 (by decide +kernel) (by decide +kernel)
set_option maxRecDepth 20000 in
theorem w1194 : Cond.selects RX7 yX7_take yX7_take ∈ wsG := inG 1194 (by decide +kernel) (by decide +kernel)
set_option maxRecDepth 20000 in
theorem w1195 : Cond.code yX7_take cX7_take 3 (some .int) ∈ wsG := inG 1195 (by decide +kernel) (by decide +kernel)
set_option maxRecDepth 20000 in
theorem w1196 : Cond.methodLink RL 158 yX7_same ∈ wsG := inG 1196 (by decide +kernel) (by decide +kernel)
set_option maxRecDepth 20000 in
theorem w1197 : Cond.instanceMethod yX7_same ∈ wsG := inG 1197 (by decide +kernel) (by decide +kernel)
set_option maxRecDepth 20000 in
theorem w1198 : Cond.selects RX7 yX7_same yX7_same ∈ wsG := inG 1198 (by decide +kernel) (by decide +kernel)
set_option maxRecDepth 20000 in
theorem w1199 : Cond.code yX7_same cX7_same 4 (some .int) ∈ wsG := inG 1199 (by decide +kernel) (by decide +kernel)
set_option maxRecDepth 20000 in
theorem w1200 : Cond.methodLink RL 163 yX7_move ∈ wsG := inG 1200 (by decide +kernel) (by decide +kernel)
set_option maxRecDepth 20000 in
theorem w1201 : Cond.instanceMethod yX7_move ∈ wsG := inG 1201 (by decide +kernel) (by decide +kernel)
set_option maxRecDepth 20000 in
theorem w1202 : Cond.selects RX7 yX7_move yX7_move ∈ wsG := inG 1202 (by decide +kernel) (by decide +kernel)
set_option maxRecDepth 20000 in
theorem w1203 : Cond.code yX7_move cX7_move 8 (some .int) ∈ wsG := inG 1203 (by decide +kernel) (by decide +kernel)
set_option maxRecDepth 20000 in
theorem w1204 : Cond.methodLink RL 167 yX7_states ∈ wsG := inG 1204 (by decide +kernel) (by decide +kernel)
set_option maxRecDepth 20000 in
theorem w1205 : Cond.instanceMethod yX7_states ∈ wsG := inG 1205 (by decide +kernel) (by decide +kernel)
set_option maxRecDepth 20000 in
theorem w1206 : Cond.selects RX7 yX7_states yX7_states ∈ wsG := inG 1206 (by decide +kernel) (by decide +kernel)
set_option maxRecDepth 20000 in
theorem w1207 : Cond.code yX7_states cX7_states 7 (some .int) ∈ wsG := inG 1207 (by decide +kernel) (by decide +kernel)
set_option maxRecDepth 20000 in
theorem w1208 : Cond.methodLink RL 171 yX7_lose ∈ wsG := inG 1208 (by decide +kernel) (by decide +kernel)
set_option maxRecDepth 20000 in
theorem w1209 : Cond.instanceMethod yX7_lose ∈ wsG := inG 1209 (by decide +kernel) (by decide +kernel)
set_option maxRecDepth 20000 in
theorem w1210 : Cond.selects RX7 yX7_lose yX7_lose ∈ wsG := inG 1210 (by decide +kernel) (by decide +kernel)
set_option maxRecDepth 20000 in
theorem w1211 : Cond.code yX7_lose cX7_lose 3 (some .int) ∈ wsG := inG 1211 (by decide +kernel) (by decide +kernel)
set_option maxRecDepth 20000 in
theorem w1212 : Cond.methodLink RL 175 yX7_fault ∈ wsG := inG 1212 (by decide +kernel) (by decide +kernel)
set_option maxRecDepth 20000 in
theorem w1213 : Cond.instanceMethod yX7_fault ∈ wsG := inG 1213 (by decide +kernel) (by decide +kernel)
set_option maxRecDepth 20000 in
theorem w1214 : Cond.selects RX7 yX7_fault yX7_fault ∈ wsG := inG 1214 (by decide +kernel) (by decide +kernel)
set_option maxRecDepth 20000 in
theorem w1215 : Cond.code yX7_fault cX7_fault 1 (some .int) ∈ wsG := inG 1215 (by decide +kernel) (by decide +kernel)
set_option maxRecDepth 20000 in
theorem w1216 : Cond.methodLink RL 179 yX7_many ∈ wsG := inG 1216 (by decide +kernel) (by decide +kernel)
set_option maxRecDepth 20000 in
theorem w1217 : Cond.instanceMethod yX7_many ∈ wsG := inG 1217 (by decide +kernel) (by decide +kernel)
set_option maxRecDepth 20000 in
theorem w1218 : Cond.selects RX7 yX7_many yX7_many ∈ wsG := inG 1218 (by decide +kernel) (by decide +kernel)
set_option maxRecDepth 20000 in
theorem w1219 : Cond.code yX7_many cX7_many 2 (some .int) ∈ wsG := inG 1219 (by decide +kernel) (by decide +kernel)
set_option maxRecDepth 20000 in
theorem w1220 : Cond.methodLink RX7 243 yX7_manyBoxes ∈ wsG := inG 1220 (by decide +kernel) (by decide +kernel)
set_option maxRecDepth 20000 in
theorem w1222 : Cond.instanceMethod yX7_manyBoxes ∈ wsG := inG 1222 (by decide +kernel) (by decide +kernel)
set_option maxRecDepth 20000 in
theorem w1223 : Cond.code yX7_manyBoxes cX7_manyBoxes 3 (some .int) ∈ wsG := inG 1223 (by decide +kernel) (by decide +kernel)
set_option maxRecDepth 20000 in
theorem iw_0 : ∀ w ∈ u_ws RX0 TX0 3, w ∈ wsG := inGs _ [347, 349, 351] (by decide +kernel) (by decide +kernel)
set_option maxRecDepth 20000 in
theorem iw_1 : ∀ w ∈ u_ws RX1 TX1 10, w ∈ wsG := inGs _ [298, 300, 302, 304, 306, 308, 310, 312, 314, 316] (by decide +kernel) (by decide +kernel)
set_option maxRecDepth 20000 in
theorem iw_2 : ∀ w ∈ u_ws RX2 TX2 5, w ∈ wsG := inGs _ [269, 271, 273, 275, 277] (by decide +kernel) (by decide +kernel)
set_option maxRecDepth 20000 in
theorem iw_3 : ∀ w ∈ u_ws RX3 TX3 15, w ∈ wsG := inGs _ [223, 225, 227, 229, 231, 233, 235, 237, 239, 241, 243, 245, 247, 249, 251] (by decide +kernel) (by decide +kernel)
set_option maxRecDepth 20000 in
theorem iw_4 : ∀ w ∈ u_ws RX4 TX4 10, w ∈ wsG := inGs _ [137, 139, 141, 143, 145, 147, 149, 151, 153, 155] (by decide +kernel) (by decide +kernel)
set_option maxRecDepth 20000 in
theorem iw_5 : ∀ w ∈ u_ws RX5 TX5 3, w ∈ wsG := inGs _ [328, 330, 332] (by decide +kernel) (by decide +kernel)
set_option maxRecDepth 20000 in
theorem iw_6 : ∀ w ∈ u_ws RX6 TX6 8, w ∈ wsG := inGs _ [362, 364, 366, 368, 370, 372, 374, 376] (by decide +kernel) (by decide +kernel)
set_option maxRecDepth 20000 in
theorem iw_7 : ∀ w ∈ u_ws RX7 TX7 30, w ∈ wsG := inGs _ [836, 838, 840, 842, 844, 846, 848, 850, 852, 854, 856, 858, 860, 862, 864, 866, 868, 870, 872, 874, 876, 878, 880, 882, 884, 886, 888, 890, 892, 894] (by decide +kernel) (by decide +kernel)
end
section
/-! ClaimChains$Box.<init>()V -/
set_option maxRecDepth 20000 in
theorem s_X0_init_0 : Snd mX0_init 0 (opLdA 0) 1 := (snd_aload_n (k := 0) (by decide +kernel) rfl)
set_option maxRecDepth 20000 in
theorem o_X0_init_1 : OIn mX0_init 1 := fun h1 h2 => e_oinit (by decide +kernel) w341 w106 w107 h1 h2
set_option maxRecDepth 20000 in
theorem s_X0_init_4 : Snd mX0_init 4 (sq (opLdA 0) (opCi (8))) 7 := (snd_sq (snd_aload_n (k := 0) (by decide +kernel) rfl) (snd_bipush (k := 8) (by decide) (by decide +kernel)))
set_option maxRecDepth 20000 in
theorem n_X0_init_7 : NewA mX0_init 7 2 100 := fun h1 h2 h3 h4 h5 h6 h7 => e_newI (by decide +kernel) w158 h1 h2 h3 h4 h5 h6 h7
set_option maxRecDepth 20000 in
theorem s_X0_init_9 : Snd mX0_init 9 (sq (opPutR 0 0) (sq (opLdA 0) (sq (opCi (0)) (sq (opPutI 0 1) (sq (opLdA 0) (sq (opCi (-9)) (opPutI 0 2))))))) 23 := (snd_sq (snd_putR (ci := 0) (k := 0) (by decide +kernel) rfl (by decide) (by decide) rfl iw_0 tyX0_ok nmX0 rfl rfl rfl (tyX0_ok 0 (by decide)) (fun _ => rfl) (fun _ => rfl) w342) (snd_sq (snd_aload_n (k := 0) (by decide +kernel) rfl) (snd_sq (snd_iconst (k := 0) (by decide) (by decide +kernel)) (snd_sq (snd_putI (ci := 0) (k := 1) (by decide +kernel) rfl (by decide) (by decide) (by decide) iw_0 tyX0_ok nmX0 rfl (tyX0_ok 1 (by decide)) w344) (snd_sq (snd_aload_n (k := 0) (by decide +kernel) rfl) (snd_sq (snd_bipush (k := -9) (by decide) (by decide +kernel)) (snd_putI (ci := 0) (k := 2) (by decide +kernel) rfl (by decide) (by decide) (by decide) iw_0 tyX0_ok nmX0 rfl (tyX0_ok 2 (by decide)) w345)))))))
set_option maxRecDepth 20000 in
theorem r_X0_init_23 : RtV mX0_init 23 := rt_V (by decide +kernel) rfl
/-! ClaimChains$Box.hasRow()Z -/
set_option maxRecDepth 20000 in
theorem s_X0_hasRow_0 : Snd mX0_hasRow 0 (sq (opLdA 0) (opGetI 0 2)) 4 := (snd_sq (snd_aload_n (k := 0) (by decide +kernel) rfl) (snd_getI (ci := 0) (k := 2) (by decide +kernel) rfl (by decide) (by decide) (by decide) iw_0 w345))
set_option maxRecDepth 20000 in
theorem b_X0_hasRow_4 : Br_if_lt mX0_hasRow 4 11 := br_if_lt (off := 7) (by decide +kernel) (by decide)
set_option maxRecDepth 20000 in
theorem s_X0_hasRow_7 : Snd mX0_hasRow 7 (sq (opCi (1)) opNop) 12 := (snd_sq (snd_iconst (k := 1) (by decide) (by decide +kernel)) (snd_goto (off := 4) (by decide +kernel) (by decide)))
set_option maxRecDepth 20000 in
theorem s_X0_hasRow_11 : Snd mX0_hasRow 11 (opCi (0)) 12 := (snd_iconst (k := 0) (by decide) (by decide +kernel))
set_option maxRecDepth 20000 in
theorem r_X0_hasRow_12 : RtZ mX0_hasRow 12 := rt_Z (by decide +kernel) rfl
/-! ClaimChains$Box.hasPlace(I)Z -/
set_option maxRecDepth 20000 in
theorem s_X0_hasPlace_0 : Snd mX0_hasPlace 0 (opLdI 1) 1 := (snd_iload_n (k := 1) (by decide +kernel) rfl)
set_option maxRecDepth 20000 in
theorem b_X0_hasPlace_1 : Br_if_lt mX0_hasPlace 1 16 := br_if_lt (off := 15) (by decide +kernel) (by decide)
set_option maxRecDepth 20000 in
theorem s_X0_hasPlace_4 : Snd mX0_hasPlace 4 (sq (opLdI 1) (sq (opLdA 0) (opGetI 0 2))) 9 := (snd_sq (snd_iload_n (k := 1) (by decide +kernel) rfl) (snd_sq (snd_aload_n (k := 0) (by decide +kernel) rfl) (snd_getI (ci := 0) (k := 2) (by decide +kernel) rfl (by decide) (by decide) (by decide) iw_0 w345)))
set_option maxRecDepth 20000 in
theorem b_X0_hasPlace_9 : Br_ic_ge mX0_hasPlace 9 16 := br_ic_ge (off := 7) (by decide +kernel) (by decide)
set_option maxRecDepth 20000 in
theorem s_X0_hasPlace_12 : Snd mX0_hasPlace 12 (sq (opCi (1)) opNop) 17 := (snd_sq (snd_iconst (k := 1) (by decide) (by decide +kernel)) (snd_goto (off := 4) (by decide +kernel) (by decide)))
set_option maxRecDepth 20000 in
theorem s_X0_hasPlace_16 : Snd mX0_hasPlace 16 (opCi (0)) 17 := (snd_iconst (k := 0) (by decide) (by decide +kernel))
set_option maxRecDepth 20000 in
theorem r_X0_hasPlace_17 : RtZ mX0_hasPlace 17 := rt_Z (by decide +kernel) rfl
/-! ClaimChains$Box.hasRange(II)Z -/
set_option maxRecDepth 20000 in
theorem s_X0_hasRange_0 : Snd mX0_hasRange 0 (opLdI 1) 1 := (snd_iload_n (k := 1) (by decide +kernel) rfl)
set_option maxRecDepth 20000 in
theorem b_X0_hasRange_1 : Br_if_lt mX0_hasRange 1 30 := br_if_lt (off := 29) (by decide +kernel) (by decide)
set_option maxRecDepth 20000 in
theorem s_X0_hasRange_4 : Snd mX0_hasRange 4 (opLdI 2) 5 := (snd_iload_n (k := 2) (by decide +kernel) rfl)
set_option maxRecDepth 20000 in
theorem b_X0_hasRange_5 : Br_if_lt mX0_hasRange 5 30 := br_if_lt (off := 25) (by decide +kernel) (by decide)
set_option maxRecDepth 20000 in
theorem s_X0_hasRange_8 : Snd mX0_hasRange 8 (sq (opLdI 1) (sq (opLdA 0) (opGetI 0 2))) 13 := (snd_sq (snd_iload_n (k := 1) (by decide +kernel) rfl) (snd_sq (snd_aload_n (k := 0) (by decide +kernel) rfl) (snd_getI (ci := 0) (k := 2) (by decide +kernel) rfl (by decide) (by decide) (by decide) iw_0 w345)))
set_option maxRecDepth 20000 in
theorem b_X0_hasRange_13 : Br_ic_gt mX0_hasRange 13 30 := br_ic_gt (off := 17) (by decide +kernel) (by decide)
set_option maxRecDepth 20000 in
theorem s_X0_hasRange_16 : Snd mX0_hasRange 16 (sq (opLdI 2) (sq (opLdA 0) (sq (opGetI 0 2) (sq (opLdI 1) opisub)))) 23 := (snd_sq (snd_iload_n (k := 2) (by decide +kernel) rfl) (snd_sq (snd_aload_n (k := 0) (by decide +kernel) rfl) (snd_sq (snd_getI (ci := 0) (k := 2) (by decide +kernel) rfl (by decide) (by decide) (by decide) iw_0 w345) (snd_sq (snd_iload_n (k := 1) (by decide +kernel) rfl) (snd_isub (by decide +kernel))))))
set_option maxRecDepth 20000 in
theorem b_X0_hasRange_23 : Br_ic_gt mX0_hasRange 23 30 := br_ic_gt (off := 7) (by decide +kernel) (by decide)
set_option maxRecDepth 20000 in
theorem s_X0_hasRange_26 : Snd mX0_hasRange 26 (sq (opCi (1)) opNop) 31 := (snd_sq (snd_iconst (k := 1) (by decide) (by decide +kernel)) (snd_goto (off := 4) (by decide +kernel) (by decide)))
set_option maxRecDepth 20000 in
theorem s_X0_hasRange_30 : Snd mX0_hasRange 30 (opCi (0)) 31 := (snd_iconst (k := 0) (by decide) (by decide +kernel))
set_option maxRecDepth 20000 in
theorem r_X0_hasRange_31 : RtZ mX0_hasRange 31 := rt_Z (by decide +kernel) rfl
/-! ClaimChains$Box.admits(I)Z -/
set_option maxRecDepth 20000 in
theorem s_X0_admits_0 : Snd mX0_admits 0 (sq (opLdA 0) (opGetI 0 1)) 4 := (snd_sq (snd_aload_n (k := 0) (by decide +kernel) rfl) (snd_getI (ci := 0) (k := 1) (by decide +kernel) rfl (by decide) (by decide) (by decide) iw_0 w344))
set_option maxRecDepth 20000 in
theorem hw_X0_admits_4 : decode (MI.bytes mX0_admits) 4 = .ok (.tableswitch 67 1 3 #[28, 39, 50], 28) := by decide +kernel
set_option maxRecDepth 20000 in
theorem w_X0_admits_4 {d cap : Nat} {L : LT} {x : Int32} {st : List Value} {n : Nat} {R : RT} {I : IT} {J : JT} {Q : QT} (k1 : x = 1 → Ends mX0_admits d cap 32 L st n R I J Q) (k2 : x = 2 → Ends mX0_admits d cap 43 L st n R I J Q) (k3 : x = 3 → Ends mX0_admits d cap 54 L st n R I J Q) (kd : ¬ x = 1 → ¬ x = 2 → ¬ x = 3 → Ends mX0_admits d cap 71 L st n R I J Q) : Ends mX0_admits d cap 4 L (.int x :: st) n R I J Q := by
  by_cases h0 : x.toInt < 1 ∨ 3 < x.toInt
  · exact sw_out hw_X0_admits_4 h0 (by decide) (kd (fun h => by subst h; revert h0; decide) (fun h => by subst h; revert h0; decide) (fun h => by subst h; revert h0; decide))
  · have h1 : x.toInt = 1 ∨ x.toInt = 2 ∨ x.toInt = 3 := by omega
    rcases h1 with h1 | h1 | h1
    · have h2 : x = 1 := i32_of h1 (by decide)
      subst h2
      exact sw_in (off := 28) hw_X0_admits_4 (by decide) (by decide) (by decide +kernel) (by decide) (k1 rfl)
    · have h2 : x = 2 := i32_of h1 (by decide)
      subst h2
      exact sw_in (off := 39) hw_X0_admits_4 (by decide) (by decide) (by decide +kernel) (by decide) (k2 rfl)
    · have h2 : x = 3 := i32_of h1 (by decide)
      subst h2
      exact sw_in (off := 50) hw_X0_admits_4 (by decide) (by decide) (by decide +kernel) (by decide) (k3 rfl)
set_option maxRecDepth 20000 in
theorem s_X0_admits_32 : Snd mX0_admits 32 (sq (opLdI 1) (opCi (2))) 34 := (snd_sq (snd_iload_n (k := 1) (by decide +kernel) rfl) (snd_iconst (k := 2) (by decide) (by decide +kernel)))
set_option maxRecDepth 20000 in
theorem b_X0_admits_34 : Br_ic_gt mX0_admits 34 41 := br_ic_gt (off := 7) (by decide +kernel) (by decide)
set_option maxRecDepth 20000 in
theorem s_X0_admits_37 : Snd mX0_admits 37 (sq (opCi (1)) opNop) 42 := (snd_sq (snd_iconst (k := 1) (by decide) (by decide +kernel)) (snd_goto (off := 4) (by decide +kernel) (by decide)))
set_option maxRecDepth 20000 in
theorem s_X0_admits_41 : Snd mX0_admits 41 (opCi (0)) 42 := (snd_iconst (k := 0) (by decide) (by decide +kernel))
set_option maxRecDepth 20000 in
theorem r_X0_admits_42 : RtZ mX0_admits 42 := rt_Z (by decide +kernel) rfl
set_option maxRecDepth 20000 in
theorem s_X0_admits_43 : Snd mX0_admits 43 (sq (opLdI 1) (opCi (1))) 45 := (snd_sq (snd_iload_n (k := 1) (by decide +kernel) rfl) (snd_iconst (k := 1) (by decide) (by decide +kernel)))
set_option maxRecDepth 20000 in
theorem b_X0_admits_45 : Br_ic_ne mX0_admits 45 52 := br_ic_ne (off := 7) (by decide +kernel) (by decide)
set_option maxRecDepth 20000 in
theorem s_X0_admits_48 : Snd mX0_admits 48 (sq (opCi (1)) opNop) 53 := (snd_sq (snd_iconst (k := 1) (by decide) (by decide +kernel)) (snd_goto (off := 4) (by decide +kernel) (by decide)))
set_option maxRecDepth 20000 in
theorem s_X0_admits_52 : Snd mX0_admits 52 (opCi (0)) 53 := (snd_iconst (k := 0) (by decide) (by decide +kernel))
set_option maxRecDepth 20000 in
theorem r_X0_admits_53 : RtZ mX0_admits 53 := rt_Z (by decide +kernel) rfl
set_option maxRecDepth 20000 in
theorem s_X0_admits_54 : Snd mX0_admits 54 (sq (opLdI 1) (opCi (3))) 56 := (snd_sq (snd_iload_n (k := 1) (by decide +kernel) rfl) (snd_iconst (k := 3) (by decide) (by decide +kernel)))
set_option maxRecDepth 20000 in
theorem b_X0_admits_56 : Br_ic_lt mX0_admits 56 69 := br_ic_lt (off := 13) (by decide +kernel) (by decide)
set_option maxRecDepth 20000 in
theorem s_X0_admits_59 : Snd mX0_admits 59 (sq (opLdI 1) (opCi (6))) 62 := (snd_sq (snd_iload_n (k := 1) (by decide +kernel) rfl) (snd_bipush (k := 6) (by decide) (by decide +kernel)))
set_option maxRecDepth 20000 in
theorem b_X0_admits_62 : Br_ic_gt mX0_admits 62 69 := br_ic_gt (off := 7) (by decide +kernel) (by decide)
set_option maxRecDepth 20000 in
theorem s_X0_admits_65 : Snd mX0_admits 65 (sq (opCi (1)) opNop) 70 := (snd_sq (snd_iconst (k := 1) (by decide) (by decide +kernel)) (snd_goto (off := 4) (by decide +kernel) (by decide)))
set_option maxRecDepth 20000 in
theorem s_X0_admits_69 : Snd mX0_admits 69 (opCi (0)) 70 := (snd_iconst (k := 0) (by decide) (by decide +kernel))
set_option maxRecDepth 20000 in
theorem r_X0_admits_70 : RtZ mX0_admits 70 := rt_Z (by decide +kernel) rfl
set_option maxRecDepth 20000 in
theorem s_X0_admits_71 : Snd mX0_admits 71 (opCi (1)) 72 := (snd_iconst (k := 1) (by decide) (by decide +kernel))
set_option maxRecDepth 20000 in
theorem r_X0_admits_72 : RtZ mX0_admits 72 := rt_Z (by decide +kernel) rfl
/-! ClaimChains$Box.getNewRow(II)V -/
set_option maxRecDepth 20000 in
theorem s_X0_getNewRow_0 : Snd mX0_getNewRow 0 (sq (opLdA 0) (sq (opLdI 1) (sq (opPutI 0 1) (sq (opLdA 0) (sq (opLdI 2) (sq (opPutI 0 2) (sq (opCi (0)) (opStI 3)))))))) 12 := (snd_sq (snd_aload_n (k := 0) (by decide +kernel) rfl) (snd_sq (snd_iload_n (k := 1) (by decide +kernel) rfl) (snd_sq (snd_putI (ci := 0) (k := 1) (by decide +kernel) rfl (by decide) (by decide) (by decide) iw_0 tyX0_ok nmX0 rfl (tyX0_ok 1 (by decide)) w344) (snd_sq (snd_aload_n (k := 0) (by decide +kernel) rfl) (snd_sq (snd_iload_n (k := 2) (by decide +kernel) rfl) (snd_sq (snd_putI (ci := 0) (k := 2) (by decide +kernel) rfl (by decide) (by decide) (by decide) iw_0 tyX0_ok nmX0 rfl (tyX0_ok 2 (by decide)) w345) (snd_sq (snd_iconst (k := 0) (by decide) (by decide +kernel)) (snd_istore_n (k := 3) (by decide +kernel) rfl (by decide)))))))))
set_option maxRecDepth 20000 in
theorem s_X0_getNewRow_12 : Snd mX0_getNewRow 12 (sq (opLdI 3) (opCi (8))) 15 := (snd_sq (snd_iload_n (k := 3) (by decide +kernel) rfl) (snd_bipush (k := 8) (by decide) (by decide +kernel)))
set_option maxRecDepth 20000 in
theorem b_X0_getNewRow_15 : Br_ic_ge mX0_getNewRow 15 32 := br_ic_ge (off := 17) (by decide +kernel) (by decide)
set_option maxRecDepth 20000 in
theorem s_X0_getNewRow_18 : Snd mX0_getNewRow 18 (sq (opLdA 0) (sq (opGetR 0 0) (sq (opLdI 3) (sq (opCi (-9)) (sq opIast (sq (opInc 3 (1)) opNop)))))) 12 := (snd_sq (snd_aload_n (k := 0) (by decide +kernel) rfl) (snd_sq (snd_getR (ci := 0) (k := 0) (by decide +kernel) rfl (by decide) (by decide) rfl iw_0 w342) (snd_sq (snd_iload_n (k := 3) (by decide +kernel) rfl) (snd_sq (snd_bipush (k := -9) (by decide) (by decide +kernel)) (snd_sq (snd_iast (by decide +kernel)) (snd_sq (snd_iinc (k := 1) (by decide +kernel) (by decide) (by decide)) (snd_goto (off := -17) (by decide +kernel) (by decide))))))))
set_option maxRecDepth 20000 in
theorem r_X0_getNewRow_32 : RtV mX0_getNewRow 32 := rt_V (by decide +kernel) rfl
/-! ClaimChains$Box.becomeLike(LClaimChains$Box;)V -/
set_option maxRecDepth 20000 in
theorem s_X0_becomeLike_0 : Snd mX0_becomeLike 0 (sq (opLdA 0) (sq (opLdA 1) (sq (opGetI 0 1) (sq (opPutI 0 1) (sq (opLdA 0) (sq (opLdA 1) (sq (opGetI 0 2) (sq (opPutI 0 2) (sq (opCi (0)) (opStI 2)))))))))) 18 := (snd_sq (snd_aload_n (k := 0) (by decide +kernel) rfl) (snd_sq (snd_aload_n (k := 1) (by decide +kernel) rfl) (snd_sq (snd_getI (ci := 0) (k := 1) (by decide +kernel) rfl (by decide) (by decide) (by decide) iw_0 w344) (snd_sq (snd_putI (ci := 0) (k := 1) (by decide +kernel) rfl (by decide) (by decide) (by decide) iw_0 tyX0_ok nmX0 rfl (tyX0_ok 1 (by decide)) w344) (snd_sq (snd_aload_n (k := 0) (by decide +kernel) rfl) (snd_sq (snd_aload_n (k := 1) (by decide +kernel) rfl) (snd_sq (snd_getI (ci := 0) (k := 2) (by decide +kernel) rfl (by decide) (by decide) (by decide) iw_0 w345) (snd_sq (snd_putI (ci := 0) (k := 2) (by decide +kernel) rfl (by decide) (by decide) (by decide) iw_0 tyX0_ok nmX0 rfl (tyX0_ok 2 (by decide)) w345) (snd_sq (snd_iconst (k := 0) (by decide) (by decide +kernel)) (snd_istore_n (k := 2) (by decide +kernel) rfl (by decide)))))))))))
set_option maxRecDepth 20000 in
theorem s_X0_becomeLike_18 : Snd mX0_becomeLike 18 (sq (opLdI 2) (opCi (8))) 21 := (snd_sq (snd_iload_n (k := 2) (by decide +kernel) rfl) (snd_bipush (k := 8) (by decide) (by decide +kernel)))
set_option maxRecDepth 20000 in
theorem b_X0_becomeLike_21 : Br_ic_ge mX0_becomeLike 21 42 := br_ic_ge (off := 21) (by decide +kernel) (by decide)
set_option maxRecDepth 20000 in
theorem s_X0_becomeLike_24 : Snd mX0_becomeLike 24 (sq (opLdA 0) (sq (opGetR 0 0) (sq (opLdI 2) (sq (opLdA 1) (sq (opGetR 0 0) (sq (opLdI 2) (sq opIald (sq opIast (sq (opInc 2 (1)) opNop))))))))) 18 := (snd_sq (snd_aload_n (k := 0) (by decide +kernel) rfl) (snd_sq (snd_getR (ci := 0) (k := 0) (by decide +kernel) rfl (by decide) (by decide) rfl iw_0 w342) (snd_sq (snd_iload_n (k := 2) (by decide +kernel) rfl) (snd_sq (snd_aload_n (k := 1) (by decide +kernel) rfl) (snd_sq (snd_getR (ci := 0) (k := 0) (by decide +kernel) rfl (by decide) (by decide) rfl iw_0 w342) (snd_sq (snd_iload_n (k := 2) (by decide +kernel) rfl) (snd_sq (snd_iald (by decide +kernel)) (snd_sq (snd_iast (by decide +kernel)) (snd_sq (snd_iinc (k := 1) (by decide +kernel) (by decide) (by decide)) (snd_goto (off := -21) (by decide +kernel) (by decide)))))))))))
set_option maxRecDepth 20000 in
theorem r_X0_becomeLike_42 : RtV mX0_becomeLike 42 := rt_V (by decide +kernel) rfl
/-! ClaimChains$Box.loseRow()V -/
set_option maxRecDepth 20000 in
theorem s_X0_loseRow_0 : Snd mX0_loseRow 0 (sq (opLdA 0) (sq (opCi (-9)) (opPutI 0 2))) 6 := (snd_sq (snd_aload_n (k := 0) (by decide +kernel) rfl) (snd_sq (snd_bipush (k := -9) (by decide) (by decide +kernel)) (snd_putI (ci := 0) (k := 2) (by decide +kernel) rfl (by decide) (by decide) (by decide) iw_0 tyX0_ok nmX0 rfl (tyX0_ok 2 (by decide)) w345)))
set_option maxRecDepth 20000 in
theorem r_X0_loseRow_6 : RtV mX0_loseRow 6 := rt_V (by decide +kernel) rfl
end
