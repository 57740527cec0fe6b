/-! the words that the code links -/
set_option maxRecDepth 20000 in
theorem w0 : Cond.selects RX3 yX3_renewSteps yX3_renewSteps ∈ wsG := inG 0 (by decide +kernel) (by decide +kernel)
set_option maxRecDepth 20000 in
theorem w1 : Cond.selects RX3 yX3_nextTable yX3_nextTable ∈ wsG := inG 1 (by decide +kernel) (by decide +kernel)
set_option maxRecDepth 20000 in
theorem w2 : Cond.selects RX4 yX4_has yX4_has ∈ wsG := inG 2 (by decide +kernel) (by decide +kernel)
set_option maxRecDepth 20000 in
theorem w3 : Cond.selects RX3 yX3_target yX3_target ∈ wsG := inG 3 (by decide +kernel) (by decide +kernel)
set_option maxRecDepth 20000 in
theorem w4 : Cond.selects RX3 yX3_renewDistances yX3_renewDistances ∈ wsG := inG 4 (by decide +kernel) (by decide +kernel)
set_option maxRecDepth 20000 in
theorem w5 : Cond.selects RX3 yX3_image yX3_image ∈ wsG := inG 5 (by decide +kernel) (by decide +kernel)
set_option maxRecDepth 20000 in
theorem w6 : Cond.selects RX4 yX4_elderOrNew yX4_elderOrNew ∈ wsG := inG 6 (by decide +kernel) (by decide +kernel)
set_option maxRecDepth 20000 in
theorem w7 : Cond.selects RX4 yX4_isJust yX4_isJust ∈ wsG := inG 7 (by decide +kernel) (by decide +kernel)
set_option maxRecDepth 20000 in
theorem w8 : Cond.selects RX4 yX4_fillLeaf yX4_fillLeaf ∈ wsG := inG 8 (by decide +kernel) (by decide +kernel)
set_option maxRecDepth 20000 in
theorem w9 : Cond.selects RX4 yX4_fillFromParts yX4_fillFromParts ∈ wsG := inG 9 (by decide +kernel) (by decide +kernel)
set_option maxRecDepth 20000 in
theorem w10 : Cond.selects RX4 yX4_addPart yX4_addPart ∈ wsG := inG 10 (by decide +kernel) (by decide +kernel)
set_option maxRecDepth 20000 in
theorem w11 : Cond.selects RX4 yX4_tableOf yX4_tableOf ∈ wsG := inG 11 (by decide +kernel) (by decide +kernel)
set_option maxRecDepth 20000 in
theorem w12 : Cond.selects RX4 yX4_trueStates yX4_trueStates ∈ wsG := inG 12 (by decide +kernel) (by decide +kernel)
set_option maxRecDepth 20000 in
theorem w13 : Cond.selects RX2 yX2_forgetAll yX2_forgetAll ∈ wsG := inG 13 (by decide +kernel) (by decide +kernel)
set_option maxRecDepth 20000 in
theorem w14 : Cond.selects RX3 yX3_tellStarts yX3_tellStarts ∈ wsG := inG 14 (by decide +kernel) (by decide +kernel)
set_option maxRecDepth 20000 in
theorem w15 : Cond.selects RX3 yX3_renewWay yX3_renewWay ∈ wsG := inG 15 (by decide +kernel) (by decide +kernel)
set_option maxRecDepth 20000 in
theorem w16 : Cond.selects RX3 yX3_leastBrokenDistance yX3_leastBrokenDistance ∈ wsG := inG 16 (by decide +kernel) (by decide +kernel)
set_option maxRecDepth 20000 in
theorem w17 : Cond.selects RX3 yX3_sources yX3_sources ∈ wsG := inG 17 (by decide +kernel) (by decide +kernel)
set_option maxRecDepth 20000 in
theorem w18 : Cond.selects RX3 yX3_leastRowInto yX3_leastRowInto ∈ wsG := inG 18 (by decide +kernel) (by decide +kernel)
set_option maxRecDepth 20000 in
theorem w19 : Cond.selects RX3 yX3_tellNext yX3_tellNext ∈ wsG := inG 19 (by decide +kernel) (by decide +kernel)
set_option maxRecDepth 20000 in
theorem w20 : Cond.selects RX3 yX3_tellClaim yX3_tellClaim ∈ wsG := inG 20 (by decide +kernel) (by decide +kernel)
set_option maxRecDepth 20000 in
theorem w21 : Cond.selects RX3 yX3_greatestDistance yX3_greatestDistance ∈ wsG := inG 21 (by decide +kernel) (by decide +kernel)
set_option maxRecDepth 20000 in
theorem w22 : Cond.selects RX3 yX3_looseInStart yX3_looseInStart ∈ wsG := inG 22 (by decide +kernel) (by decide +kernel)
set_option maxRecDepth 20000 in
theorem w23 : Cond.selects RX3 yX3_endsBroken yX3_endsBroken ∈ wsG := inG 23 (by decide +kernel) (by decide +kernel)
set_option maxRecDepth 20000 in
theorem w24 : Cond.selects RX3 yX3_looseInRow yX3_looseInRow ∈ wsG := inG 24 (by decide +kernel) (by decide +kernel)
set_option maxRecDepth 20000 in
theorem w25 : Cond.selects RX3 yX3_coneVariables yX3_coneVariables ∈ wsG := inG 25 (by decide +kernel) (by decide +kernel)
set_option maxRecDepth 20000 in
theorem w26 : Cond.selects RX3 yX3_inputsOf yX3_inputsOf ∈ wsG := inG 26 (by decide +kernel) (by decide +kernel)
set_option maxRecDepth 20000 in
theorem w27 : Cond.selects RX3 yX3_isClear yX3_isClear ∈ wsG := inG 27 (by decide +kernel) (by decide +kernel)
set_option maxRecDepth 20000 in
theorem w28 : Cond.selects RX1 yX1_find yX1_find ∈ wsG := inG 28 (by decide +kernel) (by decide +kernel)
set_option maxRecDepth 20000 in
theorem w29 : Cond.selects RX1 yX1_isKept yX1_isKept ∈ wsG := inG 29 (by decide +kernel) (by decide +kernel)
set_option maxRecDepth 20000 in
theorem w30 : Cond.selects RX2 yX2_goodStates yX2_goodStates ∈ wsG := inG 30 (by decide +kernel) (by decide +kernel)
set_option maxRecDepth 20000 in
theorem w31 : Cond.selects RX2 yX2_threats yX2_threats ∈ wsG := inG 31 (by decide +kernel) (by decide +kernel)
set_option maxRecDepth 20000 in
theorem w32 : Cond.selects RX1 yX1_search yX1_search ∈ wsG := inG 32 (by decide +kernel) (by decide +kernel)
set_option maxRecDepth 20000 in
theorem w33 : Cond.selects RX1 yX1_extend yX1_extend ∈ wsG := inG 33 (by decide +kernel) (by decide +kernel)
set_option maxRecDepth 20000 in
theorem w34 : Cond.selects RX2 yX2_weakStates yX2_weakStates ∈ wsG := inG 34 (by decide +kernel) (by decide +kernel)
set_option maxRecDepth 20000 in
theorem w35 : Cond.selects RX2 yX2_addByStrengthening yX2_addByStrengthening ∈ wsG := inG 35 (by decide +kernel) (by decide +kernel)
set_option maxRecDepth 20000 in
theorem w36 : Cond.selects RX2 yX2_leastThatCanGo yX2_leastThatCanGo ∈ wsG := inG 36 (by decide +kernel) (by decide +kernel)
set_option maxRecDepth 20000 in
theorem w37 : Cond.selects RX2 yX2_fits yX2_fits ∈ wsG := inG 37 (by decide +kernel) (by decide +kernel)
set_option maxRecDepth 20000 in
theorem w38 : Cond.selects RX2 yX2_widestNames yX2_widestNames ∈ wsG := inG 38 (by decide +kernel) (by decide +kernel)
set_option maxRecDepth 20000 in
theorem w39 : Cond.selects RX2 yX2_add yX2_add ∈ wsG := inG 39 (by decide +kernel) (by decide +kernel)
set_option maxRecDepth 20000 in
theorem w40 : Cond.selects RX2 yX2_addIfFitting yX2_addIfFitting ∈ wsG := inG 40 (by decide +kernel) (by decide +kernel)
set_option maxRecDepth 20000 in
theorem w41 : Cond.selects RX0 yX0_hasRow yX0_hasRow ∈ wsG := inG 41 (by decide +kernel) (by decide +kernel)
set_option maxRecDepth 20000 in
theorem w42 : Cond.selects RX6 yX6_faulted yX6_faulted ∈ wsG := inG 42 (by decide +kernel) (by decide +kernel)
set_option maxRecDepth 20000 in
theorem w43 : Cond.selects RX2 yX2_removeLast yX2_removeLast ∈ wsG := inG 43 (by decide +kernel) (by decide +kernel)
set_option maxRecDepth 20000 in
theorem w44 : Cond.selects RX5 yX5_countSafe yX5_countSafe ∈ wsG := inG 44 (by decide +kernel) (by decide +kernel)
set_option maxRecDepth 20000 in
theorem w45 : Cond.selects RX5 yX5_lengthen yX5_lengthen ∈ wsG := inG 45 (by decide +kernel) (by decide +kernel)
set_option maxRecDepth 20000 in
theorem w46 : Cond.selects RX3 yX3_sumOfDistances yX3_sumOfDistances ∈ wsG := inG 46 (by decide +kernel) (by decide +kernel)
set_option maxRecDepth 20000 in
theorem w47 : Cond.selects RX0 yX0_getNewRow yX0_getNewRow ∈ wsG := inG 47 (by decide +kernel) (by decide +kernel)
set_option maxRecDepth 20000 in
theorem w48 : Cond.selects RX0 yX0_hasPlace yX0_hasPlace ∈ wsG := inG 48 (by decide +kernel) (by decide +kernel)
set_option maxRecDepth 20000 in
theorem w49 : Cond.selects RX0 yX0_admits yX0_admits ∈ wsG := inG 49 (by decide +kernel) (by decide +kernel)
set_option maxRecDepth 20000 in
theorem w50 : Cond.selects RX0 yX0_becomeLike yX0_becomeLike ∈ wsG := inG 50 (by decide +kernel) (by decide +kernel)
set_option maxRecDepth 20000 in
theorem w51 : Cond.selects RX0 yX0_hasRange yX0_hasRange ∈ wsG := inG 51 (by decide +kernel) (by decide +kernel)
set_option maxRecDepth 20000 in
theorem w52 : Cond.selects RX0 yX0_loseRow yX0_loseRow ∈ wsG := inG 52 (by decide +kernel) (by decide +kernel)
set_option maxRecDepth 20000 in
theorem w53 : Cond.selects RX6 yX6_countFilledBoxes yX6_countFilledBoxes ∈ wsG := inG 53 (by decide +kernel) (by decide +kernel)
set_option maxRecDepth 20000 in
theorem w54 : Cond.selects RX7 yX7_comes yX7_comes ∈ wsG := inG 54 (by decide +kernel) (by decide +kernel)
set_option maxRecDepth 20000 in
theorem w55 : Cond.selects RX7 yX7_find yX7_find ∈ wsG := inG 55 (by decide +kernel) (by decide +kernel)
set_option maxRecDepth 20000 in
theorem w56 : Cond.selects RX7 yX7_takes yX7_takes ∈ wsG := inG 56 (by decide +kernel) (by decide +kernel)
set_option maxRecDepth 20000 in
theorem w57 : Cond.selects RX7 yX7_evaluated yX7_evaluated ∈ wsG := inG 57 (by decide +kernel) (by decide +kernel)
set_option maxRecDepth 20000 in
theorem w58 : Cond.selects RX7 yX7_valueIn yX7_valueIn ∈ wsG := inG 58 (by decide +kernel) (by decide +kernel)
set_option maxRecDepth 20000 in
theorem w59 : Cond.selects RX7 yX7_isTerm yX7_isTerm ∈ wsG := inG 59 (by decide +kernel) (by decide +kernel)
set_option maxRecDepth 20000 in
theorem w60 : Cond.selects RX7 yX7_holdsOf yX7_holdsOf ∈ wsG := inG 60 (by decide +kernel) (by decide +kernel)
set_option maxRecDepth 20000 in
theorem w61 : Cond.selects RX7 yX7_againstStates yX7_againstStates ∈ wsG := inG 61 (by decide +kernel) (by decide +kernel)
set_option maxRecDepth 20000 in
theorem w62 : Cond.selects RX7 yX7_stepOf yX7_stepOf ∈ wsG := inG 62 (by decide +kernel) (by decide +kernel)
set_option maxRecDepth 20000 in
theorem w63 : Cond.selects RX7 yX7_beforeOf yX7_beforeOf ∈ wsG := inG 63 (by decide +kernel) (by decide +kernel)
set_option maxRecDepth 20000 in
theorem w64 : Cond.selects RX7 yX7_findFar yX7_findFar ∈ wsG := inG 64 (by decide +kernel) (by decide +kernel)
set_option maxRecDepth 20000 in
theorem w65 : Cond.selects RX7 yX7_startSet yX7_startSet ∈ wsG := inG 65 (by decide +kernel) (by decide +kernel)
set_option maxRecDepth 20000 in
theorem w66 : Cond.selects RX7 yX7_metSet yX7_metSet ∈ wsG := inG 66 (by decide +kernel) (by decide +kernel)
set_option maxRecDepth 20000 in
theorem w67 : Cond.selects RX7 yX7_greatestFar yX7_greatestFar ∈ wsG := inG 67 (by decide +kernel) (by decide +kernel)
set_option maxRecDepth 20000 in
theorem w68 : Cond.selects RX7 yX7_wayLong yX7_wayLong ∈ wsG := inG 68 (by decide +kernel) (by decide +kernel)
set_option maxRecDepth 20000 in
theorem w69 : Cond.selects RX7 yX7_brokenSet yX7_brokenSet ∈ wsG := inG 69 (by decide +kernel) (by decide +kernel)
set_option maxRecDepth 20000 in
theorem w70 : Cond.selects RX7 yX7_findWay yX7_findWay ∈ wsG := inG 70 (by decide +kernel) (by decide +kernel)
set_option maxRecDepth 20000 in
theorem w71 : Cond.selects RX7 yX7_cameFrom yX7_cameFrom ∈ wsG := inG 71 (by decide +kernel) (by decide +kernel)
set_option maxRecDepth 20000 in
theorem w72 : Cond.selects RX7 yX7_isStillBroken yX7_isStillBroken ∈ wsG := inG 72 (by decide +kernel) (by decide +kernel)
set_option maxRecDepth 20000 in
theorem w73 : Cond.selects RX7 yX7_isClear yX7_isClear ∈ wsG := inG 73 (by decide +kernel) (by decide +kernel)
set_option maxRecDepth 20000 in
theorem w74 : Cond.selects RX7 yX7_findChain yX7_findChain ∈ wsG := inG 74 (by decide +kernel) (by decide +kernel)
set_option maxRecDepth 20000 in
theorem w75 : Cond.selects RX7 yX7_goodSet yX7_goodSet ∈ wsG := inG 75 (by decide +kernel) (by decide +kernel)
set_option maxRecDepth 20000 in
theorem w76 : Cond.selects RX7 yX7_inAll yX7_inAll ∈ wsG := inG 76 (by decide +kernel) (by decide +kernel)
set_option maxRecDepth 20000 in
theorem w77 : Cond.selects RX7 yX7_lastSet yX7_lastSet ∈ wsG := inG 77 (by decide +kernel) (by decide +kernel)
set_option maxRecDepth 20000 in
theorem w78 : Cond.selects RX7 yX7_extend yX7_extend ∈ wsG := inG 78 (by decide +kernel) (by decide +kernel)
set_option maxRecDepth 20000 in
theorem w79 : Cond.selects RX7 yX7_nextRow yX7_nextRow ∈ wsG := inG 79 (by decide +kernel) (by decide +kernel)
set_option maxRecDepth 20000 in
theorem w80 : Cond.selects RX7 yX7_isNew yX7_isNew ∈ wsG := inG 80 (by decide +kernel) (by decide +kernel)
set_option maxRecDepth 20000 in
theorem w81 : Cond.selects RX7 yX7_weakSet yX7_weakSet ∈ wsG := inG 81 (by decide +kernel) (by decide +kernel)
set_option maxRecDepth 20000 in
theorem w82 : Cond.selects RX7 yX7_firstWeak yX7_firstWeak ∈ wsG := inG 82 (by decide +kernel) (by decide +kernel)
set_option maxRecDepth 20000 in
theorem w83 : Cond.selects RX7 yX7_isFit yX7_isFit ∈ wsG := inG 83 (by decide +kernel) (by decide +kernel)
set_option maxRecDepth 20000 in
theorem w84 : Cond.selects RX7 yX7_notes yX7_notes ∈ wsG := inG 84 (by decide +kernel) (by decide +kernel)
set_option maxRecDepth 20000 in
theorem w85 : Cond.selects RX7 yX7_lemmaBy yX7_lemmaBy ∈ wsG := inG 85 (by decide +kernel) (by decide +kernel)
set_option maxRecDepth 20000 in
theorem w86 : Cond.selects RX7 yX7_fails yX7_fails ∈ wsG := inG 86 (by decide +kernel) (by decide +kernel)
set_option maxRecDepth 20000 in
theorem w87 : Cond.selects RX7 yX7_goesTo yX7_goesTo ∈ wsG := inG 87 (by decide +kernel) (by decide +kernel)
set_option maxRecDepth 20000 in
theorem w88 : Cond.selects RX7 yX7_manyBoxes yX7_manyBoxes ∈ wsG := inG 88 (by decide +kernel) (by decide +kernel)
set_option maxRecDepth 20000 in
theorem w90 : Cond.initialized RX6 ∈ wsG := inG 90 (by decide +kernel) (by decide +kernel)
set_option maxRecDepth 20000 in
theorem w91 : Cond.initialized RX4 ∈ wsG := inG 91 (by decide +kernel) (by decide +kernel)
set_option maxRecDepth 20000 in
theorem w92 : Cond.initialized RX3 ∈ wsG := inG 92 (by decide +kernel) (by decide +kernel)
set_option maxRecDepth 20000 in
theorem w93 : Cond.initialized RX2 ∈ wsG := inG 93 (by decide +kernel) (by decide +kernel)
set_option maxRecDepth 20000 in
theorem w94 : Cond.initialized RX1 ∈ wsG := inG 94 (by decide +kernel) (by decide +kernel)
set_option maxRecDepth 20000 in
theorem w95 : Cond.initialized RX5 ∈ wsG := inG 95 (by decide +kernel) (by decide +kernel)
set_option maxRecDepth 20000 in
theorem w96 : Cond.initialized RX0 ∈ wsG := inG 96 (by decide +kernel) (by decide +kernel)
set_option maxRecDepth 20000 in
theorem w97 : Cond.initialized RX7 ∈ wsG := inG 97 (by decide +kernel) (by decide +kernel)
set_option maxRecDepth 20000 in
theorem w98 : Cond.initialized "java/lang/Math" ∈ wsG := inG 98 (by decide +kernel) (by decide +kernel)
set_option maxRecDepth 20000 in
theorem w99 : Cond.initialized RJ6 ∈ wsG := inG 99 (by decide +kernel) (by decide +kernel)
set_option maxRecDepth 20000 in
theorem w100 : Cond.classLink RL 7 "ClaimChains" ∈ wsG := inG 100 (by decide +kernel) (by decide +kernel)
set_option maxRecDepth 20000 in
theorem w101 : Cond.instantiable RX6 8 ∈ wsG := inG 101 (by decide +kernel) (by decide +kernel)
set_option maxRecDepth 20000 in
theorem w102 : Cond.methodLink RL 9 yX6_init ∈ wsG := inG 102 (by decide +kernel) (by decide +kernel)
set_option maxRecDepth 20000 in
theorem w103 : Cond.instanceMethod yX6_init ∈ wsG := inG 103 (by decide +kernel) (by decide +kernel)
set_option maxRecDepth 20000 in
theorem w104 : Cond.code yX6_init cX6_init 2 none ∈ wsG := inG 104 (by decide +kernel) (by decide +kernel)
set_option maxRecDepth 20000 in
theorem w105 : Cond.methodLink RX6 3 objectInit ∈ wsG := inG 105 (by decide +kernel) (by decide +kernel)
set_option maxRecDepth 20000 in
theorem w106 : Cond.instanceMethod objectInit ∈ wsG := inG 106 (by decide +kernel) (by decide +kernel)
set_option maxRecDepth 20000 in
theorem w107 : Cond.code objectInit ⟨#[0xb1]⟩ 1 none ∈ wsG := inG 107 (by decide +kernel) (by decide +kernel)
set_option maxRecDepth 20000 in
theorem w108 : Cond.classLink RX6 9 "ClaimChains$Terms" ∈ wsG := inG 108 (by decide +kernel) (by decide +kernel)
set_option maxRecDepth 20000 in
theorem w109 : Cond.instantiable RX4 10 ∈ wsG := inG 109 (by decide +kernel) (by decide +kernel)
set_option maxRecDepth 20000 in
theorem w110 : Cond.methodLinkNest RX6 11 yX4_init "ClaimChains" ∈ nwG := inN 110 (by decide +kernel) (by decide +kernel)
set_option maxRecDepth 20000 in
theorem w111 : Cond.instanceMethod yX4_init ∈ wsG := inG 111 (by decide +kernel) (by decide +kernel)
set_option maxRecDepth 20000 in
theorem w112 : Cond.code yX4_init cX4_init 1 none ∈ wsG := inG 112 (by decide +kernel) (by decide +kernel)
set_option maxRecDepth 20000 in
theorem w113 : Cond.methodLink RX4 3 objectInit ∈ wsG := inG 113 (by decide +kernel) (by decide +kernel)
set_option maxRecDepth 20000 in
theorem w114 : Cond.fieldLink RX4 11 "ClaimChains$Terms" "kinds" "[I" ∈ wsG := inG 114 (by decide +kernel) (by decide +kernel)
set_option maxRecDepth 20000 in
theorem w115 : Cond.fieldLinkNest RX6 78 "ClaimChains$Terms" "kinds" "[I" "ClaimChains" ∈ nwG := inN 115 (by decide +kernel) (by decide +kernel)
set_option maxRecDepth 20000 in
theorem w116 : Cond.fieldLink RX4 15 "ClaimChains$Terms" "firsts" "[I" ∈ wsG := inG 116 (by decide +kernel) (by decide +kernel)
set_option maxRecDepth 20000 in
theorem w117 : Cond.fieldLinkNest RX6 81 "ClaimChains$Terms" "firsts" "[I" "ClaimChains" ∈ nwG := inN 117 (by decide +kernel) (by decide +kernel)
set_option maxRecDepth 20000 in
theorem w118 : Cond.fieldLink RX4 18 "ClaimChains$Terms" "seconds" "[I" ∈ wsG := inG 118 (by decide +kernel) (by decide +kernel)
set_option maxRecDepth 20000 in
theorem w119 : Cond.fieldLinkNest RX6 84 "ClaimChains$Terms" "seconds" "[I" "ClaimChains" ∈ nwG := inN 119 (by decide +kernel) (by decide +kernel)
set_option maxRecDepth 20000 in
theorem w120 : Cond.fieldLink RX4 21 "ClaimChains$Terms" "thirds" "[I" ∈ wsG := inG 120 (by decide +kernel) (by decide +kernel)
set_option maxRecDepth 20000 in
theorem w121 : Cond.fieldLinkNest RX6 87 "ClaimChains$Terms" "thirds" "[I" "ClaimChains" ∈ nwG := inN 121 (by decide +kernel) (by decide +kernel)
set_option maxRecDepth 20000 in
theorem w122 : Cond.fieldLink RX4 24 "ClaimChains$Terms" "variables" "[I" ∈ wsG := inG 122 (by decide +kernel) (by decide +kernel)
set_option maxRecDepth 20000 in
theorem w123 : Cond.fieldLinkNest RX6 90 "ClaimChains$Terms" "variables" "[I" "ClaimChains" ∈ nwG := inN 123 (by decide +kernel) (by decide +kernel)
set_option maxRecDepth 20000 in
theorem w124 : Cond.fieldLinkNest RX3 123 "ClaimChains$Terms" "variables" "[I" "ClaimChains" ∈ nwG := inN 124 (by decide +kernel) (by decide +kernel)
set_option maxRecDepth 20000 in
theorem w125 : Cond.fieldLink RX4 27 "ClaimChains$Terms" "inputs" "[I" ∈ wsG := inG 125 (by decide +kernel) (by decide +kernel)
set_option maxRecDepth 20000 in
theorem w126 : Cond.fieldLinkNest RX6 93 "ClaimChains$Terms" "inputs" "[I" "ClaimChains" ∈ nwG := inN 126 (by decide +kernel) (by decide +kernel)
set_option maxRecDepth 20000 in
theorem w127 : Cond.fieldLinkNest RX3 126 "ClaimChains$Terms" "inputs" "[I" "ClaimChains" ∈ nwG := inN 127 (by decide +kernel) (by decide +kernel)
set_option maxRecDepth 20000 in
theorem w128 : Cond.fieldLink RX4 30 "ClaimChains$Terms" "depths" "[I" ∈ wsG := inG 128 (by decide +kernel) (by decide +kernel)
set_option maxRecDepth 20000 in
theorem w129 : Cond.fieldLinkNest RX6 96 "ClaimChains$Terms" "depths" "[I" "ClaimChains" ∈ nwG := inN 129 (by decide +kernel) (by decide +kernel)
set_option maxRecDepth 20000 in
theorem w130 : Cond.fieldLink RX4 33 "ClaimChains$Terms" "leafCounts" "[J" ∈ wsG := inG 130 (by decide +kernel) (by decide +kernel)
set_option maxRecDepth 20000 in
theorem w131 : Cond.fieldLinkNest RX6 99 "ClaimChains$Terms" "leafCounts" "[J" "ClaimChains" ∈ nwG := inN 131 (by decide +kernel) (by decide +kernel)
set_option maxRecDepth 20000 in
theorem w132 : Cond.fieldLink RX4 37 "ClaimChains$Terms" "tables" "[J" ∈ wsG := inG 132 (by decide +kernel) (by decide +kernel)
set_option maxRecDepth 20000 in
theorem w133 : Cond.fieldLinkNest RX3 86 "ClaimChains$Terms" "tables" "[J" "ClaimChains" ∈ nwG := inN 133 (by decide +kernel) (by decide +kernel)
set_option maxRecDepth 20000 in
theorem w134 : Cond.fieldLinkNest RX6 115 "ClaimChains$Terms" "tables" "[J" "ClaimChains" ∈ nwG := inN 134 (by decide +kernel) (by decide +kernel)
set_option maxRecDepth 20000 in
theorem w135 : Cond.fieldLink RX4 40 "ClaimChains$Terms" "count" "I" ∈ wsG := inG 135 (by decide +kernel) (by decide +kernel)
set_option maxRecDepth 20000 in
theorem w136 : Cond.fieldLinkNest RX6 270 "ClaimChains$Terms" "count" "I" "ClaimChains" ∈ nwG := inN 136 (by decide +kernel) (by decide +kernel)
set_option maxRecDepth 20000 in
theorem w158 : Cond.arrayClass .int ∈ wsG := inG 158 (by decide +kernel) (by decide +kernel)
set_option maxRecDepth 20000 in
theorem w159 : Cond.arrayClass .long ∈ wsG := inG 159 (by decide +kernel) (by decide +kernel)
set_option maxRecDepth 20000 in
theorem w160 : Cond.classLink RX6 18 "ClaimChains$Machine" ∈ wsG := inG 160 (by decide +kernel) (by decide +kernel)
set_option maxRecDepth 20000 in
theorem w161 : Cond.instantiable RX3 15 ∈ wsG := inG 161 (by decide +kernel) (by decide +kernel)
set_option maxRecDepth 20000 in
theorem w162 : Cond.methodLinkNest RX6 20 yX3_init "ClaimChains" ∈ nwG := inN 162 (by decide +kernel) (by decide +kernel)
set_option maxRecDepth 20000 in
theorem w163 : Cond.instanceMethod yX3_init ∈ wsG := inG 163 (by decide +kernel) (by decide +kernel)
set_option maxRecDepth 20000 in
theorem w164 : Cond.code yX3_init cX3_init 3 none ∈ wsG := inG 164 (by decide +kernel) (by decide +kernel)
set_option maxRecDepth 20000 in
theorem w165 : Cond.methodLink RX3 3 objectInit ∈ wsG := inG 165 (by decide +kernel) (by decide +kernel)
set_option maxRecDepth 20000 in
theorem w166 : Cond.constant RX3 22 (65535) ∈ wsG := inG 166 (by decide +kernel) (by decide +kernel)
set_option maxRecDepth 20000 in
theorem w167 : Cond.methodLink RX3 60 yX3_renewSteps ∈ wsG := inG 167 (by decide +kernel) (by decide +kernel)
set_option maxRecDepth 20000 in
theorem w169 : Cond.instanceMethod yX3_renewSteps ∈ wsG := inG 169 (by decide +kernel) (by decide +kernel)
set_option maxRecDepth 20000 in
theorem w170 : Cond.code yX3_renewSteps cX3_renewSteps 4 none ∈ wsG := inG 170 (by decide +kernel) (by decide +kernel)
set_option maxRecDepth 20000 in
theorem w171 : Cond.methodLink RX3 75 yX3_nextTable ∈ wsG := inG 171 (by decide +kernel) (by decide +kernel)
set_option maxRecDepth 20000 in
theorem w173 : Cond.instanceMethod yX3_nextTable ∈ wsG := inG 173 (by decide +kernel) (by decide +kernel)
set_option maxRecDepth 20000 in
theorem w174 : Cond.code yX3_nextTable cX3_nextTable 3 (some .long) ∈ wsG := inG 174 (by decide +kernel) (by decide +kernel)
set_option maxRecDepth 20000 in
theorem w175 : Cond.methodLinkNest RX3 82 yX4_has "ClaimChains" ∈ nwG := inN 175 (by decide +kernel) (by decide +kernel)
set_option maxRecDepth 20000 in
theorem w177 : Cond.instanceMethod yX4_has ∈ wsG := inG 177 (by decide +kernel) (by decide +kernel)
set_option maxRecDepth 20000 in
theorem w178 : Cond.code yX4_has cX4_has 2 (some .boolean) ∈ wsG := inG 178 (by decide +kernel) (by decide +kernel)
set_option maxRecDepth 20000 in
theorem w179 : Cond.fieldLinkNest RX3 90 "ClaimChains" "VARIABLE_TABLES" "[J" "ClaimChains" ∈ nwG := inN 179 (by decide +kernel) (by decide +kernel)
set_option maxRecDepth 20000 in
theorem w181 : Cond.methodLink RX3 79 yX3_target ∈ wsG := inG 181 (by decide +kernel) (by decide +kernel)
set_option maxRecDepth 20000 in
theorem w183 : Cond.instanceMethod yX3_target ∈ wsG := inG 183 (by decide +kernel) (by decide +kernel)
set_option maxRecDepth 20000 in
theorem w184 : Cond.code yX3_target cX3_target 3 (some .int) ∈ wsG := inG 184 (by decide +kernel) (by decide +kernel)
set_option maxRecDepth 20000 in
theorem w185 : Cond.methodLink RX3 63 yX3_renewDistances ∈ wsG := inG 185 (by decide +kernel) (by decide +kernel)
set_option maxRecDepth 20000 in
theorem w187 : Cond.instanceMethod yX3_renewDistances ∈ wsG := inG 187 (by decide +kernel) (by decide +kernel)
set_option maxRecDepth 20000 in
theorem w188 : Cond.code yX3_renewDistances cX3_renewDistances 4 none ∈ wsG := inG 188 (by decide +kernel) (by decide +kernel)
set_option maxRecDepth 20000 in
theorem w189 : Cond.methodLinkNest RX3 93 yX6_isIn "ClaimChains" ∈ nwG := inN 189 (by decide +kernel) (by decide +kernel)
set_option maxRecDepth 20000 in
theorem w190 : Cond.static yX6_isIn ∈ wsG := inG 190 (by decide +kernel) (by decide +kernel)
set_option maxRecDepth 20000 in
theorem w191 : Cond.code yX6_isIn cX6_isIn 2 (some .boolean) ∈ wsG := inG 191 (by decide +kernel) (by decide +kernel)
set_option maxRecDepth 20000 in
theorem w192 : Cond.methodLink RX3 97 yX3_image ∈ wsG := inG 192 (by decide +kernel) (by decide +kernel)
set_option maxRecDepth 20000 in
theorem w194 : Cond.instanceMethod yX3_image ∈ wsG := inG 194 (by decide +kernel) (by decide +kernel)
set_option maxRecDepth 20000 in
theorem w195 : Cond.code yX3_image cX3_image 4 (some .int) ∈ wsG := inG 195 (by decide +kernel) (by decide +kernel)
set_option maxRecDepth 20000 in
theorem w196 : Cond.fieldLink RX3 56 "ClaimChains$Machine" "terms" "LClaimChains$Terms;" ∈ wsG := inG 196 (by decide +kernel) (by decide +kernel)
set_option maxRecDepth 20000 in
theorem w197 : Cond.fieldLink RX3 9 "ClaimChains$Machine" "startsTerm" "I" ∈ wsG := inG 197 (by decide +kernel) (by decide +kernel)
set_option maxRecDepth 20000 in
theorem w198 : Cond.fieldLink RX3 15 "ClaimChains$Machine" "claimTerm" "I" ∈ wsG := inG 198 (by decide +kernel) (by decide +kernel)
set_option maxRecDepth 20000 in
theorem w199 : Cond.fieldLink RX3 18 "ClaimChains$Machine" "nextTerms" "[I" ∈ wsG := inG 199 (by decide +kernel) (by decide +kernel)
set_option maxRecDepth 20000 in
theorem w200 : Cond.fieldLink RX3 23 "ClaimChains$Machine" "startStates" "I" ∈ wsG := inG 200 (by decide +kernel) (by decide +kernel)
set_option maxRecDepth 20000 in
theorem w201 : Cond.fieldLinkNest RX5 39 "ClaimChains$Machine" "startStates" "I" "ClaimChains" ∈ nwG := inN 201 (by decide +kernel) (by decide +kernel)
set_option maxRecDepth 20000 in
theorem w202 : Cond.fieldLinkNest RX2 46 "ClaimChains$Machine" "startStates" "I" "ClaimChains" ∈ nwG := inN 202 (by decide +kernel) (by decide +kernel)
set_option maxRecDepth 20000 in
theorem w203 : Cond.fieldLinkNest RX6 159 "ClaimChains$Machine" "startStates" "I" "ClaimChains" ∈ nwG := inN 203 (by decide +kernel) (by decide +kernel)
set_option maxRecDepth 20000 in
theorem w204 : Cond.fieldLink RX3 26 "ClaimChains$Machine" "brokenStates" "I" ∈ wsG := inG 204 (by decide +kernel) (by decide +kernel)
set_option maxRecDepth 20000 in
theorem w205 : Cond.fieldLinkNest RX5 22 "ClaimChains$Machine" "brokenStates" "I" "ClaimChains" ∈ nwG := inN 205 (by decide +kernel) (by decide +kernel)
set_option maxRecDepth 20000 in
theorem w206 : Cond.fieldLinkNest RX2 30 "ClaimChains$Machine" "brokenStates" "I" "ClaimChains" ∈ nwG := inN 206 (by decide +kernel) (by decide +kernel)
set_option maxRecDepth 20000 in
theorem w207 : Cond.fieldLinkNest RX6 162 "ClaimChains$Machine" "brokenStates" "I" "ClaimChains" ∈ nwG := inN 207 (by decide +kernel) (by decide +kernel)
set_option maxRecDepth 20000 in
theorem w208 : Cond.fieldLink RX3 29 "ClaimChains$Machine" "targets" "[I" ∈ wsG := inG 208 (by decide +kernel) (by decide +kernel)
set_option maxRecDepth 20000 in
theorem w209 : Cond.fieldLink RX3 32 "ClaimChains$Machine" "reached" "[I" ∈ wsG := inG 209 (by decide +kernel) (by decide +kernel)
set_option maxRecDepth 20000 in
theorem w210 : Cond.fieldLink RX3 35 "ClaimChains$Machine" "stepsVersion" "I" ∈ wsG := inG 210 (by decide +kernel) (by decide +kernel)
set_option maxRecDepth 20000 in
theorem w211 : Cond.fieldLinkNest RX1 59 "ClaimChains$Machine" "stepsVersion" "I" "ClaimChains" ∈ nwG := inN 211 (by decide +kernel) (by decide +kernel)
set_option maxRecDepth 20000 in
theorem w212 : Cond.fieldLink RX3 38 "ClaimChains$Machine" "distances" "[I" ∈ wsG := inG 212 (by decide +kernel) (by decide +kernel)
set_option maxRecDepth 20000 in
theorem w213 : Cond.fieldLinkNest RX6 141 "ClaimChains$Machine" "distances" "[I" "ClaimChains" ∈ nwG := inN 213 (by decide +kernel) (by decide +kernel)
set_option maxRecDepth 20000 in
theorem w214 : Cond.fieldLink RX3 41 "ClaimChains$Machine" "metStates" "I" ∈ wsG := inG 214 (by decide +kernel) (by decide +kernel)
set_option maxRecDepth 20000 in
theorem w215 : Cond.fieldLinkNest RX6 144 "ClaimChains$Machine" "metStates" "I" "ClaimChains" ∈ nwG := inN 215 (by decide +kernel) (by decide +kernel)
set_option maxRecDepth 20000 in
theorem w216 : Cond.fieldLink RX3 44 "ClaimChains$Machine" "wayLength" "I" ∈ wsG := inG 216 (by decide +kernel) (by decide +kernel)
set_option maxRecDepth 20000 in
theorem w217 : Cond.fieldLinkNest RX6 156 "ClaimChains$Machine" "wayLength" "I" "ClaimChains" ∈ nwG := inN 217 (by decide +kernel) (by decide +kernel)
set_option maxRecDepth 20000 in
theorem w218 : Cond.fieldLink RX3 47 "ClaimChains$Machine" "wayStates" "[I" ∈ wsG := inG 218 (by decide +kernel) (by decide +kernel)
set_option maxRecDepth 20000 in
theorem w219 : Cond.fieldLinkNest RX6 165 "ClaimChains$Machine" "wayStates" "[I" "ClaimChains" ∈ nwG := inN 219 (by decide +kernel) (by decide +kernel)
set_option maxRecDepth 20000 in
theorem w220 : Cond.fieldLink RX3 50 "ClaimChains$Machine" "wayRows" "[I" ∈ wsG := inG 220 (by decide +kernel) (by decide +kernel)
set_option maxRecDepth 20000 in
theorem w221 : Cond.fieldLinkNest RX6 168 "ClaimChains$Machine" "wayRows" "[I" "ClaimChains" ∈ nwG := inN 221 (by decide +kernel) (by decide +kernel)
set_option maxRecDepth 20000 in
theorem w222 : Cond.fieldLink RX3 53 "ClaimChains$Machine" "leading" "[I" ∈ wsG := inG 222 (by decide +kernel) (by decide +kernel)
set_option maxRecDepth 20000 in
theorem w254 : Cond.classLink RX6 27 "ClaimChains$Lemmas" ∈ wsG := inG 254 (by decide +kernel) (by decide +kernel)
set_option maxRecDepth 20000 in
theorem w255 : Cond.instantiable RX2 5 ∈ wsG := inG 255 (by decide +kernel) (by decide +kernel)
set_option maxRecDepth 20000 in
theorem w256 : Cond.methodLinkNest RX6 29 yX2_init "ClaimChains" ∈ nwG := inN 256 (by decide +kernel) (by decide +kernel)
set_option maxRecDepth 20000 in
theorem w257 : Cond.instanceMethod yX2_init ∈ wsG := inG 257 (by decide +kernel) (by decide +kernel)
set_option maxRecDepth 20000 in
theorem w258 : Cond.code yX2_init cX2_init 2 none ∈ wsG := inG 258 (by decide +kernel) (by decide +kernel)
set_option maxRecDepth 20000 in
theorem w259 : Cond.methodLink RX2 3 objectInit ∈ wsG := inG 259 (by decide +kernel) (by decide +kernel)
set_option maxRecDepth 20000 in
theorem w260 : Cond.constant RX2 22 (65535) ∈ wsG := inG 260 (by decide +kernel) (by decide +kernel)
set_option maxRecDepth 20000 in
theorem w261 : Cond.fieldLink RX2 26 "ClaimChains$Lemmas" "machine" "LClaimChains$Machine;" ∈ wsG := inG 261 (by decide +kernel) (by decide +kernel)
set_option maxRecDepth 20000 in
theorem w262 : Cond.fieldLink RX2 11 "ClaimChains$Lemmas" "sets" "[I" ∈ wsG := inG 262 (by decide +kernel) (by decide +kernel)
set_option maxRecDepth 20000 in
theorem w263 : Cond.fieldLinkNest RX6 233 "ClaimChains$Lemmas" "sets" "[I" "ClaimChains" ∈ nwG := inN 263 (by decide +kernel) (by decide +kernel)
set_option maxRecDepth 20000 in
theorem w264 : Cond.fieldLink RX2 15 "ClaimChains$Lemmas" "cubes" "[I" ∈ wsG := inG 264 (by decide +kernel) (by decide +kernel)
set_option maxRecDepth 20000 in
theorem w265 : Cond.fieldLinkNest RX6 236 "ClaimChains$Lemmas" "cubes" "[I" "ClaimChains" ∈ nwG := inN 265 (by decide +kernel) (by decide +kernel)
set_option maxRecDepth 20000 in
theorem w266 : Cond.fieldLink RX2 18 "ClaimChains$Lemmas" "count" "I" ∈ wsG := inG 266 (by decide +kernel) (by decide +kernel)
set_option maxRecDepth 20000 in
theorem w267 : Cond.fieldLinkNest RX6 227 "ClaimChains$Lemmas" "count" "I" "ClaimChains" ∈ nwG := inN 267 (by decide +kernel) (by decide +kernel)
set_option maxRecDepth 20000 in
theorem w268 : Cond.fieldLink RX2 23 "ClaimChains$Lemmas" "common" "I" ∈ wsG := inG 268 (by decide +kernel) (by decide +kernel)
set_option maxRecDepth 20000 in
theorem w280 : Cond.classLink RX6 36 "ClaimChains$Chains" ∈ wsG := inG 280 (by decide +kernel) (by decide +kernel)
set_option maxRecDepth 20000 in
theorem w281 : Cond.instantiable RX1 10 ∈ wsG := inG 281 (by decide +kernel) (by decide +kernel)
set_option maxRecDepth 20000 in
theorem w282 : Cond.methodLinkNest RX6 38 yX1_init "ClaimChains" ∈ nwG := inN 282 (by decide +kernel) (by decide +kernel)
set_option maxRecDepth 20000 in
theorem w283 : Cond.instanceMethod yX1_init ∈ wsG := inG 283 (by decide +kernel) (by decide +kernel)
set_option maxRecDepth 20000 in
theorem w284 : Cond.code yX1_init cX1_init 3 none ∈ wsG := inG 284 (by decide +kernel) (by decide +kernel)
set_option maxRecDepth 20000 in
theorem w285 : Cond.methodLink RX1 3 objectInit ∈ wsG := inG 285 (by decide +kernel) (by decide +kernel)
set_option maxRecDepth 20000 in
theorem w286 : Cond.fieldLink RX1 38 "ClaimChains$Chains" "machine" "LClaimChains$Machine;" ∈ wsG := inG 286 (by decide +kernel) (by decide +kernel)
set_option maxRecDepth 20000 in
theorem w287 : Cond.fieldLink RX1 42 "ClaimChains$Chains" "lemmas" "LClaimChains$Lemmas;" ∈ wsG := inG 287 (by decide +kernel) (by decide +kernel)
set_option maxRecDepth 20000 in
theorem w288 : Cond.fieldLink RX1 9 "ClaimChains$Chains" "path" "[I" ∈ wsG := inG 288 (by decide +kernel) (by decide +kernel)
set_option maxRecDepth 20000 in
theorem w289 : Cond.fieldLinkNest RX6 192 "ClaimChains$Chains" "path" "[I" "ClaimChains" ∈ nwG := inN 289 (by decide +kernel) (by decide +kernel)
set_option maxRecDepth 20000 in
theorem w290 : Cond.fieldLink RX1 15 "ClaimChains$Chains" "rows" "[I" ∈ wsG := inG 290 (by decide +kernel) (by decide +kernel)
set_option maxRecDepth 20000 in
theorem w291 : Cond.fieldLinkNest RX6 195 "ClaimChains$Chains" "rows" "[I" "ClaimChains" ∈ nwG := inN 291 (by decide +kernel) (by decide +kernel)
set_option maxRecDepth 20000 in
theorem w292 : Cond.fieldLink RX1 18 "ClaimChains$Chains" "leading" "[I" ∈ wsG := inG 292 (by decide +kernel) (by decide +kernel)
set_option maxRecDepth 20000 in
theorem w293 : Cond.fieldLink RX1 21 "ClaimChains$Chains" "found" "Z" ∈ wsG := inG 293 (by decide +kernel) (by decide +kernel)
set_option maxRecDepth 20000 in
theorem w294 : Cond.fieldLink RX1 25 "ClaimChains$Chains" "keptLength" "I" ∈ wsG := inG 294 (by decide +kernel) (by decide +kernel)
set_option maxRecDepth 20000 in
theorem w295 : Cond.fieldLink RX1 29 "ClaimChains$Chains" "keptGood" "I" ∈ wsG := inG 295 (by decide +kernel) (by decide +kernel)
set_option maxRecDepth 20000 in
theorem w296 : Cond.fieldLink RX1 32 "ClaimChains$Chains" "keptThreats" "I" ∈ wsG := inG 296 (by decide +kernel) (by decide +kernel)
set_option maxRecDepth 20000 in
theorem w297 : Cond.fieldLink RX1 35 "ClaimChains$Chains" "keptVersion" "I" ∈ wsG := inG 297 (by decide +kernel) (by decide +kernel)
set_option maxRecDepth 20000 in
theorem w319 : Cond.classLink RX6 45 "ClaimChains$Walks" ∈ wsG := inG 319 (by decide +kernel) (by decide +kernel)
set_option maxRecDepth 20000 in
theorem w320 : Cond.instantiable RX5 3 ∈ wsG := inG 320 (by decide +kernel) (by decide +kernel)
set_option maxRecDepth 20000 in
theorem w321 : Cond.methodLinkNest RX6 47 yX5_init "ClaimChains" ∈ nwG := inN 321 (by decide +kernel) (by decide +kernel)
set_option maxRecDepth 20000 in
theorem w322 : Cond.instanceMethod yX5_init ∈ wsG := inG 322 (by decide +kernel) (by decide +kernel)
set_option maxRecDepth 20000 in
theorem w323 : Cond.code yX5_init cX5_init 2 none ∈ wsG := inG 323 (by decide +kernel) (by decide +kernel)
set_option maxRecDepth 20000 in
theorem w324 : Cond.methodLink RX5 3 objectInit ∈ wsG := inG 324 (by decide +kernel) (by decide +kernel)
set_option maxRecDepth 20000 in
theorem w325 : Cond.fieldLink RX5 18 "ClaimChains$Walks" "machine" "LClaimChains$Machine;" ∈ wsG := inG 325 (by decide +kernel) (by decide +kernel)
set_option maxRecDepth 20000 in
theorem w326 : Cond.fieldLink RX5 9 "ClaimChains$Walks" "shorter" "[I" ∈ wsG := inG 326 (by decide +kernel) (by decide +kernel)
set_option maxRecDepth 20000 in
theorem w327 : Cond.fieldLink RX5 15 "ClaimChains$Walks" "safe" "[I" ∈ wsG := inG 327 (by decide +kernel) (by decide +kernel)
set_option maxRecDepth 20000 in
theorem w335 : Cond.classLink RX6 52 "ClaimChains$Box" ∈ wsG := inG 335 (by decide +kernel) (by decide +kernel)
set_option maxRecDepth 20000 in
theorem w337 : Cond.instantiable RX0 3 ∈ wsG := inG 337 (by decide +kernel) (by decide +kernel)
set_option maxRecDepth 20000 in
theorem w338 : Cond.methodLinkNest RX6 58 yX0_init "ClaimChains" ∈ nwG := inN 338 (by decide +kernel) (by decide +kernel)
set_option maxRecDepth 20000 in
theorem w339 : Cond.instanceMethod yX0_init ∈ wsG := inG 339 (by decide +kernel) (by decide +kernel)
set_option maxRecDepth 20000 in
theorem w340 : Cond.code yX0_init cX0_init 1 none ∈ wsG := inG 340 (by decide +kernel) (by decide +kernel)
set_option maxRecDepth 20000 in
theorem w341 : Cond.methodLink RX0 3 objectInit ∈ wsG := inG 341 (by decide +kernel) (by decide +kernel)
set_option maxRecDepth 20000 in
theorem w342 : Cond.fieldLink RX0 11 "ClaimChains$Box" "places" "[I" ∈ wsG := inG 342 (by decide +kernel) (by decide +kernel)
set_option maxRecDepth 20000 in
theorem w343 : Cond.fieldLinkNest RX6 224 "ClaimChains$Box" "places" "[I" "ClaimChains" ∈ nwG := inN 343 (by decide +kernel) (by decide +kernel)
set_option maxRecDepth 20000 in
theorem w344 : Cond.fieldLink RX0 15 "ClaimChains$Box" "sort" "I" ∈ wsG := inG 344 (by decide +kernel) (by decide +kernel)
set_option maxRecDepth 20000 in
theorem w345 : Cond.fieldLink RX0 19 "ClaimChains$Box" "length" "I" ∈ wsG := inG 345 (by decide +kernel) (by decide +kernel)
set_option maxRecDepth 20000 in
theorem w346 : Cond.fieldLinkNest RX6 221 "ClaimChains$Box" "length" "I" "ClaimChains" ∈ nwG := inN 346 (by decide +kernel) (by decide +kernel)
set_option maxRecDepth 20000 in
theorem w354 : Cond.fieldLink RX6 12 "ClaimChains" "terms" "LClaimChains$Terms;" ∈ wsG := inG 354 (by decide +kernel) (by decide +kernel)
set_option maxRecDepth 20000 in
theorem w355 : Cond.fieldLink RX6 23 "ClaimChains" "machine" "LClaimChains$Machine;" ∈ wsG := inG 355 (by decide +kernel) (by decide +kernel)
set_option maxRecDepth 20000 in
theorem w356 : Cond.fieldLink RX6 32 "ClaimChains" "lemmas" "LClaimChains$Lemmas;" ∈ wsG := inG 356 (by decide +kernel) (by decide +kernel)
set_option maxRecDepth 20000 in
theorem w357 : Cond.fieldLink RX6 41 "ClaimChains" "chains" "LClaimChains$Chains;" ∈ wsG := inG 357 (by decide +kernel) (by decide +kernel)
set_option maxRecDepth 20000 in
theorem w358 : Cond.fieldLink RX6 48 "ClaimChains" "walks" "LClaimChains$Walks;" ∈ wsG := inG 358 (by decide +kernel) (by decide +kernel)
set_option maxRecDepth 20000 in
theorem w359 : Cond.fieldLink RX6 54 "ClaimChains" "boxes" "[LClaimChains$Box;" ∈ wsG := inG 359 (by decide +kernel) (by decide +kernel)
set_option maxRecDepth 20000 in
theorem w360 : Cond.fieldLink RX6 59 "ClaimChains" "carried" "[I" ∈ wsG := inG 360 (by decide +kernel) (by decide +kernel)
set_option maxRecDepth 20000 in
theorem w361 : Cond.fieldLink RX6 63 "ClaimChains" "latestFault" "I" ∈ wsG := inG 361 (by decide +kernel) (by decide +kernel)
set_option maxRecDepth 20000 in
theorem w379 : Cond.methodLink RL 13 yX6_leaf ∈ wsG := inG 379 (by decide +kernel) (by decide +kernel)
set_option maxRecDepth 20000 in
theorem w380 : Cond.instanceMethod yX6_leaf ∈ wsG := inG 380 (by decide +kernel) (by decide +kernel)
set_option maxRecDepth 20000 in
theorem w381 : Cond.selects RX6 yX6_leaf yX6_leaf ∈ wsG := inG 381 (by decide +kernel) (by decide +kernel)
set_option maxRecDepth 20000 in
theorem w382 : Cond.code yX6_leaf cX6_leaf 3 (some .int) ∈ wsG := inG 382 (by decide +kernel) (by decide +kernel)
set_option maxRecDepth 20000 in
theorem w383 : Cond.fieldLink RX6 67 "ClaimChains" "LEAF_NUMBERS" "[I" ∈ wsG := inG 383 (by decide +kernel) (by decide +kernel)
set_option maxRecDepth 20000 in
theorem w385 : Cond.methodLinkNest RX6 70 yX4_elderOrNew "ClaimChains" ∈ nwG := inN 385 (by decide +kernel) (by decide +kernel)
set_option maxRecDepth 20000 in
theorem w387 : Cond.instanceMethod yX4_elderOrNew ∈ wsG := inG 387 (by decide +kernel) (by decide +kernel)
set_option maxRecDepth 20000 in
theorem w388 : Cond.code yX4_elderOrNew cX4_elderOrNew 6 (some .int) ∈ wsG := inG 388 (by decide +kernel) (by decide +kernel)
set_option maxRecDepth 20000 in
theorem w389 : Cond.methodLink RX4 45 yX4_isJust ∈ wsG := inG 389 (by decide +kernel) (by decide +kernel)
set_option maxRecDepth 20000 in
theorem w391 : Cond.instanceMethod yX4_isJust ∈ wsG := inG 391 (by decide +kernel) (by decide +kernel)
set_option maxRecDepth 20000 in
theorem w392 : Cond.code yX4_isJust cX4_isJust 6 (some .boolean) ∈ wsG := inG 392 (by decide +kernel) (by decide +kernel)
set_option maxRecDepth 20000 in
theorem w393 : Cond.methodLink RX4 49 yX4_fillLeaf ∈ wsG := inG 393 (by decide +kernel) (by decide +kernel)
set_option maxRecDepth 20000 in
theorem w395 : Cond.instanceMethod yX4_fillLeaf ∈ wsG := inG 395 (by decide +kernel) (by decide +kernel)
set_option maxRecDepth 20000 in
theorem w396 : Cond.code yX4_fillLeaf cX4_fillLeaf 3 none ∈ wsG := inG 396 (by decide +kernel) (by decide +kernel)
set_option maxRecDepth 20000 in
theorem w397 : Cond.methodLink RX4 56 yX4_leafTable ∈ wsG := inG 397 (by decide +kernel) (by decide +kernel)
set_option maxRecDepth 20000 in
theorem w398 : Cond.static yX4_leafTable ∈ wsG := inG 398 (by decide +kernel) (by decide +kernel)
set_option maxRecDepth 20000 in
theorem w399 : Cond.code yX4_leafTable cX4_leafTable 2 (some .long) ∈ wsG := inG 399 (by decide +kernel) (by decide +kernel)
set_option maxRecDepth 20000 in
theorem w400 : Cond.fieldLinkNest RX4 60 "ClaimChains" "CONSTANT_TABLES" "[J" "ClaimChains" ∈ nwG := inN 400 (by decide +kernel) (by decide +kernel)
set_option maxRecDepth 20000 in
theorem w402 : Cond.fieldLinkNest RX4 63 "ClaimChains" "VARIABLE_TABLES" "[J" "ClaimChains" ∈ nwG := inN 402 (by decide +kernel) (by decide +kernel)
set_option maxRecDepth 20000 in
theorem w403 : Cond.fieldLinkNest RX4 66 "ClaimChains" "INPUT_TABLES" "[J" "ClaimChains" ∈ nwG := inN 403 (by decide +kernel) (by decide +kernel)
set_option maxRecDepth 20000 in
theorem w405 : Cond.methodLink RX4 53 yX4_fillFromParts ∈ wsG := inG 405 (by decide +kernel) (by decide +kernel)
set_option maxRecDepth 20000 in
theorem w407 : Cond.instanceMethod yX4_fillFromParts ∈ wsG := inG 407 (by decide +kernel) (by decide +kernel)
set_option maxRecDepth 20000 in
theorem w408 : Cond.code yX4_fillFromParts cX4_fillFromParts 2 none ∈ wsG := inG 408 (by decide +kernel) (by decide +kernel)
set_option maxRecDepth 20000 in
theorem w409 : Cond.methodLink RX4 69 yX4_addPart ∈ wsG := inG 409 (by decide +kernel) (by decide +kernel)
set_option maxRecDepth 20000 in
theorem w411 : Cond.instanceMethod yX4_addPart ∈ wsG := inG 411 (by decide +kernel) (by decide +kernel)
set_option maxRecDepth 20000 in
theorem w412 : Cond.code yX4_addPart cX4_addPart 3 none ∈ wsG := inG 412 (by decide +kernel) (by decide +kernel)
set_option maxRecDepth 20000 in
theorem w413 : Cond.methodLink RX4 81 yX4_has ∈ wsG := inG 413 (by decide +kernel) (by decide +kernel)
set_option maxRecDepth 20000 in
theorem w414 : Cond.methodLink RX4 85 Lib.Math.max.name ∈ wsG := inG 414 (by decide +kernel) (by decide +kernel)
set_option maxRecDepth 20000 in
theorem w415 : Cond.static Lib.Math.max.name ∈ wsG := inG 415 (by decide +kernel) (by decide +kernel)
set_option maxRecDepth 20000 in
theorem w416 : Cond.code Lib.Math.max.name Lib.Math.max.code 2 (some .int) ∈ wsG := inG 416 (by decide +kernel) (by decide +kernel)
set_option maxRecDepth 20000 in
theorem w417 : Cond.methodLink RX4 73 yX4_tableOf ∈ wsG := inG 417 (by decide +kernel) (by decide +kernel)
set_option maxRecDepth 20000 in
theorem w419 : Cond.instanceMethod yX4_tableOf ∈ wsG := inG 419 (by decide +kernel) (by decide +kernel)
set_option maxRecDepth 20000 in
theorem w420 : Cond.code yX4_tableOf cX4_tableOf 2 (some .long) ∈ wsG := inG 420 (by decide +kernel) (by decide +kernel)
set_option maxRecDepth 20000 in
theorem w421 : Cond.methodLink RX4 77 yX4_joinedTable ∈ wsG := inG 421 (by decide +kernel) (by decide +kernel)
set_option maxRecDepth 20000 in
theorem w422 : Cond.static yX4_joinedTable ∈ wsG := inG 422 (by decide +kernel) (by decide +kernel)
set_option maxRecDepth 20000 in
theorem w423 : Cond.code yX4_joinedTable cX4_joinedTable 7 (some .long) ∈ wsG := inG 423 (by decide +kernel) (by decide +kernel)
set_option maxRecDepth 20000 in
theorem w424 : Cond.constantLong RX4 91 (-1) ∈ wsG := inG 424 (by decide +kernel) (by decide +kernel)
set_option maxRecDepth 20000 in
theorem w425 : Cond.methodLink RL 18 yX6_gate ∈ wsG := inG 425 (by decide +kernel) (by decide +kernel)
set_option maxRecDepth 20000 in
theorem w426 : Cond.instanceMethod yX6_gate ∈ wsG := inG 426 (by decide +kernel) (by decide +kernel)
set_option maxRecDepth 20000 in
theorem w427 : Cond.selects RX6 yX6_gate yX6_gate ∈ wsG := inG 427 (by decide +kernel) (by decide +kernel)
set_option maxRecDepth 20000 in
theorem w428 : Cond.code yX6_gate cX6_gate 4 (some .int) ∈ wsG := inG 428 (by decide +kernel) (by decide +kernel)
set_option maxRecDepth 20000 in
theorem w429 : Cond.methodLinkNest RX6 74 yX4_has "ClaimChains" ∈ nwG := inN 429 (by decide +kernel) (by decide +kernel)
set_option maxRecDepth 20000 in
theorem w430 : Cond.methodLink RL 23 yX6_choice ∈ wsG := inG 430 (by decide +kernel) (by decide +kernel)
set_option maxRecDepth 20000 in
theorem w431 : Cond.instanceMethod yX6_choice ∈ wsG := inG 431 (by decide +kernel) (by decide +kernel)
set_option maxRecDepth 20000 in
theorem w432 : Cond.selects RX6 yX6_choice yX6_choice ∈ wsG := inG 432 (by decide +kernel) (by decide +kernel)
set_option maxRecDepth 20000 in
theorem w433 : Cond.code yX6_choice cX6_choice 4 (some .int) ∈ wsG := inG 433 (by decide +kernel) (by decide +kernel)
set_option maxRecDepth 20000 in
theorem w434 : Cond.methodLink RL 27 yX6_ofTerm ∈ wsG := inG 434 (by decide +kernel) (by decide +kernel)
set_option maxRecDepth 20000 in
theorem w435 : Cond.instanceMethod yX6_ofTerm ∈ wsG := inG 435 (by decide +kernel) (by decide +kernel)
set_option maxRecDepth 20000 in
theorem w436 : Cond.selects RX6 yX6_ofTerm yX6_ofTerm ∈ wsG := inG 436 (by decide +kernel) (by decide +kernel)
set_option maxRecDepth 20000 in
theorem w437 : Cond.code yX6_ofTerm cX6_ofTerm 3 (some .int) ∈ wsG := inG 437 (by decide +kernel) (by decide +kernel)
set_option maxRecDepth 20000 in
theorem w438 : Cond.methodLink RL 31 yX6_leaves ∈ wsG := inG 438 (by decide +kernel) (by decide +kernel)
set_option maxRecDepth 20000 in
theorem w439 : Cond.instanceMethod yX6_leaves ∈ wsG := inG 439 (by decide +kernel) (by decide +kernel)
set_option maxRecDepth 20000 in
theorem w440 : Cond.selects RX6 yX6_leaves yX6_leaves ∈ wsG := inG 440 (by decide +kernel) (by decide +kernel)
set_option maxRecDepth 20000 in
theorem w441 : Cond.code yX6_leaves cX6_leaves 2 (some .long) ∈ wsG := inG 441 (by decide +kernel) (by decide +kernel)
set_option maxRecDepth 20000 in
theorem w442 : Cond.constantLong RX6 103 (-9223372036854775808) ∈ wsG := inG 442 (by decide +kernel) (by decide +kernel)
set_option maxRecDepth 20000 in
theorem w443 : Cond.methodLink RL 36 yX6_value ∈ wsG := inG 443 (by decide +kernel) (by decide +kernel)
set_option maxRecDepth 20000 in
theorem w444 : Cond.instanceMethod yX6_value ∈ wsG := inG 444 (by decide +kernel) (by decide +kernel)
set_option maxRecDepth 20000 in
theorem w445 : Cond.selects RX6 yX6_value yX6_value ∈ wsG := inG 445 (by decide +kernel) (by decide +kernel)
set_option maxRecDepth 20000 in
theorem w446 : Cond.code yX6_value cX6_value 4 (some .int) ∈ wsG := inG 446 (by decide +kernel) (by decide +kernel)
set_option maxRecDepth 20000 in
theorem w447 : Cond.methodLink RX6 105 yX6_isState ∈ wsG := inG 447 (by decide +kernel) (by decide +kernel)
set_option maxRecDepth 20000 in
theorem w448 : Cond.static yX6_isState ∈ wsG := inG 448 (by decide +kernel) (by decide +kernel)
set_option maxRecDepth 20000 in
theorem w449 : Cond.code yX6_isState cX6_isState 1 (some .boolean) ∈ wsG := inG 449 (by decide +kernel) (by decide +kernel)
set_option maxRecDepth 20000 in
theorem w450 : Cond.methodLink RX6 108 yX6_isRow ∈ wsG := inG 450 (by decide +kernel) (by decide +kernel)
set_option maxRecDepth 20000 in
theorem w451 : Cond.static yX6_isRow ∈ wsG := inG 451 (by decide +kernel) (by decide +kernel)
set_option maxRecDepth 20000 in
theorem w452 : Cond.code yX6_isRow cX6_isRow 1 (some .boolean) ∈ wsG := inG 452 (by decide +kernel) (by decide +kernel)
set_option maxRecDepth 20000 in
theorem w453 : Cond.methodLinkNest RX6 111 yX4_trueStates "ClaimChains" ∈ nwG := inN 453 (by decide +kernel) (by decide +kernel)
set_option maxRecDepth 20000 in
theorem w455 : Cond.instanceMethod yX4_trueStates ∈ wsG := inG 455 (by decide +kernel) (by decide +kernel)
set_option maxRecDepth 20000 in
theorem w456 : Cond.code yX4_trueStates cX4_trueStates 3 (some .int) ∈ wsG := inG 456 (by decide +kernel) (by decide +kernel)
set_option maxRecDepth 20000 in
theorem w457 : Cond.constant RX4 44 (65535) ∈ wsG := inG 457 (by decide +kernel) (by decide +kernel)
set_option maxRecDepth 20000 in
theorem w458 : Cond.methodLink RL 40 yX6_holds ∈ wsG := inG 458 (by decide +kernel) (by decide +kernel)
set_option maxRecDepth 20000 in
theorem w459 : Cond.instanceMethod yX6_holds ∈ wsG := inG 459 (by decide +kernel) (by decide +kernel)
set_option maxRecDepth 20000 in
theorem w460 : Cond.selects RX6 yX6_holds yX6_holds ∈ wsG := inG 460 (by decide +kernel) (by decide +kernel)
set_option maxRecDepth 20000 in
theorem w461 : Cond.code yX6_holds cX6_holds 3 (some .int) ∈ wsG := inG 461 (by decide +kernel) (by decide +kernel)
set_option maxRecDepth 20000 in
theorem w462 : Cond.methodLink RL 44 yX6_alike ∈ wsG := inG 462 (by decide +kernel) (by decide +kernel)
set_option maxRecDepth 20000 in
theorem w463 : Cond.instanceMethod yX6_alike ∈ wsG := inG 463 (by decide +kernel) (by decide +kernel)
set_option maxRecDepth 20000 in
theorem w464 : Cond.selects RX6 yX6_alike yX6_alike ∈ wsG := inG 464 (by decide +kernel) (by decide +kernel)
set_option maxRecDepth 20000 in
theorem w465 : Cond.code yX6_alike cX6_alike 3 (some .int) ∈ wsG := inG 465 (by decide +kernel) (by decide +kernel)
set_option maxRecDepth 20000 in
theorem w466 : Cond.methodLink RX6 118 yX6_bit ∈ wsG := inG 466 (by decide +kernel) (by decide +kernel)
set_option maxRecDepth 20000 in
theorem w467 : Cond.static yX6_bit ∈ wsG := inG 467 (by decide +kernel) (by decide +kernel)
set_option maxRecDepth 20000 in
theorem w468 : Cond.code yX6_bit cX6_bit 1 (some .int) ∈ wsG := inG 468 (by decide +kernel) (by decide +kernel)
set_option maxRecDepth 20000 in
theorem w469 : Cond.methodLink RL 48 yX6_starts ∈ wsG := inG 469 (by decide +kernel) (by decide +kernel)
set_option maxRecDepth 20000 in
theorem w470 : Cond.instanceMethod yX6_starts ∈ wsG := inG 470 (by decide +kernel) (by decide +kernel)
set_option maxRecDepth 20000 in
theorem w471 : Cond.selects RX6 yX6_starts yX6_starts ∈ wsG := inG 471 (by decide +kernel) (by decide +kernel)
set_option maxRecDepth 20000 in
theorem w472 : Cond.code yX6_starts cX6_starts 2 (some .int) ∈ wsG := inG 472 (by decide +kernel) (by decide +kernel)
set_option maxRecDepth 20000 in
theorem w473 : Cond.methodLinkNest RX6 122 yX2_forgetAll "ClaimChains" ∈ nwG := inN 473 (by decide +kernel) (by decide +kernel)
set_option maxRecDepth 20000 in
theorem w475 : Cond.instanceMethod yX2_forgetAll ∈ wsG := inG 475 (by decide +kernel) (by decide +kernel)
set_option maxRecDepth 20000 in
theorem w476 : Cond.code yX2_forgetAll cX2_forgetAll 1 none ∈ wsG := inG 476 (by decide +kernel) (by decide +kernel)
set_option maxRecDepth 20000 in
theorem w477 : Cond.methodLinkNest RX6 125 yX3_tellStarts "ClaimChains" ∈ nwG := inN 477 (by decide +kernel) (by decide +kernel)
set_option maxRecDepth 20000 in
theorem w479 : Cond.instanceMethod yX3_tellStarts ∈ wsG := inG 479 (by decide +kernel) (by decide +kernel)
set_option maxRecDepth 20000 in
theorem w480 : Cond.code yX3_tellStarts cX3_tellStarts 3 (some .int) ∈ wsG := inG 480 (by decide +kernel) (by decide +kernel)
set_option maxRecDepth 20000 in
theorem w481 : Cond.methodLinkNest RX3 66 yX4_trueStates "ClaimChains" ∈ nwG := inN 481 (by decide +kernel) (by decide +kernel)
set_option maxRecDepth 20000 in
theorem w482 : Cond.methodLink RX3 72 yX3_renewWay ∈ wsG := inG 482 (by decide +kernel) (by decide +kernel)
set_option maxRecDepth 20000 in
theorem w484 : Cond.instanceMethod yX3_renewWay ∈ wsG := inG 484 (by decide +kernel) (by decide +kernel)
set_option maxRecDepth 20000 in
theorem w485 : Cond.code yX3_renewWay cX3_renewWay 3 none ∈ wsG := inG 485 (by decide +kernel) (by decide +kernel)
set_option maxRecDepth 20000 in
theorem w486 : Cond.methodLink RX3 106 yX3_leastBrokenDistance ∈ wsG := inG 486 (by decide +kernel) (by decide +kernel)
set_option maxRecDepth 20000 in
theorem w488 : Cond.instanceMethod yX3_leastBrokenDistance ∈ wsG := inG 488 (by decide +kernel) (by decide +kernel)
set_option maxRecDepth 20000 in
theorem w489 : Cond.code yX3_leastBrokenDistance cX3_leastBrokenDistance 3 (some .int) ∈ wsG := inG 489 (by decide +kernel) (by decide +kernel)
set_option maxRecDepth 20000 in
theorem w490 : Cond.methodLink RX3 110 yX3_sources ∈ wsG := inG 490 (by decide +kernel) (by decide +kernel)
set_option maxRecDepth 20000 in
theorem w492 : Cond.instanceMethod yX3_sources ∈ wsG := inG 492 (by decide +kernel) (by decide +kernel)
set_option maxRecDepth 20000 in
theorem w493 : Cond.code yX3_sources cX3_sources 4 (some .int) ∈ wsG := inG 493 (by decide +kernel) (by decide +kernel)
set_option maxRecDepth 20000 in
theorem w494 : Cond.methodLinkNest RX3 113 yX6_leastOf "ClaimChains" ∈ nwG := inN 494 (by decide +kernel) (by decide +kernel)
set_option maxRecDepth 20000 in
theorem w495 : Cond.static yX6_leastOf ∈ wsG := inG 495 (by decide +kernel) (by decide +kernel)
set_option maxRecDepth 20000 in
theorem w496 : Cond.code yX6_leastOf cX6_leastOf 2 (some .int) ∈ wsG := inG 496 (by decide +kernel) (by decide +kernel)
set_option maxRecDepth 20000 in
theorem w497 : Cond.methodLink RX6 274 yX6_isIn ∈ wsG := inG 497 (by decide +kernel) (by decide +kernel)
set_option maxRecDepth 20000 in
theorem w498 : Cond.methodLink RX3 101 Lib.Math.max.name ∈ wsG := inG 498 (by decide +kernel) (by decide +kernel)
set_option maxRecDepth 20000 in
theorem w499 : Cond.methodLink RX3 116 yX3_leastRowInto ∈ wsG := inG 499 (by decide +kernel) (by decide +kernel)
set_option maxRecDepth 20000 in
theorem w501 : Cond.instanceMethod yX3_leastRowInto ∈ wsG := inG 501 (by decide +kernel) (by decide +kernel)
set_option maxRecDepth 20000 in
theorem w502 : Cond.code yX3_leastRowInto cX3_leastRowInto 4 (some .int) ∈ wsG := inG 502 (by decide +kernel) (by decide +kernel)
set_option maxRecDepth 20000 in
theorem w503 : Cond.methodLink RL 53 yX6_next ∈ wsG := inG 503 (by decide +kernel) (by decide +kernel)
set_option maxRecDepth 20000 in
theorem w504 : Cond.instanceMethod yX6_next ∈ wsG := inG 504 (by decide +kernel) (by decide +kernel)
set_option maxRecDepth 20000 in
theorem w505 : Cond.selects RX6 yX6_next yX6_next ∈ wsG := inG 505 (by decide +kernel) (by decide +kernel)
set_option maxRecDepth 20000 in
theorem w506 : Cond.code yX6_next cX6_next 3 (some .int) ∈ wsG := inG 506 (by decide +kernel) (by decide +kernel)
set_option maxRecDepth 20000 in
theorem w507 : Cond.methodLinkNest RX6 129 yX3_tellNext "ClaimChains" ∈ nwG := inN 507 (by decide +kernel) (by decide +kernel)
set_option maxRecDepth 20000 in
theorem w509 : Cond.instanceMethod yX3_tellNext ∈ wsG := inG 509 (by decide +kernel) (by decide +kernel)
set_option maxRecDepth 20000 in
theorem w510 : Cond.code yX3_tellNext cX3_tellNext 4 (some .int) ∈ wsG := inG 510 (by decide +kernel) (by decide +kernel)
set_option maxRecDepth 20000 in
theorem w511 : Cond.methodLink RL 57 yX6_claim ∈ wsG := inG 511 (by decide +kernel) (by decide +kernel)
set_option maxRecDepth 20000 in
theorem w512 : Cond.instanceMethod yX6_claim ∈ wsG := inG 512 (by decide +kernel) (by decide +kernel)
set_option maxRecDepth 20000 in
theorem w513 : Cond.selects RX6 yX6_claim yX6_claim ∈ wsG := inG 513 (by decide +kernel) (by decide +kernel)
set_option maxRecDepth 20000 in
theorem w514 : Cond.code yX6_claim cX6_claim 2 (some .int) ∈ wsG := inG 514 (by decide +kernel) (by decide +kernel)
set_option maxRecDepth 20000 in
theorem w515 : Cond.methodLinkNest RX6 132 yX3_tellClaim "ClaimChains" ∈ nwG := inN 515 (by decide +kernel) (by decide +kernel)
set_option maxRecDepth 20000 in
theorem w517 : Cond.instanceMethod yX3_tellClaim ∈ wsG := inG 517 (by decide +kernel) (by decide +kernel)
set_option maxRecDepth 20000 in
theorem w518 : Cond.code yX3_tellClaim cX3_tellClaim 3 (some .int) ∈ wsG := inG 518 (by decide +kernel) (by decide +kernel)
set_option maxRecDepth 20000 in
theorem w519 : Cond.methodLink RL 61 yX6_step ∈ wsG := inG 519 (by decide +kernel) (by decide +kernel)
set_option maxRecDepth 20000 in
theorem w520 : Cond.instanceMethod yX6_step ∈ wsG := inG 520 (by decide +kernel) (by decide +kernel)
set_option maxRecDepth 20000 in
theorem w521 : Cond.selects RX6 yX6_step yX6_step ∈ wsG := inG 521 (by decide +kernel) (by decide +kernel)
set_option maxRecDepth 20000 in
theorem w522 : Cond.code yX6_step cX6_step 3 (some .int) ∈ wsG := inG 522 (by decide +kernel) (by decide +kernel)
set_option maxRecDepth 20000 in
theorem w523 : Cond.methodLinkNest RX6 135 yX3_target "ClaimChains" ∈ nwG := inN 523 (by decide +kernel) (by decide +kernel)
set_option maxRecDepth 20000 in
theorem w524 : Cond.methodLink RL 65 yX6_before ∈ wsG := inG 524 (by decide +kernel) (by decide +kernel)
set_option maxRecDepth 20000 in
theorem w525 : Cond.instanceMethod yX6_before ∈ wsG := inG 525 (by decide +kernel) (by decide +kernel)
set_option maxRecDepth 20000 in
theorem w526 : Cond.selects RX6 yX6_before yX6_before ∈ wsG := inG 526 (by decide +kernel) (by decide +kernel)
set_option maxRecDepth 20000 in
theorem w527 : Cond.code yX6_before cX6_before 2 (some .int) ∈ wsG := inG 527 (by decide +kernel) (by decide +kernel)
set_option maxRecDepth 20000 in
theorem w528 : Cond.methodLinkNest RX6 138 yX3_sources "ClaimChains" ∈ nwG := inN 528 (by decide +kernel) (by decide +kernel)
set_option maxRecDepth 20000 in
theorem w529 : Cond.methodLink RL 69 yX6_distance ∈ wsG := inG 529 (by decide +kernel) (by decide +kernel)
set_option maxRecDepth 20000 in
theorem w530 : Cond.instanceMethod yX6_distance ∈ wsG := inG 530 (by decide +kernel) (by decide +kernel)
set_option maxRecDepth 20000 in
theorem w531 : Cond.selects RX6 yX6_distance yX6_distance ∈ wsG := inG 531 (by decide +kernel) (by decide +kernel)
set_option maxRecDepth 20000 in
theorem w532 : Cond.code yX6_distance cX6_distance 2 (some .int) ∈ wsG := inG 532 (by decide +kernel) (by decide +kernel)
set_option maxRecDepth 20000 in
theorem w533 : Cond.methodLink RL 73 yX6_met ∈ wsG := inG 533 (by decide +kernel) (by decide +kernel)
set_option maxRecDepth 20000 in
theorem w534 : Cond.instanceMethod yX6_met ∈ wsG := inG 534 (by decide +kernel) (by decide +kernel)
set_option maxRecDepth 20000 in
theorem w535 : Cond.selects RX6 yX6_met yX6_met ∈ wsG := inG 535 (by decide +kernel) (by decide +kernel)
set_option maxRecDepth 20000 in
theorem w536 : Cond.code yX6_met cX6_met 2 (some .int) ∈ wsG := inG 536 (by decide +kernel) (by decide +kernel)
set_option maxRecDepth 20000 in
theorem w537 : Cond.methodLink RX6 147 yJ6_bitCount_0f7a4 ∈ wsG := inG 537 (by decide +kernel) (by decide +kernel)
set_option maxRecDepth 20000 in
theorem w538 : Cond.static yJ6_bitCount_0f7a4 ∈ wsG := inG 538 (by decide +kernel) (by decide +kernel)
set_option maxRecDepth 20000 in
theorem w539 : Cond.code yJ6_bitCount_0f7a4 cJ6_bitCount_0f7a4 1 (some .int) ∈ wsG := inG 539 (by decide +kernel) (by decide +kernel)
set_option maxRecDepth 20000 in
theorem w540 : Cond.constant RJ6 265 (1431655765) ∈ wsG := inG 540 (by decide +kernel) (by decide +kernel)
set_option maxRecDepth 20000 in
theorem w541 : Cond.constant RJ6 266 (858993459) ∈ wsG := inG 541 (by decide +kernel) (by decide +kernel)
set_option maxRecDepth 20000 in
theorem w542 : Cond.constant RJ6 267 (252645135) ∈ wsG := inG 542 (by decide +kernel) (by decide +kernel)
set_option maxRecDepth 20000 in
theorem w543 : Cond.methodLinkNest RX6 152 yX3_greatestDistance "ClaimChains" ∈ nwG := inN 543 (by decide +kernel) (by decide +kernel)
set_option maxRecDepth 20000 in
theorem w545 : Cond.instanceMethod yX3_greatestDistance ∈ wsG := inG 545 (by decide +kernel) (by decide +kernel)
set_option maxRecDepth 20000 in
theorem w546 : Cond.code yX3_greatestDistance cX3_greatestDistance 3 (some .int) ∈ wsG := inG 546 (by decide +kernel) (by decide +kernel)
set_option maxRecDepth 20000 in
theorem w547 : Cond.methodLink RL 77 yX6_way ∈ wsG := inG 547 (by decide +kernel) (by decide +kernel)
set_option maxRecDepth 20000 in
theorem w548 : Cond.instanceMethod yX6_way ∈ wsG := inG 548 (by decide +kernel) (by decide +kernel)
set_option maxRecDepth 20000 in
theorem w549 : Cond.selects RX6 yX6_way yX6_way ∈ wsG := inG 549 (by decide +kernel) (by decide +kernel)
set_option maxRecDepth 20000 in
theorem w550 : Cond.code yX6_way cX6_way 3 (some .int) ∈ wsG := inG 550 (by decide +kernel) (by decide +kernel)
set_option maxRecDepth 20000 in
theorem w551 : Cond.methodLink RL 81 yX6_loose ∈ wsG := inG 551 (by decide +kernel) (by decide +kernel)
set_option maxRecDepth 20000 in
theorem w552 : Cond.instanceMethod yX6_loose ∈ wsG := inG 552 (by decide +kernel) (by decide +kernel)
set_option maxRecDepth 20000 in
theorem w553 : Cond.selects RX6 yX6_loose yX6_loose ∈ wsG := inG 553 (by decide +kernel) (by decide +kernel)
set_option maxRecDepth 20000 in
theorem w554 : Cond.code yX6_loose cX6_loose 2 (some .int) ∈ wsG := inG 554 (by decide +kernel) (by decide +kernel)
set_option maxRecDepth 20000 in
theorem w555 : Cond.methodLinkNest RX6 171 yX3_looseInStart "ClaimChains" ∈ nwG := inN 555 (by decide +kernel) (by decide +kernel)
set_option maxRecDepth 20000 in
theorem w557 : Cond.instanceMethod yX3_looseInStart ∈ wsG := inG 557 (by decide +kernel) (by decide +kernel)
set_option maxRecDepth 20000 in
theorem w558 : Cond.code yX3_looseInStart cX3_looseInStart 4 (some .int) ∈ wsG := inG 558 (by decide +kernel) (by decide +kernel)
set_option maxRecDepth 20000 in
theorem w559 : Cond.methodLink RX3 119 yX3_endsBroken ∈ wsG := inG 559 (by decide +kernel) (by decide +kernel)
set_option maxRecDepth 20000 in
theorem w561 : Cond.instanceMethod yX3_endsBroken ∈ wsG := inG 561 (by decide +kernel) (by decide +kernel)
set_option maxRecDepth 20000 in
theorem w562 : Cond.code yX3_endsBroken cX3_endsBroken 7 (some .boolean) ∈ wsG := inG 562 (by decide +kernel) (by decide +kernel)
set_option maxRecDepth 20000 in
theorem w563 : Cond.methodLinkNest RX6 174 yX3_looseInRow "ClaimChains" ∈ nwG := inN 563 (by decide +kernel) (by decide +kernel)
set_option maxRecDepth 20000 in
theorem w565 : Cond.instanceMethod yX3_looseInRow ∈ wsG := inG 565 (by decide +kernel) (by decide +kernel)
set_option maxRecDepth 20000 in
theorem w566 : Cond.code yX3_looseInRow cX3_looseInRow 4 (some .int) ∈ wsG := inG 566 (by decide +kernel) (by decide +kernel)
set_option maxRecDepth 20000 in
theorem w567 : Cond.methodLink RL 85 yX6_cone ∈ wsG := inG 567 (by decide +kernel) (by decide +kernel)
set_option maxRecDepth 20000 in
theorem w568 : Cond.instanceMethod yX6_cone ∈ wsG := inG 568 (by decide +kernel) (by decide +kernel)
set_option maxRecDepth 20000 in
theorem w569 : Cond.selects RX6 yX6_cone yX6_cone ∈ wsG := inG 569 (by decide +kernel) (by decide +kernel)
set_option maxRecDepth 20000 in
theorem w570 : Cond.code yX6_cone cX6_cone 3 (some .int) ∈ wsG := inG 570 (by decide +kernel) (by decide +kernel)
set_option maxRecDepth 20000 in
theorem w571 : Cond.methodLinkNest RX6 177 yX3_coneVariables "ClaimChains" ∈ nwG := inN 571 (by decide +kernel) (by decide +kernel)
set_option maxRecDepth 20000 in
theorem w573 : Cond.instanceMethod yX3_coneVariables ∈ wsG := inG 573 (by decide +kernel) (by decide +kernel)
set_option maxRecDepth 20000 in
theorem w574 : Cond.code yX3_coneVariables cX3_coneVariables 4 (some .int) ∈ wsG := inG 574 (by decide +kernel) (by decide +kernel)
set_option maxRecDepth 20000 in
theorem w575 : Cond.methodLinkNest RX6 180 yX3_inputsOf "ClaimChains" ∈ nwG := inN 575 (by decide +kernel) (by decide +kernel)
set_option maxRecDepth 20000 in
theorem w577 : Cond.instanceMethod yX3_inputsOf ∈ wsG := inG 577 (by decide +kernel) (by decide +kernel)
set_option maxRecDepth 20000 in
theorem w578 : Cond.code yX3_inputsOf cX3_inputsOf 4 (some .int) ∈ wsG := inG 578 (by decide +kernel) (by decide +kernel)
set_option maxRecDepth 20000 in
theorem w579 : Cond.methodLink RL 89 yX6_clear ∈ wsG := inG 579 (by decide +kernel) (by decide +kernel)
set_option maxRecDepth 20000 in
theorem w580 : Cond.instanceMethod yX6_clear ∈ wsG := inG 580 (by decide +kernel) (by decide +kernel)
set_option maxRecDepth 20000 in
theorem w581 : Cond.selects RX6 yX6_clear yX6_clear ∈ wsG := inG 581 (by decide +kernel) (by decide +kernel)
set_option maxRecDepth 20000 in
theorem w582 : Cond.code yX6_clear cX6_clear 2 (some .int) ∈ wsG := inG 582 (by decide +kernel) (by decide +kernel)
set_option maxRecDepth 20000 in
theorem w583 : Cond.methodLinkNest RX6 183 yX3_isClear "ClaimChains" ∈ nwG := inN 583 (by decide +kernel) (by decide +kernel)
set_option maxRecDepth 20000 in
theorem w585 : Cond.instanceMethod yX3_isClear ∈ wsG := inG 585 (by decide +kernel) (by decide +kernel)
set_option maxRecDepth 20000 in
theorem w586 : Cond.code yX3_isClear cX3_isClear 3 (some .boolean) ∈ wsG := inG 586 (by decide +kernel) (by decide +kernel)
set_option maxRecDepth 20000 in
theorem w587 : Cond.methodLink RL 93 yX6_shut ∈ wsG := inG 587 (by decide +kernel) (by decide +kernel)
set_option maxRecDepth 20000 in
theorem w588 : Cond.instanceMethod yX6_shut ∈ wsG := inG 588 (by decide +kernel) (by decide +kernel)
set_option maxRecDepth 20000 in
theorem w589 : Cond.selects RX6 yX6_shut yX6_shut ∈ wsG := inG 589 (by decide +kernel) (by decide +kernel)
set_option maxRecDepth 20000 in
theorem w590 : Cond.code yX6_shut cX6_shut 2 (some .int) ∈ wsG := inG 590 (by decide +kernel) (by decide +kernel)
set_option maxRecDepth 20000 in
theorem w591 : Cond.methodLinkNest RX6 186 yX1_find "ClaimChains" ∈ nwG := inN 591 (by decide +kernel) (by decide +kernel)
set_option maxRecDepth 20000 in
theorem w593 : Cond.instanceMethod yX1_find ∈ wsG := inG 593 (by decide +kernel) (by decide +kernel)
set_option maxRecDepth 20000 in
theorem w594 : Cond.code yX1_find cX1_find 2 (some .boolean) ∈ wsG := inG 594 (by decide +kernel) (by decide +kernel)
set_option maxRecDepth 20000 in
theorem w595 : Cond.methodLink RX1 46 yX1_isKept ∈ wsG := inG 595 (by decide +kernel) (by decide +kernel)
set_option maxRecDepth 20000 in
theorem w597 : Cond.instanceMethod yX1_isKept ∈ wsG := inG 597 (by decide +kernel) (by decide +kernel)
set_option maxRecDepth 20000 in
theorem w598 : Cond.code yX1_isKept cX1_isKept 2 (some .boolean) ∈ wsG := inG 598 (by decide +kernel) (by decide +kernel)
set_option maxRecDepth 20000 in
theorem w599 : Cond.methodLinkNest RX1 50 yX2_goodStates "ClaimChains" ∈ nwG := inN 599 (by decide +kernel) (by decide +kernel)
set_option maxRecDepth 20000 in
theorem w601 : Cond.instanceMethod yX2_goodStates ∈ wsG := inG 601 (by decide +kernel) (by decide +kernel)
set_option maxRecDepth 20000 in
theorem w602 : Cond.code yX2_goodStates cX2_goodStates 1 (some .int) ∈ wsG := inG 602 (by decide +kernel) (by decide +kernel)
set_option maxRecDepth 20000 in
theorem w603 : Cond.methodLinkNest RX1 56 yX2_threats "ClaimChains" ∈ nwG := inN 603 (by decide +kernel) (by decide +kernel)
set_option maxRecDepth 20000 in
theorem w605 : Cond.instanceMethod yX2_threats ∈ wsG := inG 605 (by decide +kernel) (by decide +kernel)
set_option maxRecDepth 20000 in
theorem w606 : Cond.code yX2_threats cX2_threats 1 (some .int) ∈ wsG := inG 606 (by decide +kernel) (by decide +kernel)
set_option maxRecDepth 20000 in
theorem w607 : Cond.methodLink RX1 64 yX1_search ∈ wsG := inG 607 (by decide +kernel) (by decide +kernel)
set_option maxRecDepth 20000 in
theorem w609 : Cond.instanceMethod yX1_search ∈ wsG := inG 609 (by decide +kernel) (by decide +kernel)
set_option maxRecDepth 20000 in
theorem w610 : Cond.code yX1_search cX1_search 3 (some .boolean) ∈ wsG := inG 610 (by decide +kernel) (by decide +kernel)
set_option maxRecDepth 20000 in
theorem w611 : Cond.methodLinkNest RX1 67 yX3_sources "ClaimChains" ∈ nwG := inN 611 (by decide +kernel) (by decide +kernel)
set_option maxRecDepth 20000 in
theorem w612 : Cond.methodLinkNest RX1 71 yX6_isIn "ClaimChains" ∈ nwG := inN 612 (by decide +kernel) (by decide +kernel)
set_option maxRecDepth 20000 in
theorem w613 : Cond.methodLink RX1 75 yX1_extend ∈ wsG := inG 613 (by decide +kernel) (by decide +kernel)
set_option maxRecDepth 20000 in
theorem w615 : Cond.instanceMethod yX1_extend ∈ wsG := inG 615 (by decide +kernel) (by decide +kernel)
set_option maxRecDepth 20000 in
theorem w616 : Cond.code yX1_extend cX1_extend 8 (some .boolean) ∈ wsG := inG 616 (by decide +kernel) (by decide +kernel)
set_option maxRecDepth 20000 in
theorem w617 : Cond.methodLinkNest RX1 79 yX3_target "ClaimChains" ∈ nwG := inN 617 (by decide +kernel) (by decide +kernel)
set_option maxRecDepth 20000 in
theorem w618 : Cond.methodLink RL 97 yX6_settle ∈ wsG := inG 618 (by decide +kernel) (by decide +kernel)
set_option maxRecDepth 20000 in
theorem w619 : Cond.instanceMethod yX6_settle ∈ wsG := inG 619 (by decide +kernel) (by decide +kernel)
set_option maxRecDepth 20000 in
theorem w620 : Cond.selects RX6 yX6_settle yX6_settle ∈ wsG := inG 620 (by decide +kernel) (by decide +kernel)
set_option maxRecDepth 20000 in
theorem w621 : Cond.code yX6_settle cX6_settle 3 (some .int) ∈ wsG := inG 621 (by decide +kernel) (by decide +kernel)
set_option maxRecDepth 20000 in
theorem w622 : Cond.methodLinkNest RX6 189 yX3_leastBrokenDistance "ClaimChains" ∈ nwG := inN 622 (by decide +kernel) (by decide +kernel)
set_option maxRecDepth 20000 in
theorem w623 : Cond.methodLink RL 101 yX6_chain ∈ wsG := inG 623 (by decide +kernel) (by decide +kernel)
set_option maxRecDepth 20000 in
theorem w624 : Cond.instanceMethod yX6_chain ∈ wsG := inG 624 (by decide +kernel) (by decide +kernel)
set_option maxRecDepth 20000 in
theorem w625 : Cond.selects RX6 yX6_chain yX6_chain ∈ wsG := inG 625 (by decide +kernel) (by decide +kernel)
set_option maxRecDepth 20000 in
theorem w626 : Cond.code yX6_chain cX6_chain 5 (some .int) ∈ wsG := inG 626 (by decide +kernel) (by decide +kernel)
set_option maxRecDepth 20000 in
theorem w627 : Cond.methodLink RL 105 yX6_weak ∈ wsG := inG 627 (by decide +kernel) (by decide +kernel)
set_option maxRecDepth 20000 in
theorem w628 : Cond.instanceMethod yX6_weak ∈ wsG := inG 628 (by decide +kernel) (by decide +kernel)
set_option maxRecDepth 20000 in
theorem w629 : Cond.selects RX6 yX6_weak yX6_weak ∈ wsG := inG 629 (by decide +kernel) (by decide +kernel)
set_option maxRecDepth 20000 in
theorem w630 : Cond.code yX6_weak cX6_weak 2 (some .int) ∈ wsG := inG 630 (by decide +kernel) (by decide +kernel)
set_option maxRecDepth 20000 in
theorem w631 : Cond.methodLinkNest RX6 198 yX2_weakStates "ClaimChains" ∈ nwG := inN 631 (by decide +kernel) (by decide +kernel)
set_option maxRecDepth 20000 in
theorem w633 : Cond.instanceMethod yX2_weakStates ∈ wsG := inG 633 (by decide +kernel) (by decide +kernel)
set_option maxRecDepth 20000 in
theorem w634 : Cond.code yX2_weakStates cX2_weakStates 1 (some .int) ∈ wsG := inG 634 (by decide +kernel) (by decide +kernel)
set_option maxRecDepth 20000 in
theorem w635 : Cond.methodLink RX2 35 yX2_goodStates ∈ wsG := inG 635 (by decide +kernel) (by decide +kernel)
set_option maxRecDepth 20000 in
theorem w636 : Cond.methodLink RX2 39 yX2_threats ∈ wsG := inG 636 (by decide +kernel) (by decide +kernel)
set_option maxRecDepth 20000 in
theorem w637 : Cond.methodLinkNest RX2 42 yX3_sources "ClaimChains" ∈ nwG := inN 637 (by decide +kernel) (by decide +kernel)
set_option maxRecDepth 20000 in
theorem w638 : Cond.methodLinkNest RX6 201 yX2_goodStates "ClaimChains" ∈ nwG := inN 638 (by decide +kernel) (by decide +kernel)
set_option maxRecDepth 20000 in
theorem w639 : Cond.methodLink RL 109 yX6_strengthen ∈ wsG := inG 639 (by decide +kernel) (by decide +kernel)
set_option maxRecDepth 20000 in
theorem w640 : Cond.instanceMethod yX6_strengthen ∈ wsG := inG 640 (by decide +kernel) (by decide +kernel)
set_option maxRecDepth 20000 in
theorem w641 : Cond.selects RX6 yX6_strengthen yX6_strengthen ∈ wsG := inG 641 (by decide +kernel) (by decide +kernel)
set_option maxRecDepth 20000 in
theorem w642 : Cond.code yX6_strengthen cX6_strengthen 1 (some .int) ∈ wsG := inG 642 (by decide +kernel) (by decide +kernel)
set_option maxRecDepth 20000 in
theorem w643 : Cond.methodLinkNest RX6 204 yX2_addByStrengthening "ClaimChains" ∈ nwG := inN 643 (by decide +kernel) (by decide +kernel)
set_option maxRecDepth 20000 in
theorem w645 : Cond.instanceMethod yX2_addByStrengthening ∈ wsG := inG 645 (by decide +kernel) (by decide +kernel)
set_option maxRecDepth 20000 in
theorem w646 : Cond.code yX2_addByStrengthening cX2_addByStrengthening 4 (some .int) ∈ wsG := inG 646 (by decide +kernel) (by decide +kernel)
set_option maxRecDepth 20000 in
theorem w647 : Cond.methodLink RX2 60 yX2_weakStates ∈ wsG := inG 647 (by decide +kernel) (by decide +kernel)
set_option maxRecDepth 20000 in
theorem w648 : Cond.methodLink RX2 63 yX2_leastThatCanGo ∈ wsG := inG 648 (by decide +kernel) (by decide +kernel)
set_option maxRecDepth 20000 in
theorem w650 : Cond.instanceMethod yX2_leastThatCanGo ∈ wsG := inG 650 (by decide +kernel) (by decide +kernel)
set_option maxRecDepth 20000 in
theorem w651 : Cond.code yX2_leastThatCanGo cX2_leastThatCanGo 3 (some .int) ∈ wsG := inG 651 (by decide +kernel) (by decide +kernel)
set_option maxRecDepth 20000 in
theorem w652 : Cond.methodLinkNest RX2 72 yX6_isIn "ClaimChains" ∈ nwG := inN 652 (by decide +kernel) (by decide +kernel)
set_option maxRecDepth 20000 in
theorem w653 : Cond.methodLink RX2 52 yX2_fits ∈ wsG := inG 653 (by decide +kernel) (by decide +kernel)
set_option maxRecDepth 20000 in
theorem w655 : Cond.instanceMethod yX2_fits ∈ wsG := inG 655 (by decide +kernel) (by decide +kernel)
set_option maxRecDepth 20000 in
theorem w656 : Cond.code yX2_fits cX2_fits 2 (some .boolean) ∈ wsG := inG 656 (by decide +kernel) (by decide +kernel)
set_option maxRecDepth 20000 in
theorem w657 : Cond.methodLinkNest RX2 49 yX3_image "ClaimChains" ∈ nwG := inN 657 (by decide +kernel) (by decide +kernel)
set_option maxRecDepth 20000 in
theorem w658 : Cond.methodLink RX2 66 yX2_widestNames ∈ wsG := inG 658 (by decide +kernel) (by decide +kernel)
set_option maxRecDepth 20000 in
theorem w660 : Cond.instanceMethod yX2_widestNames ∈ wsG := inG 660 (by decide +kernel) (by decide +kernel)
set_option maxRecDepth 20000 in
theorem w661 : Cond.code yX2_widestNames cX2_widestNames 5 (some .int) ∈ wsG := inG 661 (by decide +kernel) (by decide +kernel)
set_option maxRecDepth 20000 in
theorem w662 : Cond.methodLink RX2 69 yX2_outside ∈ wsG := inG 662 (by decide +kernel) (by decide +kernel)
set_option maxRecDepth 20000 in
theorem w663 : Cond.static yX2_outside ∈ wsG := inG 663 (by decide +kernel) (by decide +kernel)
set_option maxRecDepth 20000 in
theorem w664 : Cond.code yX2_outside cX2_outside 4 (some .int) ∈ wsG := inG 664 (by decide +kernel) (by decide +kernel)
set_option maxRecDepth 20000 in
theorem w665 : Cond.methodLink RX2 56 yX2_add ∈ wsG := inG 665 (by decide +kernel) (by decide +kernel)
set_option maxRecDepth 20000 in
theorem w667 : Cond.instanceMethod yX2_add ∈ wsG := inG 667 (by decide +kernel) (by decide +kernel)
set_option maxRecDepth 20000 in
theorem w668 : Cond.code yX2_add cX2_add 3 (some .int) ∈ wsG := inG 668 (by decide +kernel) (by decide +kernel)
set_option maxRecDepth 20000 in
theorem w669 : Cond.methodLink RL 114 yX6_lemma ∈ wsG := inG 669 (by decide +kernel) (by decide +kernel)
set_option maxRecDepth 20000 in
theorem w670 : Cond.instanceMethod yX6_lemma ∈ wsG := inG 670 (by decide +kernel) (by decide +kernel)
set_option maxRecDepth 20000 in
theorem w671 : Cond.selects RX6 yX6_lemma yX6_lemma ∈ wsG := inG 671 (by decide +kernel) (by decide +kernel)
set_option maxRecDepth 20000 in
theorem w672 : Cond.code yX6_lemma cX6_lemma 2 (some .int) ∈ wsG := inG 672 (by decide +kernel) (by decide +kernel)
set_option maxRecDepth 20000 in
theorem w673 : Cond.methodLinkNest RX6 207 yX2_addIfFitting "ClaimChains" ∈ nwG := inN 673 (by decide +kernel) (by decide +kernel)
set_option maxRecDepth 20000 in
theorem w675 : Cond.instanceMethod yX2_addIfFitting ∈ wsG := inG 675 (by decide +kernel) (by decide +kernel)
set_option maxRecDepth 20000 in
theorem w676 : Cond.code yX2_addIfFitting cX2_addIfFitting 2 (some .int) ∈ wsG := inG 676 (by decide +kernel) (by decide +kernel)
set_option maxRecDepth 20000 in
theorem w677 : Cond.methodLink RL 118 yX6_block ∈ wsG := inG 677 (by decide +kernel) (by decide +kernel)
set_option maxRecDepth 20000 in
theorem w678 : Cond.instanceMethod yX6_block ∈ wsG := inG 678 (by decide +kernel) (by decide +kernel)
set_option maxRecDepth 20000 in
theorem w679 : Cond.selects RX6 yX6_block yX6_block ∈ wsG := inG 679 (by decide +kernel) (by decide +kernel)
set_option maxRecDepth 20000 in
theorem w680 : Cond.code yX6_block cX6_block 6 (some .int) ∈ wsG := inG 680 (by decide +kernel) (by decide +kernel)
set_option maxRecDepth 20000 in
theorem w681 : Cond.methodLink RX6 210 yX6_isBox ∈ wsG := inG 681 (by decide +kernel) (by decide +kernel)
set_option maxRecDepth 20000 in
theorem w682 : Cond.static yX6_isBox ∈ wsG := inG 682 (by decide +kernel) (by decide +kernel)
set_option maxRecDepth 20000 in
theorem w683 : Cond.code yX6_isBox cX6_isBox 1 (some .boolean) ∈ wsG := inG 683 (by decide +kernel) (by decide +kernel)
set_option maxRecDepth 20000 in
theorem w684 : Cond.methodLinkNest RX6 213 yX0_hasRow "ClaimChains" ∈ nwG := inN 684 (by decide +kernel) (by decide +kernel)
set_option maxRecDepth 20000 in
theorem w686 : Cond.instanceMethod yX0_hasRow ∈ wsG := inG 686 (by decide +kernel) (by decide +kernel)
set_option maxRecDepth 20000 in
theorem w687 : Cond.code yX0_hasRow cX0_hasRow 1 (some .boolean) ∈ wsG := inG 687 (by decide +kernel) (by decide +kernel)
set_option maxRecDepth 20000 in
theorem w688 : Cond.methodLink RX6 217 yX6_faulted ∈ wsG := inG 688 (by decide +kernel) (by decide +kernel)
set_option maxRecDepth 20000 in
theorem w690 : Cond.instanceMethod yX6_faulted ∈ wsG := inG 690 (by decide +kernel) (by decide +kernel)
set_option maxRecDepth 20000 in
theorem w691 : Cond.code yX6_faulted cX6_faulted 2 (some .int) ∈ wsG := inG 691 (by decide +kernel) (by decide +kernel)
set_option maxRecDepth 20000 in
theorem w692 : Cond.constant RX6 220 (65535) ∈ wsG := inG 692 (by decide +kernel) (by decide +kernel)
set_option maxRecDepth 20000 in
theorem w693 : Cond.methodLink RL 122 yX6_back ∈ wsG := inG 693 (by decide +kernel) (by decide +kernel)
set_option maxRecDepth 20000 in
theorem w694 : Cond.instanceMethod yX6_back ∈ wsG := inG 694 (by decide +kernel) (by decide +kernel)
set_option maxRecDepth 20000 in
theorem w695 : Cond.selects RX6 yX6_back yX6_back ∈ wsG := inG 695 (by decide +kernel) (by decide +kernel)
set_option maxRecDepth 20000 in
theorem w696 : Cond.code yX6_back cX6_back 1 (some .int) ∈ wsG := inG 696 (by decide +kernel) (by decide +kernel)
set_option maxRecDepth 20000 in
theorem w697 : Cond.methodLinkNest RX6 230 yX2_removeLast "ClaimChains" ∈ nwG := inN 697 (by decide +kernel) (by decide +kernel)
set_option maxRecDepth 20000 in
theorem w699 : Cond.instanceMethod yX2_removeLast ∈ wsG := inG 699 (by decide +kernel) (by decide +kernel)
set_option maxRecDepth 20000 in
theorem w700 : Cond.code yX2_removeLast cX2_removeLast 2 (some .int) ∈ wsG := inG 700 (by decide +kernel) (by decide +kernel)
set_option maxRecDepth 20000 in
theorem w701 : Cond.methodLink RL 126 yX6_ofLemma ∈ wsG := inG 701 (by decide +kernel) (by decide +kernel)
set_option maxRecDepth 20000 in
theorem w702 : Cond.instanceMethod yX6_ofLemma ∈ wsG := inG 702 (by decide +kernel) (by decide +kernel)
set_option maxRecDepth 20000 in
theorem w703 : Cond.selects RX6 yX6_ofLemma yX6_ofLemma ∈ wsG := inG 703 (by decide +kernel) (by decide +kernel)
set_option maxRecDepth 20000 in
theorem w704 : Cond.code yX6_ofLemma cX6_ofLemma 3 (some .int) ∈ wsG := inG 704 (by decide +kernel) (by decide +kernel)
set_option maxRecDepth 20000 in
theorem w705 : Cond.methodLink RL 130 yX6_closed ∈ wsG := inG 705 (by decide +kernel) (by decide +kernel)
set_option maxRecDepth 20000 in
theorem w706 : Cond.instanceMethod yX6_closed ∈ wsG := inG 706 (by decide +kernel) (by decide +kernel)
set_option maxRecDepth 20000 in
theorem w707 : Cond.selects RX6 yX6_closed yX6_closed ∈ wsG := inG 707 (by decide +kernel) (by decide +kernel)
set_option maxRecDepth 20000 in
theorem w708 : Cond.code yX6_closed cX6_closed 2 (some .int) ∈ wsG := inG 708 (by decide +kernel) (by decide +kernel)
set_option maxRecDepth 20000 in
theorem w709 : Cond.methodLink RL 134 yX6_chance ∈ wsG := inG 709 (by decide +kernel) (by decide +kernel)
set_option maxRecDepth 20000 in
theorem w710 : Cond.instanceMethod yX6_chance ∈ wsG := inG 710 (by decide +kernel) (by decide +kernel)
set_option maxRecDepth 20000 in
theorem w711 : Cond.selects RX6 yX6_chance yX6_chance ∈ wsG := inG 711 (by decide +kernel) (by decide +kernel)
set_option maxRecDepth 20000 in
theorem w712 : Cond.code yX6_chance cX6_chance 4 (some .int) ∈ wsG := inG 712 (by decide +kernel) (by decide +kernel)
set_option maxRecDepth 20000 in
theorem w713 : Cond.methodLinkNest RX6 239 yX5_countSafe "ClaimChains" ∈ nwG := inN 713 (by decide +kernel) (by decide +kernel)
set_option maxRecDepth 20000 in
theorem w715 : Cond.instanceMethod yX5_countSafe ∈ wsG := inG 715 (by decide +kernel) (by decide +kernel)
set_option maxRecDepth 20000 in
theorem w716 : Cond.code yX5_countSafe cX5_countSafe 4 (some .int) ∈ wsG := inG 716 (by decide +kernel) (by decide +kernel)
set_option maxRecDepth 20000 in
theorem w717 : Cond.methodLinkNest RX5 28 yX6_isIn "ClaimChains" ∈ nwG := inN 717 (by decide +kernel) (by decide +kernel)
set_option maxRecDepth 20000 in
theorem w718 : Cond.methodLinkNest RX5 32 yX6_bit "ClaimChains" ∈ nwG := inN 718 (by decide +kernel) (by decide +kernel)
set_option maxRecDepth 20000 in
theorem w719 : Cond.methodLink RX5 36 yX5_lengthen ∈ wsG := inG 719 (by decide +kernel) (by decide +kernel)
set_option maxRecDepth 20000 in
theorem w721 : Cond.instanceMethod yX5_lengthen ∈ wsG := inG 721 (by decide +kernel) (by decide +kernel)
set_option maxRecDepth 20000 in
theorem w722 : Cond.code yX5_lengthen cX5_lengthen 3 none ∈ wsG := inG 722 (by decide +kernel) (by decide +kernel)
set_option maxRecDepth 20000 in
theorem w723 : Cond.methodLinkNest RX5 42 yX3_target "ClaimChains" ∈ nwG := inN 723 (by decide +kernel) (by decide +kernel)
set_option maxRecDepth 20000 in
theorem w724 : Cond.methodLink RX6 242 yX6_nearestBits ∈ wsG := inG 724 (by decide +kernel) (by decide +kernel)
set_option maxRecDepth 20000 in
theorem w725 : Cond.static yX6_nearestBits ∈ wsG := inG 725 (by decide +kernel) (by decide +kernel)
set_option maxRecDepth 20000 in
theorem w726 : Cond.code yX6_nearestBits cX6_nearestBits 13 (some .long) ∈ wsG := inG 726 (by decide +kernel) (by decide +kernel)
set_option maxRecDepth 20000 in
theorem w727 : Cond.constantLong RX6 277 (2) ∈ wsG := inG 727 (by decide +kernel) (by decide +kernel)
set_option maxRecDepth 20000 in
theorem w728 : Cond.methodLink RL 138 yX6_mean ∈ wsG := inG 728 (by decide +kernel) (by decide +kernel)
set_option maxRecDepth 20000 in
theorem w729 : Cond.instanceMethod yX6_mean ∈ wsG := inG 729 (by decide +kernel) (by decide +kernel)
set_option maxRecDepth 20000 in
theorem w730 : Cond.selects RX6 yX6_mean yX6_mean ∈ wsG := inG 730 (by decide +kernel) (by decide +kernel)
set_option maxRecDepth 20000 in
theorem w731 : Cond.code yX6_mean cX6_mean 2 (some .long) ∈ wsG := inG 731 (by decide +kernel) (by decide +kernel)
set_option maxRecDepth 20000 in
theorem w732 : Cond.methodLinkNest RX6 246 yX3_sumOfDistances "ClaimChains" ∈ nwG := inN 732 (by decide +kernel) (by decide +kernel)
set_option maxRecDepth 20000 in
theorem w734 : Cond.instanceMethod yX3_sumOfDistances ∈ wsG := inG 734 (by decide +kernel) (by decide +kernel)
set_option maxRecDepth 20000 in
theorem w735 : Cond.code yX3_sumOfDistances cX3_sumOfDistances 3 (some .int) ∈ wsG := inG 735 (by decide +kernel) (by decide +kernel)
set_option maxRecDepth 20000 in
theorem w736 : Cond.methodLink RL 143 yX6_box ∈ wsG := inG 736 (by decide +kernel) (by decide +kernel)
set_option maxRecDepth 20000 in
theorem w737 : Cond.instanceMethod yX6_box ∈ wsG := inG 737 (by decide +kernel) (by decide +kernel)
set_option maxRecDepth 20000 in
theorem w738 : Cond.selects RX6 yX6_box yX6_box ∈ wsG := inG 738 (by decide +kernel) (by decide +kernel)
set_option maxRecDepth 20000 in
theorem w739 : Cond.code yX6_box cX6_box 4 (some .int) ∈ wsG := inG 739 (by decide +kernel) (by decide +kernel)
set_option maxRecDepth 20000 in
theorem w740 : Cond.methodLinkNest RX6 249 yX0_getNewRow "ClaimChains" ∈ nwG := inN 740 (by decide +kernel) (by decide +kernel)
set_option maxRecDepth 20000 in
theorem w742 : Cond.instanceMethod yX0_getNewRow ∈ wsG := inG 742 (by decide +kernel) (by decide +kernel)
set_option maxRecDepth 20000 in
theorem w743 : Cond.code yX0_getNewRow cX0_getNewRow 4 none ∈ wsG := inG 743 (by decide +kernel) (by decide +kernel)
set_option maxRecDepth 20000 in
theorem w744 : Cond.methodLink RL 147 yX6_lay ∈ wsG := inG 744 (by decide +kernel) (by decide +kernel)
set_option maxRecDepth 20000 in
theorem w745 : Cond.instanceMethod yX6_lay ∈ wsG := inG 745 (by decide +kernel) (by decide +kernel)
set_option maxRecDepth 20000 in
theorem w746 : Cond.selects RX6 yX6_lay yX6_lay ∈ wsG := inG 746 (by decide +kernel) (by decide +kernel)
set_option maxRecDepth 20000 in
theorem w747 : Cond.code yX6_lay cX6_lay 5 (some .int) ∈ wsG := inG 747 (by decide +kernel) (by decide +kernel)
set_option maxRecDepth 20000 in
theorem w748 : Cond.methodLinkNest RX6 253 yX0_hasPlace "ClaimChains" ∈ nwG := inN 748 (by decide +kernel) (by decide +kernel)
set_option maxRecDepth 20000 in
theorem w750 : Cond.instanceMethod yX0_hasPlace ∈ wsG := inG 750 (by decide +kernel) (by decide +kernel)
set_option maxRecDepth 20000 in
theorem w751 : Cond.code yX0_hasPlace cX0_hasPlace 2 (some .boolean) ∈ wsG := inG 751 (by decide +kernel) (by decide +kernel)
set_option maxRecDepth 20000 in
theorem w752 : Cond.methodLinkNest RX6 256 yX0_admits "ClaimChains" ∈ nwG := inN 752 (by decide +kernel) (by decide +kernel)
set_option maxRecDepth 20000 in
theorem w754 : Cond.instanceMethod yX0_admits ∈ wsG := inG 754 (by decide +kernel) (by decide +kernel)
set_option maxRecDepth 20000 in
theorem w755 : Cond.code yX0_admits cX0_admits 2 (some .boolean) ∈ wsG := inG 755 (by decide +kernel) (by decide +kernel)
set_option maxRecDepth 20000 in
theorem w756 : Cond.methodLink RL 151 yX6_take ∈ wsG := inG 756 (by decide +kernel) (by decide +kernel)
set_option maxRecDepth 20000 in
theorem w757 : Cond.instanceMethod yX6_take ∈ wsG := inG 757 (by decide +kernel) (by decide +kernel)
set_option maxRecDepth 20000 in
theorem w758 : Cond.selects RX6 yX6_take yX6_take ∈ wsG := inG 758 (by decide +kernel) (by decide +kernel)
set_option maxRecDepth 20000 in
theorem w759 : Cond.code yX6_take cX6_take 4 (some .int) ∈ wsG := inG 759 (by decide +kernel) (by decide +kernel)
set_option maxRecDepth 20000 in
theorem w760 : Cond.methodLink RL 155 yX6_same ∈ wsG := inG 760 (by decide +kernel) (by decide +kernel)
set_option maxRecDepth 20000 in
theorem w761 : Cond.instanceMethod yX6_same ∈ wsG := inG 761 (by decide +kernel) (by decide +kernel)
set_option maxRecDepth 20000 in
theorem w762 : Cond.selects RX6 yX6_same yX6_same ∈ wsG := inG 762 (by decide +kernel) (by decide +kernel)
set_option maxRecDepth 20000 in
theorem w763 : Cond.code yX6_same cX6_same 4 (some .int) ∈ wsG := inG 763 (by decide +kernel) (by decide +kernel)
set_option maxRecDepth 20000 in
theorem w764 : Cond.methodLinkNest RX6 259 yX0_becomeLike "ClaimChains" ∈ nwG := inN 764 (by decide +kernel) (by decide +kernel)
set_option maxRecDepth 20000 in
theorem w766 : Cond.instanceMethod yX0_becomeLike ∈ wsG := inG 766 (by decide +kernel) (by decide +kernel)
set_option maxRecDepth 20000 in
theorem w767 : Cond.code yX0_becomeLike cX0_becomeLike 3 none ∈ wsG := inG 767 (by decide +kernel) (by decide +kernel)
set_option maxRecDepth 20000 in
theorem w768 : Cond.methodLink RL 159 yX6_move ∈ wsG := inG 768 (by decide +kernel) (by decide +kernel)
set_option maxRecDepth 20000 in
theorem w769 : Cond.instanceMethod yX6_move ∈ wsG := inG 769 (by decide +kernel) (by decide +kernel)
set_option maxRecDepth 20000 in
theorem w770 : Cond.selects RX6 yX6_move yX6_move ∈ wsG := inG 770 (by decide +kernel) (by decide +kernel)
set_option maxRecDepth 20000 in
theorem w771 : Cond.code yX6_move cX6_move 10 (some .int) ∈ wsG := inG 771 (by decide +kernel) (by decide +kernel)
set_option maxRecDepth 20000 in
theorem w772 : Cond.methodLinkNest RX6 263 yX0_hasRange "ClaimChains" ∈ nwG := inN 772 (by decide +kernel) (by decide +kernel)
set_option maxRecDepth 20000 in
theorem w774 : Cond.instanceMethod yX0_hasRange ∈ wsG := inG 774 (by decide +kernel) (by decide +kernel)
set_option maxRecDepth 20000 in
theorem w775 : Cond.code yX0_hasRange cX0_hasRange 3 (some .boolean) ∈ wsG := inG 775 (by decide +kernel) (by decide +kernel)
set_option maxRecDepth 20000 in
theorem w776 : Cond.methodLink RL 164 yX6_states ∈ wsG := inG 776 (by decide +kernel) (by decide +kernel)
set_option maxRecDepth 20000 in
theorem w777 : Cond.instanceMethod yX6_states ∈ wsG := inG 777 (by decide +kernel) (by decide +kernel)
set_option maxRecDepth 20000 in
theorem w778 : Cond.selects RX6 yX6_states yX6_states ∈ wsG := inG 778 (by decide +kernel) (by decide +kernel)
set_option maxRecDepth 20000 in
theorem w779 : Cond.code yX6_states cX6_states 9 (some .int) ∈ wsG := inG 779 (by decide +kernel) (by decide +kernel)
set_option maxRecDepth 20000 in
theorem w780 : Cond.methodLink RL 168 yX6_lose ∈ wsG := inG 780 (by decide +kernel) (by decide +kernel)
set_option maxRecDepth 20000 in
theorem w781 : Cond.instanceMethod yX6_lose ∈ wsG := inG 781 (by decide +kernel) (by decide +kernel)
set_option maxRecDepth 20000 in
theorem w782 : Cond.selects RX6 yX6_lose yX6_lose ∈ wsG := inG 782 (by decide +kernel) (by decide +kernel)
set_option maxRecDepth 20000 in
theorem w783 : Cond.code yX6_lose cX6_lose 2 (some .int) ∈ wsG := inG 783 (by decide +kernel) (by decide +kernel)
set_option maxRecDepth 20000 in
theorem w784 : Cond.methodLinkNest RX6 267 yX0_loseRow "ClaimChains" ∈ nwG := inN 784 (by decide +kernel) (by decide +kernel)
set_option maxRecDepth 20000 in
theorem w786 : Cond.instanceMethod yX0_loseRow ∈ wsG := inG 786 (by decide +kernel) (by decide +kernel)
set_option maxRecDepth 20000 in
theorem w787 : Cond.code yX0_loseRow cX0_loseRow 1 none ∈ wsG := inG 787 (by decide +kernel) (by decide +kernel)
set_option maxRecDepth 20000 in
theorem w788 : Cond.methodLink RL 172 yX6_fault ∈ wsG := inG 788 (by decide +kernel) (by decide +kernel)
set_option maxRecDepth 20000 in
theorem w789 : Cond.instanceMethod yX6_fault ∈ wsG := inG 789 (by decide +kernel) (by decide +kernel)
set_option maxRecDepth 20000 in
theorem w790 : Cond.selects RX6 yX6_fault yX6_fault ∈ wsG := inG 790 (by decide +kernel) (by decide +kernel)
set_option maxRecDepth 20000 in
theorem w791 : Cond.code yX6_fault cX6_fault 1 (some .int) ∈ wsG := inG 791 (by decide +kernel) (by decide +kernel)
set_option maxRecDepth 20000 in
theorem w792 : Cond.methodLink RL 176 yX6_many ∈ wsG := inG 792 (by decide +kernel) (by decide +kernel)
set_option maxRecDepth 20000 in
theorem w793 : Cond.instanceMethod yX6_many ∈ wsG := inG 793 (by decide +kernel) (by decide +kernel)
set_option maxRecDepth 20000 in
theorem w794 : Cond.selects RX6 yX6_many yX6_many ∈ wsG := inG 794 (by decide +kernel) (by decide +kernel)
set_option maxRecDepth 20000 in
theorem w795 : Cond.code yX6_many cX6_many 2 (some .int) ∈ wsG := inG 795 (by decide +kernel) (by decide +kernel)
set_option maxRecDepth 20000 in
theorem w796 : Cond.methodLink RX6 271 yX6_countFilledBoxes ∈ wsG := inG 796 (by decide +kernel) (by decide +kernel)
set_option maxRecDepth 20000 in
theorem w798 : Cond.instanceMethod yX6_countFilledBoxes ∈ wsG := inG 798 (by decide +kernel) (by decide +kernel)
set_option maxRecDepth 20000 in
theorem w799 : Cond.code yX6_countFilledBoxes cX6_countFilledBoxes 3 (some .int) ∈ wsG := inG 799 (by decide +kernel) (by decide +kernel)
set_option maxRecDepth 20000 in
theorem w800 : Cond.classLink RL 10 "ClaimChainsModel" ∈ wsG := inG 800 (by decide +kernel) (by decide +kernel)
set_option maxRecDepth 20000 in
theorem w801 : Cond.instantiable RX7 30 ∈ wsG := inG 801 (by decide +kernel) (by decide +kernel)
set_option maxRecDepth 20000 in
theorem w802 : Cond.methodLink RL 12 yX7_init ∈ wsG := inG 802 (by decide +kernel) (by decide +kernel)
set_option maxRecDepth 20000 in
theorem w803 : Cond.instanceMethod yX7_init ∈ wsG := inG 803 (by decide +kernel) (by decide +kernel)
set_option maxRecDepth 20000 in
theorem w804 : Cond.code yX7_init cX7_init 1 none ∈ wsG := inG 804 (by decide +kernel) (by decide +kernel)
set_option maxRecDepth 20000 in
theorem w805 : Cond.methodLink RX7 1 objectInit ∈ wsG := inG 805 (by decide +kernel) (by decide +kernel)
set_option maxRecDepth 20000 in
theorem w806 : Cond.fieldLink RX7 84 "ClaimChainsModel" "fault" "I" ∈ wsG := inG 806 (by decide +kernel) (by decide +kernel)
set_option maxRecDepth 20000 in
theorem w807 : Cond.fieldLink RX7 91 "ClaimChainsModel" "many" "I" ∈ wsG := inG 807 (by decide +kernel) (by decide +kernel)
set_option maxRecDepth 20000 in
theorem w808 : Cond.fieldLink RX7 7 "ClaimChainsModel" "kind" "[I" ∈ wsG := inG 808 (by decide +kernel) (by decide +kernel)
set_option maxRecDepth 20000 in
theorem w809 : Cond.fieldLink RX7 13 "ClaimChainsModel" "part" "[I" ∈ wsG := inG 809 (by decide +kernel) (by decide +kernel)
set_option maxRecDepth 20000 in
theorem w810 : Cond.fieldLink RX7 16 "ClaimChainsModel" "variables" "[I" ∈ wsG := inG 810 (by decide +kernel) (by decide +kernel)
set_option maxRecDepth 20000 in
theorem w811 : Cond.fieldLink RX7 19 "ClaimChainsModel" "inputs" "[I" ∈ wsG := inG 811 (by decide +kernel) (by decide +kernel)
set_option maxRecDepth 20000 in
theorem w812 : Cond.fieldLink RX7 22 "ClaimChainsModel" "deep" "[I" ∈ wsG := inG 812 (by decide +kernel) (by decide +kernel)
set_option maxRecDepth 20000 in
theorem w813 : Cond.fieldLink RX7 25 "ClaimChainsModel" "leavesOf" "[J" ∈ wsG := inG 813 (by decide +kernel) (by decide +kernel)
set_option maxRecDepth 20000 in
theorem w814 : Cond.fieldLink RX7 29 "ClaimChainsModel" "values" "[I" ∈ wsG := inG 814 (by decide +kernel) (by decide +kernel)
set_option maxRecDepth 20000 in
theorem w815 : Cond.fieldLink RX7 32 "ClaimChainsModel" "startTerm" "I" ∈ wsG := inG 815 (by decide +kernel) (by decide +kernel)
set_option maxRecDepth 20000 in
theorem w816 : Cond.fieldLink RX7 36 "ClaimChainsModel" "claimTerm" "I" ∈ wsG := inG 816 (by decide +kernel) (by decide +kernel)
set_option maxRecDepth 20000 in
theorem w817 : Cond.fieldLink RX7 39 "ClaimChainsModel" "nextTerm" "[I" ∈ wsG := inG 817 (by decide +kernel) (by decide +kernel)
set_option maxRecDepth 20000 in
theorem w818 : Cond.fieldLink RX7 42 "ClaimChainsModel" "far" "[I" ∈ wsG := inG 818 (by decide +kernel) (by decide +kernel)
set_option maxRecDepth 20000 in
theorem w819 : Cond.fieldLink RX7 167 "ClaimChainsModel" "wayMany" "I" ∈ wsG := inG 819 (by decide +kernel) (by decide +kernel)
set_option maxRecDepth 20000 in
theorem w820 : Cond.fieldLink RX7 45 "ClaimChainsModel" "wayState" "[I" ∈ wsG := inG 820 (by decide +kernel) (by decide +kernel)
set_option maxRecDepth 20000 in
theorem w821 : Cond.fieldLink RX7 48 "ClaimChainsModel" "wayRow" "[I" ∈ wsG := inG 821 (by decide +kernel) (by decide +kernel)
set_option maxRecDepth 20000 in
theorem w822 : Cond.fieldLink RX7 136 "ClaimChainsModel" "lemmas" "I" ∈ wsG := inG 822 (by decide +kernel) (by decide +kernel)
set_option maxRecDepth 20000 in
theorem w823 : Cond.fieldLink RX7 51 "ClaimChainsModel" "lemmaOf" "[I" ∈ wsG := inG 823 (by decide +kernel) (by decide +kernel)
set_option maxRecDepth 20000 in
theorem w824 : Cond.fieldLink RX7 54 "ClaimChainsModel" "cubeOf" "[I" ∈ wsG := inG 824 (by decide +kernel) (by decide +kernel)
set_option maxRecDepth 20000 in
theorem w825 : Cond.fieldLink RX7 57 "ClaimChainsModel" "chainState" "[I" ∈ wsG := inG 825 (by decide +kernel) (by decide +kernel)
set_option maxRecDepth 20000 in
theorem w826 : Cond.fieldLink RX7 60 "ClaimChainsModel" "chainRow" "[I" ∈ wsG := inG 826 (by decide +kernel) (by decide +kernel)
set_option maxRecDepth 20000 in
theorem w827 : Cond.fieldLink RX7 63 "ClaimChainsModel" "steps" "[I" ∈ wsG := inG 827 (by decide +kernel) (by decide +kernel)
set_option maxRecDepth 20000 in
theorem w828 : Cond.fieldLink RX7 188 "ClaimChainsModel" "good" "I" ∈ wsG := inG 828 (by decide +kernel) (by decide +kernel)
set_option maxRecDepth 20000 in
theorem w829 : Cond.fieldLink RX7 185 "ClaimChainsModel" "last" "I" ∈ wsG := inG 829 (by decide +kernel) (by decide +kernel)
set_option maxRecDepth 20000 in
theorem w830 : Cond.fieldLink RX7 66 "ClaimChainsModel" "wrong" "[I" ∈ wsG := inG 830 (by decide +kernel) (by decide +kernel)
set_option maxRecDepth 20000 in
theorem w831 : Cond.fieldLink RX7 69 "ClaimChainsModel" "wrongThen" "[I" ∈ wsG := inG 831 (by decide +kernel) (by decide +kernel)
set_option maxRecDepth 20000 in
theorem w832 : Cond.fieldLink RX7 72 "ClaimChainsModel" "sortOf" "[I" ∈ wsG := inG 832 (by decide +kernel) (by decide +kernel)
set_option maxRecDepth 20000 in
theorem w833 : Cond.fieldLink RX7 75 "ClaimChainsModel" "longOf" "[I" ∈ wsG := inG 833 (by decide +kernel) (by decide +kernel)
set_option maxRecDepth 20000 in
theorem w834 : Cond.fieldLink RX7 78 "ClaimChainsModel" "place" "[I" ∈ wsG := inG 834 (by decide +kernel) (by decide +kernel)
set_option maxRecDepth 20000 in
theorem w835 : Cond.fieldLink RX7 81 "ClaimChainsModel" "moved" "[I" ∈ wsG := inG 835 (by decide +kernel) (by decide +kernel)
set_option maxRecDepth 20000 in
theorem w897 : Cond.methodLink RL 17 yX7_leaf ∈ wsG := inG 897 (by decide +kernel) (by decide +kernel)
set_option maxRecDepth 20000 in
theorem w898 : Cond.instanceMethod yX7_leaf ∈ wsG := inG 898 (by decide +kernel) (by decide +kernel)
set_option maxRecDepth 20000 in
theorem w899 : Cond.selects RX7 yX7_leaf yX7_leaf ∈ wsG := inG 899 (by decide +kernel) (by decide +kernel)
set_option maxRecDepth 20000 in
theorem w900 : Cond.code yX7_leaf cX7_leaf 3 (some .int) ∈ wsG := inG 900 (by decide +kernel) (by decide +kernel)
set_option maxRecDepth 20000 in
theorem w901 : Cond.methodLink RX7 94 yX7_within ∈ wsG := inG 901 (by decide +kernel) (by decide +kernel)
set_option maxRecDepth 20000 in
theorem w902 : Cond.static yX7_within ∈ wsG := inG 902 (by decide +kernel) (by decide +kernel)
set_option maxRecDepth 20000 in
theorem w903 : Cond.code yX7_within cX7_within 3 (some .boolean) ∈ wsG := inG 903 (by decide +kernel) (by decide +kernel)
set_option maxRecDepth 20000 in
theorem w904 : Cond.methodLink RX7 113 yX7_comes ∈ wsG := inG 904 (by decide +kernel) (by decide +kernel)
set_option maxRecDepth 20000 in
theorem w906 : Cond.instanceMethod yX7_comes ∈ wsG := inG 906 (by decide +kernel) (by decide +kernel)
set_option maxRecDepth 20000 in
theorem w907 : Cond.code yX7_comes cX7_comes 9 (some .int) ∈ wsG := inG 907 (by decide +kernel) (by decide +kernel)
set_option maxRecDepth 20000 in
theorem w908 : Cond.methodLink RX7 102 yX7_find ∈ wsG := inG 908 (by decide +kernel) (by decide +kernel)
set_option maxRecDepth 20000 in
theorem w910 : Cond.instanceMethod yX7_find ∈ wsG := inG 910 (by decide +kernel) (by decide +kernel)
set_option maxRecDepth 20000 in
theorem w911 : Cond.code yX7_find cX7_find 7 (some .int) ∈ wsG := inG 911 (by decide +kernel) (by decide +kernel)
set_option maxRecDepth 20000 in
theorem w912 : Cond.methodLink RX7 106 yX7_takes ∈ wsG := inG 912 (by decide +kernel) (by decide +kernel)
set_option maxRecDepth 20000 in
theorem w914 : Cond.instanceMethod yX7_takes ∈ wsG := inG 914 (by decide +kernel) (by decide +kernel)
set_option maxRecDepth 20000 in
theorem w915 : Cond.code yX7_takes cX7_takes 3 none ∈ wsG := inG 915 (by decide +kernel) (by decide +kernel)
set_option maxRecDepth 20000 in
theorem w916 : Cond.methodLink RX7 110 yX7_evaluated ∈ wsG := inG 916 (by decide +kernel) (by decide +kernel)
set_option maxRecDepth 20000 in
theorem w918 : Cond.instanceMethod yX7_evaluated ∈ wsG := inG 918 (by decide +kernel) (by decide +kernel)
set_option maxRecDepth 20000 in
theorem w919 : Cond.code yX7_evaluated cX7_evaluated 7 (some .int) ∈ wsG := inG 919 (by decide +kernel) (by decide +kernel)
set_option maxRecDepth 20000 in
theorem w920 : Cond.methodLink RX7 98 yX7_valueIn ∈ wsG := inG 920 (by decide +kernel) (by decide +kernel)
set_option maxRecDepth 20000 in
theorem w922 : Cond.instanceMethod yX7_valueIn ∈ wsG := inG 922 (by decide +kernel) (by decide +kernel)
set_option maxRecDepth 20000 in
theorem w923 : Cond.code yX7_valueIn cX7_valueIn 4 (some .int) ∈ wsG := inG 923 (by decide +kernel) (by decide +kernel)
set_option maxRecDepth 20000 in
theorem w924 : Cond.methodLink RX7 87 yX7_isIn ∈ wsG := inG 924 (by decide +kernel) (by decide +kernel)
set_option maxRecDepth 20000 in
theorem w925 : Cond.static yX7_isIn ∈ wsG := inG 925 (by decide +kernel) (by decide +kernel)
set_option maxRecDepth 20000 in
theorem w926 : Cond.code yX7_isIn cX7_isIn 2 (some .int) ∈ wsG := inG 926 (by decide +kernel) (by decide +kernel)
set_option maxRecDepth 20000 in
theorem w927 : Cond.methodLink RL 22 yX7_gate ∈ wsG := inG 927 (by decide +kernel) (by decide +kernel)
set_option maxRecDepth 20000 in
theorem w928 : Cond.instanceMethod yX7_gate ∈ wsG := inG 928 (by decide +kernel) (by decide +kernel)
set_option maxRecDepth 20000 in
theorem w929 : Cond.selects RX7 yX7_gate yX7_gate ∈ wsG := inG 929 (by decide +kernel) (by decide +kernel)
set_option maxRecDepth 20000 in
theorem w930 : Cond.code yX7_gate cX7_gate 4 (some .int) ∈ wsG := inG 930 (by decide +kernel) (by decide +kernel)
set_option maxRecDepth 20000 in
theorem w931 : Cond.methodLink RX7 116 yX7_isTerm ∈ wsG := inG 931 (by decide +kernel) (by decide +kernel)
set_option maxRecDepth 20000 in
theorem w933 : Cond.instanceMethod yX7_isTerm ∈ wsG := inG 933 (by decide +kernel) (by decide +kernel)
set_option maxRecDepth 20000 in
theorem w934 : Cond.code yX7_isTerm cX7_isTerm 2 (some .boolean) ∈ wsG := inG 934 (by decide +kernel) (by decide +kernel)
set_option maxRecDepth 20000 in
theorem w935 : Cond.methodLink RL 26 yX7_choice ∈ wsG := inG 935 (by decide +kernel) (by decide +kernel)
set_option maxRecDepth 20000 in
theorem w936 : Cond.instanceMethod yX7_choice ∈ wsG := inG 936 (by decide +kernel) (by decide +kernel)
set_option maxRecDepth 20000 in
theorem w937 : Cond.selects RX7 yX7_choice yX7_choice ∈ wsG := inG 937 (by decide +kernel) (by decide +kernel)
set_option maxRecDepth 20000 in
theorem w938 : Cond.code yX7_choice cX7_choice 4 (some .int) ∈ wsG := inG 938 (by decide +kernel) (by decide +kernel)
set_option maxRecDepth 20000 in
theorem w939 : Cond.methodLink RL 30 yX7_ofTerm ∈ wsG := inG 939 (by decide +kernel) (by decide +kernel)
set_option maxRecDepth 20000 in
theorem w940 : Cond.instanceMethod yX7_ofTerm ∈ wsG := inG 940 (by decide +kernel) (by decide +kernel)
set_option maxRecDepth 20000 in
theorem w941 : Cond.selects RX7 yX7_ofTerm yX7_ofTerm ∈ wsG := inG 941 (by decide +kernel) (by decide +kernel)
set_option maxRecDepth 20000 in
theorem w942 : Cond.code yX7_ofTerm cX7_ofTerm 3 (some .int) ∈ wsG := inG 942 (by decide +kernel) (by decide +kernel)
set_option maxRecDepth 20000 in
theorem w943 : Cond.methodLink RL 35 yX7_leaves ∈ wsG := inG 943 (by decide +kernel) (by decide +kernel)
set_option maxRecDepth 20000 in
theorem w944 : Cond.instanceMethod yX7_leaves ∈ wsG := inG 944 (by decide +kernel) (by decide +kernel)
set_option maxRecDepth 20000 in
theorem w945 : Cond.selects RX7 yX7_leaves yX7_leaves ∈ wsG := inG 945 (by decide +kernel) (by decide +kernel)
set_option maxRecDepth 20000 in
theorem w946 : Cond.code yX7_leaves cX7_leaves 2 (some .long) ∈ wsG := inG 946 (by decide +kernel) (by decide +kernel)
set_option maxRecDepth 20000 in
theorem w947 : Cond.constantLong RX7 120 (-9223372036854775808) ∈ wsG := inG 947 (by decide +kernel) (by decide +kernel)
set_option maxRecDepth 20000 in
theorem w948 : Cond.methodLink RL 39 yX7_value ∈ wsG := inG 948 (by decide +kernel) (by decide +kernel)
set_option maxRecDepth 20000 in
theorem w949 : Cond.instanceMethod yX7_value ∈ wsG := inG 949 (by decide +kernel) (by decide +kernel)
set_option maxRecDepth 20000 in
theorem w950 : Cond.selects RX7 yX7_value yX7_value ∈ wsG := inG 950 (by decide +kernel) (by decide +kernel)
set_option maxRecDepth 20000 in
theorem w951 : Cond.code yX7_value cX7_value 4 (some .int) ∈ wsG := inG 951 (by decide +kernel) (by decide +kernel)
set_option maxRecDepth 20000 in
theorem w952 : Cond.methodLink RX7 122 yX7_isState ∈ wsG := inG 952 (by decide +kernel) (by decide +kernel)
set_option maxRecDepth 20000 in
theorem w953 : Cond.static yX7_isState ∈ wsG := inG 953 (by decide +kernel) (by decide +kernel)
set_option maxRecDepth 20000 in
theorem w954 : Cond.code yX7_isState cX7_isState 1 (some .boolean) ∈ wsG := inG 954 (by decide +kernel) (by decide +kernel)
set_option maxRecDepth 20000 in
theorem w955 : Cond.methodLink RX7 125 yX7_isRow ∈ wsG := inG 955 (by decide +kernel) (by decide +kernel)
set_option maxRecDepth 20000 in
theorem w956 : Cond.static yX7_isRow ∈ wsG := inG 956 (by decide +kernel) (by decide +kernel)
set_option maxRecDepth 20000 in
theorem w957 : Cond.code yX7_isRow cX7_isRow 1 (some .boolean) ∈ wsG := inG 957 (by decide +kernel) (by decide +kernel)
set_option maxRecDepth 20000 in
theorem w958 : Cond.methodLink RL 43 yX7_holds ∈ wsG := inG 958 (by decide +kernel) (by decide +kernel)
set_option maxRecDepth 20000 in
theorem w959 : Cond.instanceMethod yX7_holds ∈ wsG := inG 959 (by decide +kernel) (by decide +kernel)
set_option maxRecDepth 20000 in
theorem w960 : Cond.selects RX7 yX7_holds yX7_holds ∈ wsG := inG 960 (by decide +kernel) (by decide +kernel)
set_option maxRecDepth 20000 in
theorem w961 : Cond.code yX7_holds cX7_holds 3 (some .int) ∈ wsG := inG 961 (by decide +kernel) (by decide +kernel)
set_option maxRecDepth 20000 in
theorem w962 : Cond.methodLink RX7 128 yX7_holdsOf ∈ wsG := inG 962 (by decide +kernel) (by decide +kernel)
set_option maxRecDepth 20000 in
theorem w964 : Cond.instanceMethod yX7_holdsOf ∈ wsG := inG 964 (by decide +kernel) (by decide +kernel)
set_option maxRecDepth 20000 in
theorem w965 : Cond.code yX7_holdsOf cX7_holdsOf 5 (some .int) ∈ wsG := inG 965 (by decide +kernel) (by decide +kernel)
set_option maxRecDepth 20000 in
theorem w966 : Cond.methodLink RL 47 yX7_alike ∈ wsG := inG 966 (by decide +kernel) (by decide +kernel)
set_option maxRecDepth 20000 in
theorem w967 : Cond.instanceMethod yX7_alike ∈ wsG := inG 967 (by decide +kernel) (by decide +kernel)
set_option maxRecDepth 20000 in
theorem w968 : Cond.selects RX7 yX7_alike yX7_alike ∈ wsG := inG 968 (by decide +kernel) (by decide +kernel)
set_option maxRecDepth 20000 in
theorem w969 : Cond.code yX7_alike cX7_alike 4 (some .int) ∈ wsG := inG 969 (by decide +kernel) (by decide +kernel)
set_option maxRecDepth 20000 in
theorem w970 : Cond.methodLink RL 52 yX7_starts ∈ wsG := inG 970 (by decide +kernel) (by decide +kernel)
set_option maxRecDepth 20000 in
theorem w971 : Cond.instanceMethod yX7_starts ∈ wsG := inG 971 (by decide +kernel) (by decide +kernel)
set_option maxRecDepth 20000 in
theorem w972 : Cond.selects RX7 yX7_starts yX7_starts ∈ wsG := inG 972 (by decide +kernel) (by decide +kernel)
set_option maxRecDepth 20000 in
theorem w973 : Cond.code yX7_starts cX7_starts 4 (some .int) ∈ wsG := inG 973 (by decide +kernel) (by decide +kernel)
set_option maxRecDepth 20000 in
theorem w974 : Cond.methodLink RX7 132 yX7_againstStates ∈ wsG := inG 974 (by decide +kernel) (by decide +kernel)
set_option maxRecDepth 20000 in
theorem w976 : Cond.instanceMethod yX7_againstStates ∈ wsG := inG 976 (by decide +kernel) (by decide +kernel)
set_option maxRecDepth 20000 in
theorem w977 : Cond.code yX7_againstStates cX7_againstStates 2 (some .int) ∈ wsG := inG 977 (by decide +kernel) (by decide +kernel)
set_option maxRecDepth 20000 in
theorem w978 : Cond.methodLink RL 56 yX7_next ∈ wsG := inG 978 (by decide +kernel) (by decide +kernel)
set_option maxRecDepth 20000 in
theorem w979 : Cond.instanceMethod yX7_next ∈ wsG := inG 979 (by decide +kernel) (by decide +kernel)
set_option maxRecDepth 20000 in
theorem w980 : Cond.selects RX7 yX7_next yX7_next ∈ wsG := inG 980 (by decide +kernel) (by decide +kernel)
set_option maxRecDepth 20000 in
theorem w981 : Cond.code yX7_next cX7_next 4 (some .int) ∈ wsG := inG 981 (by decide +kernel) (by decide +kernel)
set_option maxRecDepth 20000 in
theorem w982 : Cond.methodLink RL 60 yX7_claim ∈ wsG := inG 982 (by decide +kernel) (by decide +kernel)
set_option maxRecDepth 20000 in
theorem w983 : Cond.instanceMethod yX7_claim ∈ wsG := inG 983 (by decide +kernel) (by decide +kernel)
set_option maxRecDepth 20000 in
theorem w984 : Cond.selects RX7 yX7_claim yX7_claim ∈ wsG := inG 984 (by decide +kernel) (by decide +kernel)
set_option maxRecDepth 20000 in
theorem w985 : Cond.code yX7_claim cX7_claim 4 (some .int) ∈ wsG := inG 985 (by decide +kernel) (by decide +kernel)
set_option maxRecDepth 20000 in
theorem w986 : Cond.methodLink RL 64 yX7_step ∈ wsG := inG 986 (by decide +kernel) (by decide +kernel)
set_option maxRecDepth 20000 in
theorem w987 : Cond.instanceMethod yX7_step ∈ wsG := inG 987 (by decide +kernel) (by decide +kernel)
set_option maxRecDepth 20000 in
theorem w988 : Cond.selects RX7 yX7_step yX7_step ∈ wsG := inG 988 (by decide +kernel) (by decide +kernel)
set_option maxRecDepth 20000 in
theorem w989 : Cond.code yX7_step cX7_step 3 (some .int) ∈ wsG := inG 989 (by decide +kernel) (by decide +kernel)
set_option maxRecDepth 20000 in
theorem w990 : Cond.methodLink RX7 139 yX7_stepOf ∈ wsG := inG 990 (by decide +kernel) (by decide +kernel)
set_option maxRecDepth 20000 in
theorem w992 : Cond.instanceMethod yX7_stepOf ∈ wsG := inG 992 (by decide +kernel) (by decide +kernel)
set_option maxRecDepth 20000 in
theorem w993 : Cond.code yX7_stepOf cX7_stepOf 5 (some .int) ∈ wsG := inG 993 (by decide +kernel) (by decide +kernel)
set_option maxRecDepth 20000 in
theorem w994 : Cond.methodLink RL 68 yX7_before ∈ wsG := inG 994 (by decide +kernel) (by decide +kernel)
set_option maxRecDepth 20000 in
theorem w995 : Cond.instanceMethod yX7_before ∈ wsG := inG 995 (by decide +kernel) (by decide +kernel)
set_option maxRecDepth 20000 in
theorem w996 : Cond.selects RX7 yX7_before yX7_before ∈ wsG := inG 996 (by decide +kernel) (by decide +kernel)
set_option maxRecDepth 20000 in
theorem w997 : Cond.code yX7_before cX7_before 2 (some .int) ∈ wsG := inG 997 (by decide +kernel) (by decide +kernel)
set_option maxRecDepth 20000 in
theorem w998 : Cond.methodLink RX7 142 yX7_beforeOf ∈ wsG := inG 998 (by decide +kernel) (by decide +kernel)
set_option maxRecDepth 20000 in
theorem w1000 : Cond.instanceMethod yX7_beforeOf ∈ wsG := inG 1000 (by decide +kernel) (by decide +kernel)
set_option maxRecDepth 20000 in
theorem w1001 : Cond.code yX7_beforeOf cX7_beforeOf 5 (some .int) ∈ wsG := inG 1001 (by decide +kernel) (by decide +kernel)
set_option maxRecDepth 20000 in
theorem w1002 : Cond.methodLink RL 72 yX7_distance ∈ wsG := inG 1002 (by decide +kernel) (by decide +kernel)
set_option maxRecDepth 20000 in
theorem w1003 : Cond.instanceMethod yX7_distance ∈ wsG := inG 1003 (by decide +kernel) (by decide +kernel)
set_option maxRecDepth 20000 in
theorem w1004 : Cond.selects RX7 yX7_distance yX7_distance ∈ wsG := inG 1004 (by decide +kernel) (by decide +kernel)
set_option maxRecDepth 20000 in
theorem w1005 : Cond.code yX7_distance cX7_distance 2 (some .int) ∈ wsG := inG 1005 (by decide +kernel) (by decide +kernel)
set_option maxRecDepth 20000 in
theorem w1006 : Cond.methodLink RX7 149 yX7_findFar ∈ wsG := inG 1006 (by decide +kernel) (by decide +kernel)
set_option maxRecDepth 20000 in
theorem w1008 : Cond.instanceMethod yX7_findFar ∈ wsG := inG 1008 (by decide +kernel) (by decide +kernel)
set_option maxRecDepth 20000 in
theorem w1009 : Cond.code yX7_findFar cX7_findFar 5 none ∈ wsG := inG 1009 (by decide +kernel) (by decide +kernel)
set_option maxRecDepth 20000 in
theorem w1010 : Cond.methodLink RX7 145 yX7_startSet ∈ wsG := inG 1010 (by decide +kernel) (by decide +kernel)
set_option maxRecDepth 20000 in
theorem w1012 : Cond.instanceMethod yX7_startSet ∈ wsG := inG 1012 (by decide +kernel) (by decide +kernel)
set_option maxRecDepth 20000 in
theorem w1013 : Cond.code yX7_startSet cX7_startSet 1 (some .int) ∈ wsG := inG 1013 (by decide +kernel) (by decide +kernel)
set_option maxRecDepth 20000 in
theorem w1014 : Cond.constant RX7 131 (65535) ∈ wsG := inG 1014 (by decide +kernel) (by decide +kernel)
set_option maxRecDepth 20000 in
theorem w1015 : Cond.methodLink RL 76 yX7_met ∈ wsG := inG 1015 (by decide +kernel) (by decide +kernel)
set_option maxRecDepth 20000 in
theorem w1016 : Cond.instanceMethod yX7_met ∈ wsG := inG 1016 (by decide +kernel) (by decide +kernel)
set_option maxRecDepth 20000 in
theorem w1017 : Cond.selects RX7 yX7_met yX7_met ∈ wsG := inG 1017 (by decide +kernel) (by decide +kernel)
set_option maxRecDepth 20000 in
theorem w1018 : Cond.code yX7_met cX7_met 2 (some .int) ∈ wsG := inG 1018 (by decide +kernel) (by decide +kernel)
set_option maxRecDepth 20000 in
theorem w1019 : Cond.methodLink RX7 155 yX7_metSet ∈ wsG := inG 1019 (by decide +kernel) (by decide +kernel)
set_option maxRecDepth 20000 in
theorem w1021 : Cond.instanceMethod yX7_metSet ∈ wsG := inG 1021 (by decide +kernel) (by decide +kernel)
set_option maxRecDepth 20000 in
theorem w1022 : Cond.code yX7_metSet cX7_metSet 3 (some .int) ∈ wsG := inG 1022 (by decide +kernel) (by decide +kernel)
set_option maxRecDepth 20000 in
theorem w1023 : Cond.methodLink RX7 158 yX7_sizeOf ∈ wsG := inG 1023 (by decide +kernel) (by decide +kernel)
set_option maxRecDepth 20000 in
theorem w1024 : Cond.static yX7_sizeOf ∈ wsG := inG 1024 (by decide +kernel) (by decide +kernel)
set_option maxRecDepth 20000 in
theorem w1025 : Cond.code yX7_sizeOf cX7_sizeOf 3 (some .int) ∈ wsG := inG 1025 (by decide +kernel) (by decide +kernel)
set_option maxRecDepth 20000 in
theorem w1026 : Cond.methodLink RX7 161 yX7_greatestFar ∈ wsG := inG 1026 (by decide +kernel) (by decide +kernel)
set_option maxRecDepth 20000 in
theorem w1028 : Cond.instanceMethod yX7_greatestFar ∈ wsG := inG 1028 (by decide +kernel) (by decide +kernel)
set_option maxRecDepth 20000 in
theorem w1029 : Cond.code yX7_greatestFar cX7_greatestFar 3 (some .int) ∈ wsG := inG 1029 (by decide +kernel) (by decide +kernel)
set_option maxRecDepth 20000 in
theorem w1030 : Cond.methodLink RX7 164 yX7_wayLong ∈ wsG := inG 1030 (by decide +kernel) (by decide +kernel)
set_option maxRecDepth 20000 in
theorem w1032 : Cond.instanceMethod yX7_wayLong ∈ wsG := inG 1032 (by decide +kernel) (by decide +kernel)
set_option maxRecDepth 20000 in
theorem w1033 : Cond.code yX7_wayLong cX7_wayLong 4 (some .int) ∈ wsG := inG 1033 (by decide +kernel) (by decide +kernel)
set_option maxRecDepth 20000 in
theorem w1034 : Cond.methodLink RX7 152 yX7_brokenSet ∈ wsG := inG 1034 (by decide +kernel) (by decide +kernel)
set_option maxRecDepth 20000 in
theorem w1036 : Cond.instanceMethod yX7_brokenSet ∈ wsG := inG 1036 (by decide +kernel) (by decide +kernel)
set_option maxRecDepth 20000 in
theorem w1037 : Cond.code yX7_brokenSet cX7_brokenSet 1 (some .int) ∈ wsG := inG 1037 (by decide +kernel) (by decide +kernel)
set_option maxRecDepth 20000 in
theorem w1038 : Cond.methodLink RL 80 yX7_way ∈ wsG := inG 1038 (by decide +kernel) (by decide +kernel)
set_option maxRecDepth 20000 in
theorem w1039 : Cond.instanceMethod yX7_way ∈ wsG := inG 1039 (by decide +kernel) (by decide +kernel)
set_option maxRecDepth 20000 in
theorem w1040 : Cond.selects RX7 yX7_way yX7_way ∈ wsG := inG 1040 (by decide +kernel) (by decide +kernel)
set_option maxRecDepth 20000 in
theorem w1041 : Cond.code yX7_way cX7_way 3 (some .int) ∈ wsG := inG 1041 (by decide +kernel) (by decide +kernel)
set_option maxRecDepth 20000 in
theorem w1042 : Cond.methodLink RX7 173 yX7_findWay ∈ wsG := inG 1042 (by decide +kernel) (by decide +kernel)
set_option maxRecDepth 20000 in
theorem w1044 : Cond.instanceMethod yX7_findWay ∈ wsG := inG 1044 (by decide +kernel) (by decide +kernel)
set_option maxRecDepth 20000 in
theorem w1045 : Cond.code yX7_findWay cX7_findWay 6 none ∈ wsG := inG 1045 (by decide +kernel) (by decide +kernel)
set_option maxRecDepth 20000 in
theorem w1046 : Cond.methodLink RX7 170 yX7_cameFrom ∈ wsG := inG 1046 (by decide +kernel) (by decide +kernel)
set_option maxRecDepth 20000 in
theorem w1048 : Cond.instanceMethod yX7_cameFrom ∈ wsG := inG 1048 (by decide +kernel) (by decide +kernel)
set_option maxRecDepth 20000 in
theorem w1049 : Cond.code yX7_cameFrom cX7_cameFrom 6 (some .int) ∈ wsG := inG 1049 (by decide +kernel) (by decide +kernel)
set_option maxRecDepth 20000 in
theorem w1050 : Cond.methodLink RL 84 yX7_loose ∈ wsG := inG 1050 (by decide +kernel) (by decide +kernel)
set_option maxRecDepth 20000 in
theorem w1051 : Cond.instanceMethod yX7_loose ∈ wsG := inG 1051 (by decide +kernel) (by decide +kernel)
set_option maxRecDepth 20000 in
theorem w1052 : Cond.selects RX7 yX7_loose yX7_loose ∈ wsG := inG 1052 (by decide +kernel) (by decide +kernel)
set_option maxRecDepth 20000 in
theorem w1053 : Cond.code yX7_loose cX7_loose 7 (some .int) ∈ wsG := inG 1053 (by decide +kernel) (by decide +kernel)
set_option maxRecDepth 20000 in
theorem w1054 : Cond.methodLink RX7 176 yX7_isStillBroken ∈ wsG := inG 1054 (by decide +kernel) (by decide +kernel)
set_option maxRecDepth 20000 in
theorem w1056 : Cond.instanceMethod yX7_isStillBroken ∈ wsG := inG 1056 (by decide +kernel) (by decide +kernel)
set_option maxRecDepth 20000 in
theorem w1057 : Cond.code yX7_isStillBroken cX7_isStillBroken 6 (some .boolean) ∈ wsG := inG 1057 (by decide +kernel) (by decide +kernel)
set_option maxRecDepth 20000 in
theorem w1058 : Cond.methodLink RL 88 yX7_cone ∈ wsG := inG 1058 (by decide +kernel) (by decide +kernel)
set_option maxRecDepth 20000 in
theorem w1059 : Cond.instanceMethod yX7_cone ∈ wsG := inG 1059 (by decide +kernel) (by decide +kernel)
set_option maxRecDepth 20000 in
theorem w1060 : Cond.selects RX7 yX7_cone yX7_cone ∈ wsG := inG 1060 (by decide +kernel) (by decide +kernel)
set_option maxRecDepth 20000 in
theorem w1061 : Cond.code yX7_cone cX7_cone 7 (some .int) ∈ wsG := inG 1061 (by decide +kernel) (by decide +kernel)
set_option maxRecDepth 20000 in
theorem w1062 : Cond.methodLink RL 92 yX7_clear ∈ wsG := inG 1062 (by decide +kernel) (by decide +kernel)
set_option maxRecDepth 20000 in
theorem w1063 : Cond.instanceMethod yX7_clear ∈ wsG := inG 1063 (by decide +kernel) (by decide +kernel)
set_option maxRecDepth 20000 in
theorem w1064 : Cond.selects RX7 yX7_clear yX7_clear ∈ wsG := inG 1064 (by decide +kernel) (by decide +kernel)
set_option maxRecDepth 20000 in
theorem w1065 : Cond.code yX7_clear cX7_clear 2 (some .int) ∈ wsG := inG 1065 (by decide +kernel) (by decide +kernel)
set_option maxRecDepth 20000 in
theorem w1066 : Cond.methodLink RX7 182 yX7_isClear ∈ wsG := inG 1066 (by decide +kernel) (by decide +kernel)
set_option maxRecDepth 20000 in
theorem w1068 : Cond.instanceMethod yX7_isClear ∈ wsG := inG 1068 (by decide +kernel) (by decide +kernel)
set_option maxRecDepth 20000 in
theorem w1069 : Cond.code yX7_isClear cX7_isClear 3 (some .boolean) ∈ wsG := inG 1069 (by decide +kernel) (by decide +kernel)
set_option maxRecDepth 20000 in
theorem w1070 : Cond.methodLink RL 96 yX7_shut ∈ wsG := inG 1070 (by decide +kernel) (by decide +kernel)
set_option maxRecDepth 20000 in
theorem w1071 : Cond.instanceMethod yX7_shut ∈ wsG := inG 1071 (by decide +kernel) (by decide +kernel)
set_option maxRecDepth 20000 in
theorem w1072 : Cond.selects RX7 yX7_shut yX7_shut ∈ wsG := inG 1072 (by decide +kernel) (by decide +kernel)
set_option maxRecDepth 20000 in
theorem w1073 : Cond.code yX7_shut cX7_shut 2 (some .int) ∈ wsG := inG 1073 (by decide +kernel) (by decide +kernel)
set_option maxRecDepth 20000 in
theorem w1074 : Cond.methodLink RX7 207 yX7_findChain ∈ wsG := inG 1074 (by decide +kernel) (by decide +kernel)
set_option maxRecDepth 20000 in
theorem w1076 : Cond.instanceMethod yX7_findChain ∈ wsG := inG 1076 (by decide +kernel) (by decide +kernel)
set_option maxRecDepth 20000 in
theorem w1077 : Cond.code yX7_findChain cX7_findChain 4 (some .boolean) ∈ wsG := inG 1077 (by decide +kernel) (by decide +kernel)
set_option maxRecDepth 20000 in
theorem w1078 : Cond.methodLink RX7 198 yX7_goodSet ∈ wsG := inG 1078 (by decide +kernel) (by decide +kernel)
set_option maxRecDepth 20000 in
theorem w1080 : Cond.instanceMethod yX7_goodSet ∈ wsG := inG 1080 (by decide +kernel) (by decide +kernel)
set_option maxRecDepth 20000 in
theorem w1081 : Cond.code yX7_goodSet cX7_goodSet 1 (some .int) ∈ wsG := inG 1081 (by decide +kernel) (by decide +kernel)
set_option maxRecDepth 20000 in
theorem w1082 : Cond.methodLink RX7 179 yX7_inAll ∈ wsG := inG 1082 (by decide +kernel) (by decide +kernel)
set_option maxRecDepth 20000 in
theorem w1084 : Cond.instanceMethod yX7_inAll ∈ wsG := inG 1084 (by decide +kernel) (by decide +kernel)
set_option maxRecDepth 20000 in
theorem w1085 : Cond.code yX7_inAll cX7_inAll 3 (some .int) ∈ wsG := inG 1085 (by decide +kernel) (by decide +kernel)
set_option maxRecDepth 20000 in
theorem w1086 : Cond.methodLink RX7 201 yX7_lastSet ∈ wsG := inG 1086 (by decide +kernel) (by decide +kernel)
set_option maxRecDepth 20000 in
theorem w1088 : Cond.instanceMethod yX7_lastSet ∈ wsG := inG 1088 (by decide +kernel) (by decide +kernel)
set_option maxRecDepth 20000 in
theorem w1089 : Cond.code yX7_lastSet cX7_lastSet 1 (some .int) ∈ wsG := inG 1089 (by decide +kernel) (by decide +kernel)
set_option maxRecDepth 20000 in
theorem w1090 : Cond.methodLink RX7 204 yX7_extend ∈ wsG := inG 1090 (by decide +kernel) (by decide +kernel)
set_option maxRecDepth 20000 in
theorem w1092 : Cond.instanceMethod yX7_extend ∈ wsG := inG 1092 (by decide +kernel) (by decide +kernel)
set_option maxRecDepth 20000 in
theorem w1093 : Cond.code yX7_extend cX7_extend 4 (some .boolean) ∈ wsG := inG 1093 (by decide +kernel) (by decide +kernel)
set_option maxRecDepth 20000 in
theorem w1094 : Cond.methodLink RX7 195 yX7_nextRow ∈ wsG := inG 1094 (by decide +kernel) (by decide +kernel)
set_option maxRecDepth 20000 in
theorem w1096 : Cond.instanceMethod yX7_nextRow ∈ wsG := inG 1096 (by decide +kernel) (by decide +kernel)
set_option maxRecDepth 20000 in
theorem w1097 : Cond.code yX7_nextRow cX7_nextRow 8 (some .int) ∈ wsG := inG 1097 (by decide +kernel) (by decide +kernel)
set_option maxRecDepth 20000 in
theorem w1098 : Cond.methodLink RX7 191 yX7_isNew ∈ wsG := inG 1098 (by decide +kernel) (by decide +kernel)
set_option maxRecDepth 20000 in
theorem w1100 : Cond.instanceMethod yX7_isNew ∈ wsG := inG 1100 (by decide +kernel) (by decide +kernel)
set_option maxRecDepth 20000 in
theorem w1101 : Cond.code yX7_isNew cX7_isNew 4 (some .boolean) ∈ wsG := inG 1101 (by decide +kernel) (by decide +kernel)
set_option maxRecDepth 20000 in
theorem w1102 : Cond.methodLink RL 100 yX7_settle ∈ wsG := inG 1102 (by decide +kernel) (by decide +kernel)
set_option maxRecDepth 20000 in
theorem w1103 : Cond.instanceMethod yX7_settle ∈ wsG := inG 1103 (by decide +kernel) (by decide +kernel)
set_option maxRecDepth 20000 in
theorem w1104 : Cond.selects RX7 yX7_settle yX7_settle ∈ wsG := inG 1104 (by decide +kernel) (by decide +kernel)
set_option maxRecDepth 20000 in
theorem w1105 : Cond.code yX7_settle cX7_settle 3 (some .int) ∈ wsG := inG 1105 (by decide +kernel) (by decide +kernel)
set_option maxRecDepth 20000 in
theorem w1106 : Cond.methodLink RL 104 yX7_chain ∈ wsG := inG 1106 (by decide +kernel) (by decide +kernel)
set_option maxRecDepth 20000 in
theorem w1107 : Cond.instanceMethod yX7_chain ∈ wsG := inG 1107 (by decide +kernel) (by decide +kernel)
set_option maxRecDepth 20000 in
theorem w1108 : Cond.selects RX7 yX7_chain yX7_chain ∈ wsG := inG 1108 (by decide +kernel) (by decide +kernel)
set_option maxRecDepth 20000 in
theorem w1109 : Cond.code yX7_chain cX7_chain 4 (some .int) ∈ wsG := inG 1109 (by decide +kernel) (by decide +kernel)
set_option maxRecDepth 20000 in
theorem w1110 : Cond.methodLink RL 108 yX7_weak ∈ wsG := inG 1110 (by decide +kernel) (by decide +kernel)
set_option maxRecDepth 20000 in
theorem w1111 : Cond.instanceMethod yX7_weak ∈ wsG := inG 1111 (by decide +kernel) (by decide +kernel)
set_option maxRecDepth 20000 in
theorem w1112 : Cond.selects RX7 yX7_weak yX7_weak ∈ wsG := inG 1112 (by decide +kernel) (by decide +kernel)
set_option maxRecDepth 20000 in
theorem w1113 : Cond.code yX7_weak cX7_weak 2 (some .int) ∈ wsG := inG 1113 (by decide +kernel) (by decide +kernel)
set_option maxRecDepth 20000 in
theorem w1114 : Cond.methodLink RX7 210 yX7_weakSet ∈ wsG := inG 1114 (by decide +kernel) (by decide +kernel)
set_option maxRecDepth 20000 in
theorem w1116 : Cond.instanceMethod yX7_weakSet ∈ wsG := inG 1116 (by decide +kernel) (by decide +kernel)
set_option maxRecDepth 20000 in
theorem w1117 : Cond.code yX7_weakSet cX7_weakSet 5 (some .int) ∈ wsG := inG 1117 (by decide +kernel) (by decide +kernel)
set_option maxRecDepth 20000 in
theorem w1118 : Cond.methodLink RL 113 yX7_strengthen ∈ wsG := inG 1118 (by decide +kernel) (by decide +kernel)
set_option maxRecDepth 20000 in
theorem w1119 : Cond.instanceMethod yX7_strengthen ∈ wsG := inG 1119 (by decide +kernel) (by decide +kernel)
set_option maxRecDepth 20000 in
theorem w1120 : Cond.selects RX7 yX7_strengthen yX7_strengthen ∈ wsG := inG 1120 (by decide +kernel) (by decide +kernel)
set_option maxRecDepth 20000 in
theorem w1121 : Cond.code yX7_strengthen cX7_strengthen 6 (some .int) ∈ wsG := inG 1121 (by decide +kernel) (by decide +kernel)
set_option maxRecDepth 20000 in
theorem w1122 : Cond.methodLink RX7 216 yX7_firstWeak ∈ wsG := inG 1122 (by decide +kernel) (by decide +kernel)
set_option maxRecDepth 20000 in
theorem w1124 : Cond.instanceMethod yX7_firstWeak ∈ wsG := inG 1124 (by decide +kernel) (by decide +kernel)
set_option maxRecDepth 20000 in
theorem w1125 : Cond.code yX7_firstWeak cX7_firstWeak 3 (some .int) ∈ wsG := inG 1125 (by decide +kernel) (by decide +kernel)
set_option maxRecDepth 20000 in
theorem w1126 : Cond.methodLink RX7 213 yX7_isFit ∈ wsG := inG 1126 (by decide +kernel) (by decide +kernel)
set_option maxRecDepth 20000 in
theorem w1128 : Cond.instanceMethod yX7_isFit ∈ wsG := inG 1128 (by decide +kernel) (by decide +kernel)
set_option maxRecDepth 20000 in
theorem w1129 : Cond.code yX7_isFit cX7_isFit 5 (some .boolean) ∈ wsG := inG 1129 (by decide +kernel) (by decide +kernel)
set_option maxRecDepth 20000 in
theorem w1130 : Cond.methodLink RX7 219 yX7_outside ∈ wsG := inG 1130 (by decide +kernel) (by decide +kernel)
set_option maxRecDepth 20000 in
theorem w1131 : Cond.static yX7_outside ∈ wsG := inG 1131 (by decide +kernel) (by decide +kernel)
set_option maxRecDepth 20000 in
theorem w1132 : Cond.code yX7_outside cX7_outside 4 (some .int) ∈ wsG := inG 1132 (by decide +kernel) (by decide +kernel)
set_option maxRecDepth 20000 in
theorem w1133 : Cond.methodLink RX7 222 yX7_notes ∈ wsG := inG 1133 (by decide +kernel) (by decide +kernel)
set_option maxRecDepth 20000 in
theorem w1135 : Cond.instanceMethod yX7_notes ∈ wsG := inG 1135 (by decide +kernel) (by decide +kernel)
set_option maxRecDepth 20000 in
theorem w1136 : Cond.code yX7_notes cX7_notes 3 (some .int) ∈ wsG := inG 1136 (by decide +kernel) (by decide +kernel)
set_option maxRecDepth 20000 in
theorem w1137 : Cond.methodLink RL 117 yX7_lemma ∈ wsG := inG 1137 (by decide +kernel) (by decide +kernel)
set_option maxRecDepth 20000 in
theorem w1138 : Cond.instanceMethod yX7_lemma ∈ wsG := inG 1138 (by decide +kernel) (by decide +kernel)
set_option maxRecDepth 20000 in
theorem w1139 : Cond.selects RX7 yX7_lemma yX7_lemma ∈ wsG := inG 1139 (by decide +kernel) (by decide +kernel)
set_option maxRecDepth 20000 in
theorem w1140 : Cond.code yX7_lemma cX7_lemma 3 (some .int) ∈ wsG := inG 1140 (by decide +kernel) (by decide +kernel)
set_option maxRecDepth 20000 in
theorem w1141 : Cond.methodLink RX7 225 yX7_lemmaBy ∈ wsG := inG 1141 (by decide +kernel) (by decide +kernel)
set_option maxRecDepth 20000 in
theorem w1143 : Cond.instanceMethod yX7_lemmaBy ∈ wsG := inG 1143 (by decide +kernel) (by decide +kernel)
set_option maxRecDepth 20000 in
theorem w1144 : Cond.code yX7_lemmaBy cX7_lemmaBy 2 (some .int) ∈ wsG := inG 1144 (by decide +kernel) (by decide +kernel)
set_option maxRecDepth 20000 in
theorem w1145 : Cond.methodLink RL 121 yX7_block ∈ wsG := inG 1145 (by decide +kernel) (by decide +kernel)
set_option maxRecDepth 20000 in
theorem w1146 : Cond.instanceMethod yX7_block ∈ wsG := inG 1146 (by decide +kernel) (by decide +kernel)
set_option maxRecDepth 20000 in
theorem w1147 : Cond.selects RX7 yX7_block yX7_block ∈ wsG := inG 1147 (by decide +kernel) (by decide +kernel)
set_option maxRecDepth 20000 in
theorem w1148 : Cond.code yX7_block cX7_block 5 (some .int) ∈ wsG := inG 1148 (by decide +kernel) (by decide +kernel)
set_option maxRecDepth 20000 in
theorem w1149 : Cond.methodLink RX7 228 yX7_isBox ∈ wsG := inG 1149 (by decide +kernel) (by decide +kernel)
set_option maxRecDepth 20000 in
theorem w1150 : Cond.static yX7_isBox ∈ wsG := inG 1150 (by decide +kernel) (by decide +kernel)
set_option maxRecDepth 20000 in
theorem w1151 : Cond.code yX7_isBox cX7_isBox 1 (some .boolean) ∈ wsG := inG 1151 (by decide +kernel) (by decide +kernel)
set_option maxRecDepth 20000 in
theorem w1152 : Cond.methodLink RX7 231 yX7_fails ∈ wsG := inG 1152 (by decide +kernel) (by decide +kernel)
set_option maxRecDepth 20000 in
theorem w1154 : Cond.instanceMethod yX7_fails ∈ wsG := inG 1154 (by decide +kernel) (by decide +kernel)
set_option maxRecDepth 20000 in
theorem w1155 : Cond.code yX7_fails cX7_fails 2 (some .int) ∈ wsG := inG 1155 (by decide +kernel) (by decide +kernel)
set_option maxRecDepth 20000 in
theorem w1156 : Cond.methodLink RL 125 yX7_back ∈ wsG := inG 1156 (by decide +kernel) (by decide +kernel)
set_option maxRecDepth 20000 in
theorem w1157 : Cond.instanceMethod yX7_back ∈ wsG := inG 1157 (by decide +kernel) (by decide +kernel)
set_option maxRecDepth 20000 in
theorem w1158 : Cond.selects RX7 yX7_back yX7_back ∈ wsG := inG 1158 (by decide +kernel) (by decide +kernel)
set_option maxRecDepth 20000 in
theorem w1159 : Cond.code yX7_back cX7_back 1 (some .int) ∈ wsG := inG 1159 (by decide +kernel) (by decide +kernel)
set_option maxRecDepth 20000 in
theorem w1160 : Cond.methodLink RL 129 yX7_ofLemma ∈ wsG := inG 1160 (by decide +kernel) (by decide +kernel)
set_option maxRecDepth 20000 in
theorem w1161 : Cond.instanceMethod yX7_ofLemma ∈ wsG := inG 1161 (by decide +kernel) (by decide +kernel)
set_option maxRecDepth 20000 in
theorem w1162 : Cond.selects RX7 yX7_ofLemma yX7_ofLemma ∈ wsG := inG 1162 (by decide +kernel) (by decide +kernel)
set_option maxRecDepth 20000 in
theorem w1163 : Cond.code yX7_ofLemma cX7_ofLemma 3 (some .int) ∈ wsG := inG 1163 (by decide +kernel) (by decide +kernel)
set_option maxRecDepth 20000 in
theorem w1164 : Cond.methodLink RL 133 yX7_closed ∈ wsG := inG 1164 (by decide +kernel) (by decide +kernel)
set_option maxRecDepth 20000 in
theorem w1165 : Cond.instanceMethod yX7_closed ∈ wsG := inG 1165 (by decide +kernel) (by decide +kernel)
set_option maxRecDepth 20000 in
theorem w1166 : Cond.selects RX7 yX7_closed yX7_closed ∈ wsG := inG 1166 (by decide +kernel) (by decide +kernel)
set_option maxRecDepth 20000 in
theorem w1167 : Cond.code yX7_closed cX7_closed 1 (some .int) ∈ wsG := inG 1167 (by decide +kernel) (by decide +kernel)
set_option maxRecDepth 20000 in
theorem w1168 : Cond.methodLink RL 137 yX7_chance ∈ wsG := inG 1168 (by decide +kernel) (by decide +kernel)
set_option maxRecDepth 20000 in
theorem w1169 : Cond.instanceMethod yX7_chance ∈ wsG := inG 1169 (by decide +kernel) (by decide +kernel)
set_option maxRecDepth 20000 in
theorem w1170 : Cond.selects RX7 yX7_chance yX7_chance ∈ wsG := inG 1170 (by decide +kernel) (by decide +kernel)
set_option maxRecDepth 20000 in
theorem w1171 : Cond.code yX7_chance cX7_chance 8 (some .int) ∈ wsG := inG 1171 (by decide +kernel) (by decide +kernel)
set_option maxRecDepth 20000 in
theorem w1172 : Cond.methodLink RX7 236 yX7_nearestBits ∈ wsG := inG 1172 (by decide +kernel) (by decide +kernel)
set_option maxRecDepth 20000 in
theorem w1173 : Cond.static yX7_nearestBits ∈ wsG := inG 1173 (by decide +kernel) (by decide +kernel)
set_option maxRecDepth 20000 in
theorem w1174 : Cond.code yX7_nearestBits cX7_nearestBits 13 (some .long) ∈ wsG := inG 1174 (by decide +kernel) (by decide +kernel)
set_option maxRecDepth 20000 in
theorem w1175 : Cond.constantLong RX7 234 (2) ∈ wsG := inG 1175 (by decide +kernel) (by decide +kernel)
set_option maxRecDepth 20000 in
theorem w1176 : Cond.methodLink RL 142 yX7_mean ∈ wsG := inG 1176 (by decide +kernel) (by decide +kernel)
set_option maxRecDepth 20000 in
theorem w1177 : Cond.instanceMethod yX7_mean ∈ wsG := inG 1177 (by decide +kernel) (by decide +kernel)
set_option maxRecDepth 20000 in
theorem w1178 : Cond.selects RX7 yX7_mean yX7_mean ∈ wsG := inG 1178 (by decide +kernel) (by decide +kernel)
set_option maxRecDepth 20000 in
theorem w1179 : Cond.code yX7_mean cX7_mean 4 (some .long) ∈ wsG := inG 1179 (by decide +kernel) (by decide +kernel)
set_option maxRecDepth 20000 in
theorem w1180 : Cond.methodLink RL 146 yX7_box ∈ wsG := inG 1180 (by decide +kernel) (by decide +kernel)
set_option maxRecDepth 20000 in
theorem w1181 : Cond.instanceMethod yX7_box ∈ wsG := inG 1181 (by decide +kernel) (by decide +kernel)
set_option maxRecDepth 20000 in
theorem w1182 : Cond.selects RX7 yX7_box yX7_box ∈ wsG := inG 1182 (by decide +kernel) (by decide +kernel)
set_option maxRecDepth 20000 in
theorem w1183 : Cond.code yX7_box cX7_box 5 (some .int) ∈ wsG := inG 1183 (by decide +kernel) (by decide +kernel)
set_option maxRecDepth 20000 in
theorem w1184 : Cond.methodLink RL 150 yX7_lay ∈ wsG := inG 1184 (by decide +kernel) (by decide +kernel)
set_option maxRecDepth 20000 in
theorem w1185 : Cond.instanceMethod yX7_lay ∈ wsG := inG 1185 (by decide +kernel) (by decide +kernel)
set_option maxRecDepth 20000 in
theorem w1186 : Cond.selects RX7 yX7_lay yX7_lay ∈ wsG := inG 1186 (by decide +kernel) (by decide +kernel)
set_option maxRecDepth 20000 in
theorem w1187 : Cond.code yX7_lay cX7_lay 4 (some .int) ∈ wsG := inG 1187 (by decide +kernel) (by decide +kernel)
set_option maxRecDepth 20000 in
theorem w1188 : Cond.methodLink RX7 240 yX7_goesTo ∈ wsG := inG 1188 (by decide +kernel) (by decide +kernel)
set_option maxRecDepth 20000 in
theorem w1190 : Cond.instanceMethod yX7_goesTo ∈ wsG := inG 1190 (by decide +kernel) (by decide +kernel)
set_option maxRecDepth 20000 in
theorem w1191 : Cond.code yX7_goesTo cX7_goesTo 3 (some .boolean) ∈ wsG := inG 1191 (by decide +kernel) (by decide +kernel)
set_option maxRecDepth 20000 in
theorem w1192 : Cond.methodLink RL 154 yX7_take ∈ wsG := inG 1192 (by decide +kernel) (by decide +kernel)
set_option maxRecDepth 20000 in
theorem w1193 : Cond.instanceMethod yX7_take ∈ wsG := inG 1193 (by decide +kernel) (by decide +kernel)
set_option maxRecDepth 20000 in
theorem w1194 : Cond.selects RX7 yX7_take yX7_take ∈ wsG := inG 1194 (by decide +kernel) (by decide +kernel)
set_option maxRecDepth 20000 in
theorem w1195 : Cond.code yX7_take cX7_take 3 (some .int) ∈ wsG := inG 1195 (by decide +kernel) (by decide +kernel)
set_option maxRecDepth 20000 in
theorem w1196 : Cond.methodLink RL 158 yX7_same ∈ wsG := inG 1196 (by decide +kernel) (by decide +kernel)
set_option maxRecDepth 20000 in
theorem w1197 : Cond.instanceMethod yX7_same ∈ wsG := inG 1197 (by decide +kernel) (by decide +kernel)
set_option maxRecDepth 20000 in
theorem w1198 : Cond.selects RX7 yX7_same yX7_same ∈ wsG := inG 1198 (by decide +kernel) (by decide +kernel)
set_option maxRecDepth 20000 in
theorem w1199 : Cond.code yX7_same cX7_same 4 (some .int) ∈ wsG := inG 1199 (by decide +kernel) (by decide +kernel)
set_option maxRecDepth 20000 in
theorem w1200 : Cond.methodLink RL 163 yX7_move ∈ wsG := inG 1200 (by decide +kernel) (by decide +kernel)
set_option maxRecDepth 20000 in
theorem w1201 : Cond.instanceMethod yX7_move ∈ wsG := inG 1201 (by decide +kernel) (by decide +kernel)
set_option maxRecDepth 20000 in
theorem w1202 : Cond.selects RX7 yX7_move yX7_move ∈ wsG := inG 1202 (by decide +kernel) (by decide +kernel)
set_option maxRecDepth 20000 in
theorem w1203 : Cond.code yX7_move cX7_move 8 (some .int) ∈ wsG := inG 1203 (by decide +kernel) (by decide +kernel)
set_option maxRecDepth 20000 in
theorem w1204 : Cond.methodLink RL 167 yX7_states ∈ wsG := inG 1204 (by decide +kernel) (by decide +kernel)
set_option maxRecDepth 20000 in
theorem w1205 : Cond.instanceMethod yX7_states ∈ wsG := inG 1205 (by decide +kernel) (by decide +kernel)
set_option maxRecDepth 20000 in
theorem w1206 : Cond.selects RX7 yX7_states yX7_states ∈ wsG := inG 1206 (by decide +kernel) (by decide +kernel)
set_option maxRecDepth 20000 in
theorem w1207 : Cond.code yX7_states cX7_states 7 (some .int) ∈ wsG := inG 1207 (by decide +kernel) (by decide +kernel)
set_option maxRecDepth 20000 in
theorem w1208 : Cond.methodLink RL 171 yX7_lose ∈ wsG := inG 1208 (by decide +kernel) (by decide +kernel)
set_option maxRecDepth 20000 in
theorem w1209 : Cond.instanceMethod yX7_lose ∈ wsG := inG 1209 (by decide +kernel) (by decide +kernel)
set_option maxRecDepth 20000 in
theorem w1210 : Cond.selects RX7 yX7_lose yX7_lose ∈ wsG := inG 1210 (by decide +kernel) (by decide +kernel)
set_option maxRecDepth 20000 in
theorem w1211 : Cond.code yX7_lose cX7_lose 3 (some .int) ∈ wsG := inG 1211 (by decide +kernel) (by decide +kernel)
set_option maxRecDepth 20000 in
theorem w1212 : Cond.methodLink RL 175 yX7_fault ∈ wsG := inG 1212 (by decide +kernel) (by decide +kernel)
set_option maxRecDepth 20000 in
theorem w1213 : Cond.instanceMethod yX7_fault ∈ wsG := inG 1213 (by decide +kernel) (by decide +kernel)
set_option maxRecDepth 20000 in
theorem w1214 : Cond.selects RX7 yX7_fault yX7_fault ∈ wsG := inG 1214 (by decide +kernel) (by decide +kernel)
set_option maxRecDepth 20000 in
theorem w1215 : Cond.code yX7_fault cX7_fault 1 (some .int) ∈ wsG := inG 1215 (by decide +kernel) (by decide +kernel)
set_option maxRecDepth 20000 in
theorem w1216 : Cond.methodLink RL 179 yX7_many ∈ wsG := inG 1216 (by decide +kernel) (by decide +kernel)
set_option maxRecDepth 20000 in
theorem w1217 : Cond.instanceMethod yX7_many ∈ wsG := inG 1217 (by decide +kernel) (by decide +kernel)
set_option maxRecDepth 20000 in
theorem w1218 : Cond.selects RX7 yX7_many yX7_many ∈ wsG := inG 1218 (by decide +kernel) (by decide +kernel)
set_option maxRecDepth 20000 in
theorem w1219 : Cond.code yX7_many cX7_many 2 (some .int) ∈ wsG := inG 1219 (by decide +kernel) (by decide +kernel)
set_option maxRecDepth 20000 in
theorem w1220 : Cond.methodLink RX7 243 yX7_manyBoxes ∈ wsG := inG 1220 (by decide +kernel) (by decide +kernel)
set_option maxRecDepth 20000 in
theorem w1222 : Cond.instanceMethod yX7_manyBoxes ∈ wsG := inG 1222 (by decide +kernel) (by decide +kernel)
set_option maxRecDepth 20000 in
theorem w1223 : Cond.code yX7_manyBoxes cX7_manyBoxes 3 (some .int) ∈ wsG := inG 1223 (by decide +kernel) (by decide +kernel)
set_option maxRecDepth 20000 in
theorem iw_0 : ∀ w ∈ u_ws RX0 TX0 3, w ∈ wsG := inGs _ [347, 349, 351] (by decide +kernel) (by decide +kernel)
set_option maxRecDepth 20000 in
theorem iw_1 : ∀ w ∈ u_ws RX1 TX1 10, w ∈ wsG := inGs _ [298, 300, 302, 304, 306, 308, 310, 312, 314, 316] (by decide +kernel) (by decide +kernel)
set_option maxRecDepth 20000 in
theorem iw_2 : ∀ w ∈ u_ws RX2 TX2 5, w ∈ wsG := inGs _ [269, 271, 273, 275, 277] (by decide +kernel) (by decide +kernel)
set_option maxRecDepth 20000 in
theorem iw_3 : ∀ w ∈ u_ws RX3 TX3 15, w ∈ wsG := inGs _ [223, 225, 227, 229, 231, 233, 235, 237, 239, 241, 243, 245, 247, 249, 251] (by decide +kernel) (by decide +kernel)
set_option maxRecDepth 20000 in
theorem iw_4 : ∀ w ∈ u_ws RX4 TX4 10, w ∈ wsG := inGs _ [137, 139, 141, 143, 145, 147, 149, 151, 153, 155] (by decide +kernel) (by decide +kernel)
set_option maxRecDepth 20000 in
theorem iw_5 : ∀ w ∈ u_ws RX5 TX5 3, w ∈ wsG := inGs _ [328, 330, 332] (by decide +kernel) (by decide +kernel)
set_option maxRecDepth 20000 in
theorem iw_6 : ∀ w ∈ u_ws RX6 TX6 8, w ∈ wsG := inGs _ [362, 364, 366, 368, 370, 372, 374, 376] (by decide +kernel) (by decide +kernel)
set_option maxRecDepth 20000 in
theorem iw_7 : ∀ w ∈ u_ws RX7 TX7 30, w ∈ wsG := inGs _ [836, 838, 840, 842, 844, 846, 848, 850, 852, 854, 856, 858, 860, 862, 864, 866, 868, 870, 872, 874, 876, 878, 880, 882, 884, 886, 888, 890, 892, 894] (by decide +kernel) (by decide +kernel)
