theorem bb_t115 : Cond.code yX0_requireNode prog_1_method_19_code 1 none ∈ bb_T := bb_tb 115 (by decide +kernel) (by decide +kernel)
theorem bb_t113 : Cond.methodLink "BallotBox" 32 yX0_requireNode ∈ bb_T := bb_tb 113 (by decide +kernel) (by decide +kernel)
theorem bb_t114 : Cond.static yX0_requireNode ∈ bb_T := bb_tb 114 (by decide +kernel) (by decide +kernel)
theorem bb_t1 : Cond.initialized "BallotBox" ∈ bb_T := bb_tb 1 (by decide +kernel) (by decide +kernel)
theorem gX0_weight_X0_requireNode : GoodIn wsX0_weight (wsS RX0 32 yX0_requireNode wsX0_requireNode) := bb_gS bb_t113 bb_t114 bb_t1 bb_t115
theorem gX0_promise_X0_requireNode : GoodIn wsX0_promise (wsS RX0 32 yX0_requireNode wsX0_requireNode) := bb_gS bb_t113 bb_t114 bb_t1 bb_t115
theorem bb_t218 : Cond.code yX0_requireBallot prog_1_method_21_code 1 none ∈ bb_T := bb_tb 218 (by decide +kernel) (by decide +kernel)
theorem bb_t216 : Cond.methodLink "BallotBox" 45 yX0_requireBallot ∈ bb_T := bb_tb 216 (by decide +kernel) (by decide +kernel)
theorem bb_t217 : Cond.static yX0_requireBallot ∈ bb_T := bb_tb 217 (by decide +kernel) (by decide +kernel)
theorem gX0_promise_X0_requireBallot : GoodIn wsX0_promise (wsS RX0 45 yX0_requireBallot wsX0_requireBallot) := bb_gS bb_t216 bb_t217 bb_t1 bb_t218
theorem gX0_vote_X0_requireNode : GoodIn wsX0_vote (wsS RX0 32 yX0_requireNode wsX0_requireNode) := bb_gS bb_t113 bb_t114 bb_t1 bb_t115
theorem gX0_vote_X0_requireBallot : GoodIn wsX0_vote (wsS RX0 45 yX0_requireBallot wsX0_requireBallot) := bb_gS bb_t216 bb_t217 bb_t1 bb_t218
theorem bb_t245 : Cond.code yX0_requireValue prog_1_method_22_code 1 none ∈ bb_T := bb_tb 245 (by decide +kernel) (by decide +kernel)
theorem bb_t243 : Cond.methodLink "BallotBox" 53 yX0_requireValue ∈ bb_T := bb_tb 243 (by decide +kernel) (by decide +kernel)
theorem bb_t244 : Cond.static yX0_requireValue ∈ bb_T := bb_tb 244 (by decide +kernel) (by decide +kernel)
theorem gX0_vote_X0_requireValue : GoodIn wsX0_vote (wsS RX0 53 yX0_requireValue wsX0_requireValue) := bb_gS bb_t243 bb_t244 bb_t1 bb_t245
theorem bb_t250 : Cond.code yX0_isOpen prog_1_method_28_code 3 (some .boolean) ∈ bb_T := bb_tb 250 (by decide +kernel) (by decide +kernel)
theorem bb_t247 : Cond.methodLink "BallotBox" 56 yX0_isOpen ∈ bb_T := bb_tb 247 (by decide +kernel) (by decide +kernel)
theorem bb_t249 : Cond.instanceMethod yX0_isOpen ∈ bb_T := bb_tb 249 (by decide +kernel) (by decide +kernel)
theorem bb_sX0_isOpen : Cond.selects RX0 yX0_isOpen yX0_isOpen ∈ bb_T := bb_ts (q := (yX0_isOpen, 5)) (List.mem_of_getElem? (i := 9) (by decide +kernel))
theorem gX0_vote_X0_isOpen : GoodIn wsX0_vote (wsV RX0 56 RX0 yX0_isOpen wsX0_isOpen) := bb_gV bb_t247 bb_t249 bb_sX0_isOpen bb_t1 bb_t250
theorem bb_t255 : Cond.code yX0_isOnlyValue prog_1_method_30_code 3 (some .boolean) ∈ bb_T := bb_tb 255 (by decide +kernel) (by decide +kernel)
theorem bb_t252 : Cond.methodLink "BallotBox" 62 yX0_isOnlyValue ∈ bb_T := bb_tb 252 (by decide +kernel) (by decide +kernel)
theorem bb_t254 : Cond.instanceMethod yX0_isOnlyValue ∈ bb_T := bb_tb 254 (by decide +kernel) (by decide +kernel)
theorem bb_sX0_isOnlyValue : Cond.selects RX0 yX0_isOnlyValue yX0_isOnlyValue ∈ bb_T := bb_ts (q := (yX0_isOnlyValue, 5)) (List.mem_of_getElem? (i := 10) (by decide +kernel))
theorem gX0_vote_X0_isOnlyValue : GoodIn wsX0_vote (wsV RX0 62 RX0 yX0_isOnlyValue wsX0_isOnlyValue) := bb_gV bb_t252 bb_t254 bb_sX0_isOnlyValue bb_t1 bb_t255
theorem bb_t61 : Cond.code yJ_bitCount prog_7_method_49_code 1 (some .int) ∈ bb_T := bb_tb 61 (by decide +kernel) (by decide +kernel)
theorem bb_t59 : Cond.methodLink "BallotBox" 67 yJ_bitCount ∈ bb_T := bb_tb 59 (by decide +kernel) (by decide +kernel)
theorem bb_t60 : Cond.static yJ_bitCount ∈ bb_T := bb_tb 60 (by decide +kernel) (by decide +kernel)
theorem bb_t10 : Cond.initialized "java/lang/Integer" ∈ bb_T := bb_tb 10 (by decide +kernel) (by decide +kernel)
theorem gX0_vote_J_bitCount : GoodIn wsX0_vote (va_wsS RX0 67 yJ_bitCount wsJ_bitCount) := bb_gA bb_t59 bb_t60 bb_t10 bb_t61
theorem bb_t266 : Cond.code yX0_requireSet prog_1_method_20_code 1 none ∈ bb_T := bb_tb 266 (by decide +kernel) (by decide +kernel)
theorem bb_t264 : Cond.methodLink "BallotBox" 73 yX0_requireSet ∈ bb_T := bb_tb 264 (by decide +kernel) (by decide +kernel)
theorem bb_t265 : Cond.static yX0_requireSet ∈ bb_T := bb_tb 265 (by decide +kernel) (by decide +kernel)
theorem gX0_ask_X0_requireSet : GoodIn wsX0_ask (wsS RX0 73 yX0_requireSet wsX0_requireSet) := bb_gS bb_t264 bb_t265 bb_t1 bb_t266
theorem gX0_ask_X0_requireBallot : GoodIn wsX0_ask (wsS RX0 45 yX0_requireBallot wsX0_requireBallot) := bb_gS bb_t216 bb_t217 bb_t1 bb_t218
theorem bb_t47 : Cond.code yX0_isEnough prog_1_method_25_code 2 (some .boolean) ∈ bb_T := bb_tb 47 (by decide +kernel) (by decide +kernel)
theorem bb_t44 : Cond.methodLink "BallotBox" 76 yX0_isEnough ∈ bb_T := bb_tb 44 (by decide +kernel) (by decide +kernel)
theorem bb_t46 : Cond.instanceMethod yX0_isEnough ∈ bb_T := bb_tb 46 (by decide +kernel) (by decide +kernel)
theorem bb_sX0_isEnough : Cond.selects RX0 yX0_isEnough yX0_isEnough ∈ bb_T := bb_ts (q := (yX0_isEnough, 5)) (List.mem_of_getElem? (i := 0) (by decide +kernel))
theorem gX0_ask_X0_isEnough : GoodIn wsX0_ask (wsV RX0 76 RX0 yX0_isEnough wsX0_isEnough) := bb_gV bb_t44 bb_t46 bb_sX0_isEnough bb_t1 bb_t47
theorem bb_t272 : Cond.code yX0_highestPromise prog_1_method_34_code 4 (some .int) ∈ bb_T := bb_tb 272 (by decide +kernel) (by decide +kernel)
theorem bb_t269 : Cond.methodLink "BallotBox" 82 yX0_highestPromise ∈ bb_T := bb_tb 269 (by decide +kernel) (by decide +kernel)
theorem bb_t271 : Cond.instanceMethod yX0_highestPromise ∈ bb_T := bb_tb 271 (by decide +kernel) (by decide +kernel)
theorem bb_sX0_highestPromise : Cond.selects RX0 yX0_highestPromise yX0_highestPromise ∈ bb_T := bb_ts (q := (yX0_highestPromise, 5)) (List.mem_of_getElem? (i := 11) (by decide +kernel))
theorem gX0_ask_X0_highestPromise : GoodIn wsX0_ask (wsV RX0 82 RX0 yX0_highestPromise wsX0_highestPromise) := bb_gV bb_t269 bb_t271 bb_sX0_highestPromise bb_t1 bb_t272
theorem bb_t280 : Cond.code yX0_promiseAll prog_1_method_35_code 4 none ∈ bb_T := bb_tb 280 (by decide +kernel) (by decide +kernel)
theorem bb_t277 : Cond.methodLink "BallotBox" 87 yX0_promiseAll ∈ bb_T := bb_tb 277 (by decide +kernel) (by decide +kernel)
theorem bb_t279 : Cond.instanceMethod yX0_promiseAll ∈ bb_T := bb_tb 279 (by decide +kernel) (by decide +kernel)
theorem bb_sX0_promiseAll : Cond.selects RX0 yX0_promiseAll yX0_promiseAll ∈ bb_T := bb_ts (q := (yX0_promiseAll, 5)) (List.mem_of_getElem? (i := 12) (by decide +kernel))
theorem gX0_ask_X0_promiseAll : GoodIn wsX0_ask (wsV RX0 87 RX0 yX0_promiseAll wsX0_promiseAll) := bb_gV bb_t277 bb_t279 bb_sX0_promiseAll bb_t1 bb_t280
theorem bb_t284 : Cond.code yX0_lastBallotBelow prog_1_method_36_code 4 (some .int) ∈ bb_T := bb_tb 284 (by decide +kernel) (by decide +kernel)
theorem bb_t281 : Cond.methodLink "BallotBox" 91 yX0_lastBallotBelow ∈ bb_T := bb_tb 281 (by decide +kernel) (by decide +kernel)
theorem bb_t283 : Cond.instanceMethod yX0_lastBallotBelow ∈ bb_T := bb_tb 283 (by decide +kernel) (by decide +kernel)
theorem bb_sX0_lastBallotBelow : Cond.selects RX0 yX0_lastBallotBelow yX0_lastBallotBelow ∈ bb_T := bb_ts (q := (yX0_lastBallotBelow, 5)) (List.mem_of_getElem? (i := 13) (by decide +kernel))
theorem gX0_ask_X0_lastBallotBelow : GoodIn wsX0_ask (wsV RX0 91 RX0 yX0_lastBallotBelow wsX0_lastBallotBelow) := bb_gV bb_t281 bb_t283 bb_sX0_lastBallotBelow bb_t1 bb_t284
theorem gX0_chosen_X0_requireBallot : GoodIn wsX0_chosen (wsS RX0 45 yX0_requireBallot wsX0_requireBallot) := bb_gS bb_t216 bb_t217 bb_t1 bb_t218
theorem bb_t99 : Cond.code yX0_chosenValue prog_1_method_33_code 2 (some .int) ∈ bb_T := bb_tb 99 (by decide +kernel) (by decide +kernel)
theorem bb_t96 : Cond.methodLink "BallotBox" 95 yX0_chosenValue ∈ bb_T := bb_tb 96 (by decide +kernel) (by decide +kernel)
theorem bb_t98 : Cond.instanceMethod yX0_chosenValue ∈ bb_T := bb_tb 98 (by decide +kernel) (by decide +kernel)
theorem bb_sX0_chosenValue : Cond.selects RX0 yX0_chosenValue yX0_chosenValue ∈ bb_T := bb_ts (q := (yX0_chosenValue, 5)) (List.mem_of_getElem? (i := 6) (by decide +kernel))
theorem gX0_chosen_X0_chosenValue : GoodIn wsX0_chosen (wsV RX0 95 RX0 yX0_chosenValue wsX0_chosenValue) := bb_gV bb_t96 bb_t98 bb_sX0_chosenValue bb_t1 bb_t99
theorem gX0_can_X0_requireBallot : GoodIn wsX0_can (wsS RX0 45 yX0_requireBallot wsX0_requireBallot) := bb_gS bb_t216 bb_t217 bb_t1 bb_t218
theorem gX0_can_X0_requireValue : GoodIn wsX0_can (wsS RX0 53 yX0_requireValue wsX0_requireValue) := bb_gS bb_t243 bb_t244 bb_t1 bb_t245
theorem gX0_can_X0_isOnlyValue : GoodIn wsX0_can (wsV RX0 62 RX0 yX0_isOnlyValue wsX0_isOnlyValue) := bb_gV bb_t252 bb_t254 bb_sX0_isOnlyValue bb_t1 bb_t255
theorem bb_t302 : Cond.code yX0_hasWayToChoose prog_1_method_31_code 2 (some .boolean) ∈ bb_T := bb_tb 302 (by decide +kernel) (by decide +kernel)
theorem bb_t299 : Cond.methodLink "BallotBox" 98 yX0_hasWayToChoose ∈ bb_T := bb_tb 299 (by decide +kernel) (by decide +kernel)
theorem bb_t301 : Cond.instanceMethod yX0_hasWayToChoose ∈ bb_T := bb_tb 301 (by decide +kernel) (by decide +kernel)
theorem bb_sX0_hasWayToChoose : Cond.selects RX0 yX0_hasWayToChoose yX0_hasWayToChoose ∈ bb_T := bb_ts (q := (yX0_hasWayToChoose, 5)) (List.mem_of_getElem? (i := 14) (by decide +kernel))
theorem gX0_can_X0_hasWayToChoose : GoodIn wsX0_can (wsV RX0 98 RX0 yX0_hasWayToChoose wsX0_hasWayToChoose) := bb_gV bb_t299 bb_t301 bb_sX0_hasWayToChoose bb_t1 bb_t302
theorem gX0_safe_X0_requireBallot : GoodIn wsX0_safe (wsS RX0 45 yX0_requireBallot wsX0_requireBallot) := bb_gS bb_t216 bb_t217 bb_t1 bb_t218
theorem gX0_safe_X0_requireValue : GoodIn wsX0_safe (wsS RX0 53 yX0_requireValue wsX0_requireValue) := bb_gS bb_t243 bb_t244 bb_t1 bb_t245
theorem bb_t317 : Cond.code yX0_isSafe prog_1_method_32_code 4 (some .boolean) ∈ bb_T := bb_tb 317 (by decide +kernel) (by decide +kernel)
theorem bb_t314 : Cond.methodLink "BallotBox" 101 yX0_isSafe ∈ bb_T := bb_tb 314 (by decide +kernel) (by decide +kernel)
theorem bb_t316 : Cond.instanceMethod yX0_isSafe ∈ bb_T := bb_tb 316 (by decide +kernel) (by decide +kernel)
theorem bb_sX0_isSafe : Cond.selects RX0 yX0_isSafe yX0_isSafe ∈ bb_T := bb_ts (q := (yX0_isSafe, 5)) (List.mem_of_getElem? (i := 16) (by decide +kernel))
theorem gX0_safe_X0_isSafe : GoodIn wsX0_safe (wsV RX0 101 RX0 yX0_isSafe wsX0_isSafe) := bb_gV bb_t314 bb_t316 bb_sX0_isSafe bb_t1 bb_t317
theorem gX0_free_X0_requireBallot : GoodIn wsX0_free (wsS RX0 45 yX0_requireBallot wsX0_requireBallot) := bb_gS bb_t216 bb_t217 bb_t1 bb_t218
theorem gX0_free_X0_isSafe : GoodIn wsX0_free (wsV RX0 101 RX0 yX0_isSafe wsX0_isSafe) := bb_gV bb_t314 bb_t316 bb_sX0_isSafe bb_t1 bb_t317
theorem gX0_enough_X0_requireSet : GoodIn wsX0_enough (wsS RX0 73 yX0_requireSet wsX0_requireSet) := bb_gS bb_t264 bb_t265 bb_t1 bb_t266
theorem gX0_enough_X0_isEnough : GoodIn wsX0_enough (wsV RX0 76 RX0 yX0_isEnough wsX0_isEnough) := bb_gV bb_t44 bb_t46 bb_sX0_isEnough bb_t1 bb_t47
theorem gX0_blocks_X0_requireSet : GoodIn wsX0_blocks (wsS RX0 73 yX0_requireSet wsX0_requireSet) := bb_gS bb_t264 bb_t265 bb_t1 bb_t266
theorem gX0_blocks_X0_isEnough : GoodIn wsX0_blocks (wsV RX0 76 RX0 yX0_isEnough wsX0_isEnough) := bb_gV bb_t44 bb_t46 bb_sX0_isEnough bb_t1 bb_t47
theorem gX0_sets_X0_isEnough : GoodIn wsX0_sets (wsV RX0 76 RX0 yX0_isEnough wsX0_isEnough) := bb_gV bb_t44 bb_t46 bb_sX0_isEnough bb_t1 bb_t47
theorem gX0_least_J_bitCount : GoodIn wsX0_least (va_wsS RX0 67 yJ_bitCount wsJ_bitCount) := bb_gA bb_t59 bb_t60 bb_t10 bb_t61
theorem gX0_least_X0_isEnough : GoodIn wsX0_least (wsV RX0 76 RX0 yX0_isEnough wsX0_isEnough) := bb_gV bb_t44 bb_t46 bb_sX0_isEnough bb_t1 bb_t47
theorem gX0_meet_X0_isEnough : GoodIn wsX0_meet (wsV RX0 76 RX0 yX0_isEnough wsX0_isEnough) := bb_gV bb_t44 bb_t46 bb_sX0_isEnough bb_t1 bb_t47
theorem bb_t76 : Cond.code yX0_isBare prog_1_method_26_code 3 (some .boolean) ∈ bb_T := bb_tb 76 (by decide +kernel) (by decide +kernel)
theorem bb_t73 : Cond.methodLink "BallotBox" 104 yX0_isBare ∈ bb_T := bb_tb 73 (by decide +kernel) (by decide +kernel)
theorem bb_t75 : Cond.instanceMethod yX0_isBare ∈ bb_T := bb_tb 75 (by decide +kernel) (by decide +kernel)
theorem bb_sX0_isBare : Cond.selects RX0 yX0_isBare yX0_isBare ∈ bb_T := bb_ts (q := (yX0_isBare, 5)) (List.mem_of_getElem? (i := 2) (by decide +kernel))
theorem gX0_bare_X0_isBare : GoodIn wsX0_bare (wsV RX0 104 RX0 yX0_isBare wsX0_isBare) := bb_gV bb_t73 bb_t75 bb_sX0_isBare bb_t1 bb_t76
theorem gX0_about_X0_requireNode : GoodIn wsX0_about (wsS RX0 32 yX0_requireNode wsX0_requireNode) := bb_gS bb_t113 bb_t114 bb_t1 bb_t115
theorem bb_t349 : Cond.code yX0_ballotsVotedIn prog_1_method_37_code 4 (some .int) ∈ bb_T := bb_tb 349 (by decide +kernel) (by decide +kernel)
theorem bb_t346 : Cond.methodLink "BallotBox" 107 yX0_ballotsVotedIn ∈ bb_T := bb_tb 346 (by decide +kernel) (by decide +kernel)
theorem bb_t348 : Cond.instanceMethod yX0_ballotsVotedIn ∈ bb_T := bb_tb 348 (by decide +kernel) (by decide +kernel)
theorem bb_sX0_ballotsVotedIn : Cond.selects RX0 yX0_ballotsVotedIn yX0_ballotsVotedIn ∈ bb_T := bb_ts (q := (yX0_ballotsVotedIn, 5)) (List.mem_of_getElem? (i := 17) (by decide +kernel))
theorem gX0_about_X0_ballotsVotedIn : GoodIn wsX0_about (wsV RX0 107 RX0 yX0_ballotsVotedIn wsX0_ballotsVotedIn) := bb_gV bb_t346 bb_t348 bb_sX0_ballotsVotedIn bb_t1 bb_t349
theorem gX0_about_X0_lastBallotBelow : GoodIn wsX0_about (wsV RX0 91 RX0 yX0_lastBallotBelow wsX0_lastBallotBelow) := bb_gV bb_t281 bb_t283 bb_sX0_lastBallotBelow bb_t1 bb_t284
theorem bb_t51 : Cond.code yX0_weightOf prog_1_method_24_code 4 (some .int) ∈ bb_T := bb_tb 51 (by decide +kernel) (by decide +kernel)
theorem bb_t48 : Cond.methodLink "BallotBox" 112 yX0_weightOf ∈ bb_T := bb_tb 48 (by decide +kernel) (by decide +kernel)
theorem bb_t50 : Cond.instanceMethod yX0_weightOf ∈ bb_T := bb_tb 50 (by decide +kernel) (by decide +kernel)
theorem bb_sX0_weightOf : Cond.selects RX0 yX0_weightOf yX0_weightOf ∈ bb_T := bb_ts (q := (yX0_weightOf, 5)) (List.mem_of_getElem? (i := 1) (by decide +kernel))
theorem gX0_count_X0_weightOf : GoodIn wsX0_count (wsV RX0 112 RX0 yX0_weightOf wsX0_weightOf) := bb_gV bb_t48 bb_t50 bb_sX0_weightOf bb_t1 bb_t51
theorem bb_t91 : Cond.code yX0_allVotes prog_1_method_38_code 3 (some .int) ∈ bb_T := bb_tb 91 (by decide +kernel) (by decide +kernel)
theorem bb_t88 : Cond.methodLink "BallotBox" 115 yX0_allVotes ∈ bb_T := bb_tb 88 (by decide +kernel) (by decide +kernel)
theorem bb_t90 : Cond.instanceMethod yX0_allVotes ∈ bb_T := bb_tb 90 (by decide +kernel) (by decide +kernel)
theorem bb_sX0_allVotes : Cond.selects RX0 yX0_allVotes yX0_allVotes ∈ bb_T := bb_ts (q := (yX0_allVotes, 5)) (List.mem_of_getElem? (i := 4) (by decide +kernel))
theorem gX0_count_X0_allVotes : GoodIn wsX0_count (wsV RX0 115 RX0 yX0_allVotes wsX0_allVotes) := bb_gV bb_t88 bb_t90 bb_sX0_allVotes bb_t1 bb_t91
theorem bb_t95 : Cond.code yX0_ballotsWithChosen prog_1_method_39_code 3 (some .int) ∈ bb_T := bb_tb 95 (by decide +kernel) (by decide +kernel)
theorem bb_t92 : Cond.methodLink "BallotBox" 119 yX0_ballotsWithChosen ∈ bb_T := bb_tb 92 (by decide +kernel) (by decide +kernel)
theorem bb_t94 : Cond.instanceMethod yX0_ballotsWithChosen ∈ bb_T := bb_tb 94 (by decide +kernel) (by decide +kernel)
theorem bb_sX0_ballotsWithChosen : Cond.selects RX0 yX0_ballotsWithChosen yX0_ballotsWithChosen ∈ bb_T := bb_ts (q := (yX0_ballotsWithChosen, 5)) (List.mem_of_getElem? (i := 5) (by decide +kernel))
theorem gX0_count_X0_ballotsWithChosen : GoodIn wsX0_count (wsV RX0 119 RX0 yX0_ballotsWithChosen wsX0_ballotsWithChosen) := bb_gV bb_t92 bb_t94 bb_sX0_ballotsWithChosen bb_t1 bb_t95
theorem bb_t103 : Cond.code yX0_differentChosen prog_1_method_40_code 4 (some .int) ∈ bb_T := bb_tb 103 (by decide +kernel) (by decide +kernel)
theorem bb_t100 : Cond.methodLink "BallotBox" 122 yX0_differentChosen ∈ bb_T := bb_tb 100 (by decide +kernel) (by decide +kernel)
theorem bb_t102 : Cond.instanceMethod yX0_differentChosen ∈ bb_T := bb_tb 102 (by decide +kernel) (by decide +kernel)
theorem bb_sX0_differentChosen : Cond.selects RX0 yX0_differentChosen yX0_differentChosen ∈ bb_T := bb_ts (q := (yX0_differentChosen, 5)) (List.mem_of_getElem? (i := 7) (by decide +kernel))
theorem gX0_count_X0_differentChosen : GoodIn wsX0_count (wsV RX0 122 RX0 yX0_differentChosen wsX0_differentChosen) := bb_gV bb_t100 bb_t102 bb_sX0_differentChosen bb_t1 bb_t103
theorem bb_t54 : Cond.code yX0_holds prog_1_method_23_code 2 (some .boolean) ∈ bb_T := bb_tb 54 (by decide +kernel) (by decide +kernel)
theorem bb_t52 : Cond.methodLink "BallotBox" 136 yX0_holds ∈ bb_T := bb_tb 52 (by decide +kernel) (by decide +kernel)
theorem bb_t53 : Cond.static yX0_holds ∈ bb_T := bb_tb 53 (by decide +kernel) (by decide +kernel)
theorem gX0_weightOf_X0_holds : GoodIn wsX0_weightOf (wsS RX0 136 yX0_holds wsX0_holds) := bb_gS bb_t52 bb_t53 bb_t1 bb_t54
theorem gX0_isEnough_X0_weightOf : GoodIn wsX0_isEnough (wsV RX0 112 RX0 yX0_weightOf wsX0_weightOf) := bb_gV bb_t48 bb_t50 bb_sX0_weightOf bb_t1 bb_t51
theorem gX0_isBare_X0_weightOf : GoodIn wsX0_isBare (wsV RX0 112 RX0 yX0_weightOf wsX0_weightOf) := bb_gV bb_t48 bb_t50 bb_sX0_weightOf bb_t1 bb_t51
theorem bb_t80 : Cond.code yX0_lightestOf prog_1_method_27_code 4 (some .int) ∈ bb_T := bb_tb 80 (by decide +kernel) (by decide +kernel)
theorem bb_t77 : Cond.methodLink "BallotBox" 139 yX0_lightestOf ∈ bb_T := bb_tb 77 (by decide +kernel) (by decide +kernel)
theorem bb_t79 : Cond.instanceMethod yX0_lightestOf ∈ bb_T := bb_tb 79 (by decide +kernel) (by decide +kernel)
theorem bb_sX0_lightestOf : Cond.selects RX0 yX0_lightestOf yX0_lightestOf ∈ bb_T := bb_ts (q := (yX0_lightestOf, 5)) (List.mem_of_getElem? (i := 3) (by decide +kernel))
theorem gX0_isBare_X0_lightestOf : GoodIn wsX0_isBare (wsV RX0 139 RX0 yX0_lightestOf wsX0_lightestOf) := bb_gV bb_t77 bb_t79 bb_sX0_lightestOf bb_t1 bb_t80
theorem gX0_lightestOf_X0_holds : GoodIn wsX0_lightestOf (wsS RX0 136 yX0_holds wsX0_holds) := bb_gS bb_t52 bb_t53 bb_t1 bb_t54
theorem gX0_isOpen_X0_holds : GoodIn wsX0_isOpen (wsS RX0 136 yX0_holds wsX0_holds) := bb_gS bb_t52 bb_t53 bb_t1 bb_t54
theorem gX0_openNodes_X0_isOpen : GoodIn wsX0_openNodes (wsV RX0 56 RX0 yX0_isOpen wsX0_isOpen) := bb_gV bb_t247 bb_t249 bb_sX0_isOpen bb_t1 bb_t250
theorem bb_t306 : Cond.code yX0_openNodes prog_1_method_29_code 4 (some .int) ∈ bb_T := bb_tb 306 (by decide +kernel) (by decide +kernel)
theorem bb_t303 : Cond.methodLink "BallotBox" 147 yX0_openNodes ∈ bb_T := bb_tb 303 (by decide +kernel) (by decide +kernel)
theorem bb_t305 : Cond.instanceMethod yX0_openNodes ∈ bb_T := bb_tb 305 (by decide +kernel) (by decide +kernel)
theorem bb_sX0_openNodes : Cond.selects RX0 yX0_openNodes yX0_openNodes ∈ bb_T := bb_ts (q := (yX0_openNodes, 5)) (List.mem_of_getElem? (i := 15) (by decide +kernel))
theorem gX0_hasWayToChoose_X0_openNodes : GoodIn wsX0_hasWayToChoose (wsV RX0 147 RX0 yX0_openNodes wsX0_openNodes) := bb_gV bb_t303 bb_t305 bb_sX0_openNodes bb_t1 bb_t306
theorem gX0_hasWayToChoose_X0_isEnough : GoodIn wsX0_hasWayToChoose (wsV RX0 76 RX0 yX0_isEnough wsX0_isEnough) := bb_gV bb_t44 bb_t46 bb_sX0_isEnough bb_t1 bb_t47
theorem gX0_isSafe_X0_hasWayToChoose : GoodIn wsX0_isSafe (wsV RX0 98 RX0 yX0_hasWayToChoose wsX0_hasWayToChoose) := bb_gV bb_t299 bb_t301 bb_sX0_hasWayToChoose bb_t1 bb_t302
theorem gX0_chosenValue_X0_isEnough : GoodIn wsX0_chosenValue (wsV RX0 76 RX0 yX0_isEnough wsX0_isEnough) := bb_gV bb_t44 bb_t46 bb_sX0_isEnough bb_t1 bb_t47
theorem gX0_highestPromise_X0_holds : GoodIn wsX0_highestPromise (wsS RX0 136 yX0_holds wsX0_holds) := bb_gS bb_t52 bb_t53 bb_t1 bb_t54
theorem gX0_promiseAll_X0_holds : GoodIn wsX0_promiseAll (wsS RX0 136 yX0_holds wsX0_holds) := bb_gS bb_t52 bb_t53 bb_t1 bb_t54
theorem gX0_ballotsVotedIn_X0_holds : GoodIn wsX0_ballotsVotedIn (wsS RX0 136 yX0_holds wsX0_holds) := bb_gS bb_t52 bb_t53 bb_t1 bb_t54
theorem gX0_allVotes_J_bitCount : GoodIn wsX0_allVotes (va_wsS RX0 67 yJ_bitCount wsJ_bitCount) := bb_gA bb_t59 bb_t60 bb_t10 bb_t61
theorem gX0_ballotsWithChosen_X0_chosenValue : GoodIn wsX0_ballotsWithChosen (wsV RX0 95 RX0 yX0_chosenValue wsX0_chosenValue) := bb_gV bb_t96 bb_t98 bb_sX0_chosenValue bb_t1 bb_t99
theorem gX0_differentChosen_X0_chosenValue : GoodIn wsX0_differentChosen (wsV RX0 95 RX0 yX0_chosenValue wsX0_chosenValue) := bb_gV bb_t96 bb_t98 bb_sX0_chosenValue bb_t1 bb_t99
theorem gX0_differentChosen_J_bitCount : GoodIn wsX0_differentChosen (va_wsS RX0 67 yJ_bitCount wsJ_bitCount) := bb_gA bb_t59 bb_t60 bb_t10 bb_t61
theorem bb_t383 : Cond.code yX1_out prog_3_method_4_code 2 (some .boolean) ∈ bb_T := bb_tb 383 (by decide +kernel) (by decide +kernel)
theorem bb_t381 : Cond.methodLink "BallotBoxModel" 26 yX1_out ∈ bb_T := bb_tb 381 (by decide +kernel) (by decide +kernel)
theorem bb_t382 : Cond.static yX1_out ∈ bb_T := bb_tb 382 (by decide +kernel) (by decide +kernel)
theorem bb_t3 : Cond.initialized "BallotBoxModel" ∈ bb_T := bb_tb 3 (by decide +kernel) (by decide +kernel)
theorem gX1_weight_X1_out : GoodIn wsX1_weight (wsS RX1 26 yX1_out wsX1_out) := bb_gS bb_t381 bb_t382 bb_t3 bb_t383
theorem gX1_promise_X1_out : GoodIn wsX1_promise (wsS RX1 26 yX1_out wsX1_out) := bb_gS bb_t381 bb_t382 bb_t3 bb_t383
theorem bb_t395 : Cond.code yX1_fail prog_3_method_3_code 2 (some .int) ∈ bb_T := bb_tb 395 (by decide +kernel) (by decide +kernel)
theorem bb_t392 : Cond.methodLink "BallotBoxModel" 30 yX1_fail ∈ bb_T := bb_tb 392 (by decide +kernel) (by decide +kernel)
theorem bb_t394 : Cond.instanceMethod yX1_fail ∈ bb_T := bb_tb 394 (by decide +kernel) (by decide +kernel)
theorem bb_sX1_fail : Cond.selects RX1 yX1_fail yX1_fail ∈ bb_T := bb_ts (q := (yX1_fail, 5)) (List.mem_of_getElem? (i := 18) (by decide +kernel))
theorem gX1_promise_X1_fail : GoodIn wsX1_promise (wsV RX1 30 RX1 yX1_fail wsX1_fail) := bb_gV bb_t392 bb_t394 bb_sX1_fail bb_t3 bb_t395
theorem bb_t407 : Cond.code yX1_voteOf prog_3_method_8_code 3 (some .int) ∈ bb_T := bb_tb 407 (by decide +kernel) (by decide +kernel)
theorem bb_t404 : Cond.methodLink "BallotBoxModel" 34 yX1_voteOf ∈ bb_T := bb_tb 404 (by decide +kernel) (by decide +kernel)
theorem bb_t406 : Cond.instanceMethod yX1_voteOf ∈ bb_T := bb_tb 406 (by decide +kernel) (by decide +kernel)
theorem bb_sX1_voteOf : Cond.selects RX1 yX1_voteOf yX1_voteOf ∈ bb_T := bb_ts (q := (yX1_voteOf, 5)) (List.mem_of_getElem? (i := 20) (by decide +kernel))
theorem gX1_isOpen_X1_voteOf : GoodIn wsX1_isOpen (wsV RX1 34 RX1 yX1_voteOf wsX1_voteOf) := bb_gV bb_t404 bb_t406 bb_sX1_voteOf bb_t3 bb_t407
theorem gX1_others_X1_voteOf : GoodIn wsX1_others (wsV RX1 34 RX1 yX1_voteOf wsX1_voteOf) := bb_gV bb_t404 bb_t406 bb_sX1_voteOf bb_t3 bb_t407
theorem gX1_vote_X1_out : GoodIn wsX1_vote (wsS RX1 26 yX1_out wsX1_out) := bb_gS bb_t381 bb_t382 bb_t3 bb_t383
theorem bb_t403 : Cond.code yX1_isOpen prog_3_method_9_code 3 (some .boolean) ∈ bb_T := bb_tb 403 (by decide +kernel) (by decide +kernel)
theorem bb_t400 : Cond.methodLink "BallotBoxModel" 38 yX1_isOpen ∈ bb_T := bb_tb 400 (by decide +kernel) (by decide +kernel)
theorem bb_t402 : Cond.instanceMethod yX1_isOpen ∈ bb_T := bb_tb 402 (by decide +kernel) (by decide +kernel)
theorem bb_sX1_isOpen : Cond.selects RX1 yX1_isOpen yX1_isOpen ∈ bb_T := bb_ts (q := (yX1_isOpen, 5)) (List.mem_of_getElem? (i := 19) (by decide +kernel))
theorem gX1_vote_X1_isOpen : GoodIn wsX1_vote (wsV RX1 38 RX1 yX1_isOpen wsX1_isOpen) := bb_gV bb_t400 bb_t402 bb_sX1_isOpen bb_t3 bb_t403
theorem bb_t411 : Cond.code yX1_others prog_3_method_10_code 4 (some .boolean) ∈ bb_T := bb_tb 411 (by decide +kernel) (by decide +kernel)
theorem bb_t408 : Cond.methodLink "BallotBoxModel" 41 yX1_others ∈ bb_T := bb_tb 408 (by decide +kernel) (by decide +kernel)
theorem bb_t410 : Cond.instanceMethod yX1_others ∈ bb_T := bb_tb 410 (by decide +kernel) (by decide +kernel)
theorem bb_sX1_others : Cond.selects RX1 yX1_others yX1_others ∈ bb_T := bb_ts (q := (yX1_others, 5)) (List.mem_of_getElem? (i := 21) (by decide +kernel))
theorem gX1_vote_X1_others : GoodIn wsX1_vote (wsV RX1 41 RX1 yX1_others wsX1_others) := bb_gV bb_t408 bb_t410 bb_sX1_others bb_t3 bb_t411
theorem gX1_vote_X1_fail : GoodIn wsX1_vote (wsV RX1 30 RX1 yX1_fail wsX1_fail) := bb_gV bb_t392 bb_t394 bb_sX1_fail bb_t3 bb_t395
theorem gX1_vote_X1_voteOf : GoodIn wsX1_vote (wsV RX1 34 RX1 yX1_voteOf wsX1_voteOf) := bb_gV bb_t404 bb_t406 bb_sX1_voteOf bb_t3 bb_t407
theorem gX1_ask_X1_out : GoodIn wsX1_ask (wsS RX1 26 yX1_out wsX1_out) := bb_gS bb_t381 bb_t382 bb_t3 bb_t383
theorem bb_t419 : Cond.code yX1_isEnough prog_3_method_12_code 4 (some .boolean) ∈ bb_T := bb_tb 419 (by decide +kernel) (by decide +kernel)
theorem bb_t416 : Cond.methodLink "BallotBoxModel" 44 yX1_isEnough ∈ bb_T := bb_tb 416 (by decide +kernel) (by decide +kernel)
theorem bb_t418 : Cond.instanceMethod yX1_isEnough ∈ bb_T := bb_tb 418 (by decide +kernel) (by decide +kernel)
theorem bb_sX1_isEnough : Cond.selects RX1 yX1_isEnough yX1_isEnough ∈ bb_T := bb_ts (q := (yX1_isEnough, 5)) (List.mem_of_getElem? (i := 22) (by decide +kernel))
theorem gX1_ask_X1_isEnough : GoodIn wsX1_ask (wsV RX1 44 RX1 yX1_isEnough wsX1_isEnough) := bb_gV bb_t416 bb_t418 bb_sX1_isEnough bb_t3 bb_t419
theorem gX1_ask_X1_fail : GoodIn wsX1_ask (wsV RX1 30 RX1 yX1_fail wsX1_fail) := bb_gV bb_t392 bb_t394 bb_sX1_fail bb_t3 bb_t395
theorem gX1_ask_X1_voteOf : GoodIn wsX1_ask (wsV RX1 34 RX1 yX1_voteOf wsX1_voteOf) := bb_gV bb_t404 bb_t406 bb_sX1_voteOf bb_t3 bb_t407
theorem gX1_isChosen_X1_voteOf : GoodIn wsX1_isChosen (wsV RX1 34 RX1 yX1_voteOf wsX1_voteOf) := bb_gV bb_t404 bb_t406 bb_sX1_voteOf bb_t3 bb_t407
theorem gX1_isChosen_X1_isEnough : GoodIn wsX1_isChosen (wsV RX1 44 RX1 yX1_isEnough wsX1_isEnough) := bb_gV bb_t416 bb_t418 bb_sX1_isEnough bb_t3 bb_t419
theorem gX1_chosen_X1_out : GoodIn wsX1_chosen (wsS RX1 26 yX1_out wsX1_out) := bb_gS bb_t381 bb_t382 bb_t3 bb_t383
theorem bb_t427 : Cond.code yX1_isChosen prog_3_method_14_code 5 (some .int) ∈ bb_T := bb_tb 427 (by decide +kernel) (by decide +kernel)
theorem bb_t424 : Cond.methodLink "BallotBoxModel" 48 yX1_isChosen ∈ bb_T := bb_tb 424 (by decide +kernel) (by decide +kernel)
theorem bb_t426 : Cond.instanceMethod yX1_isChosen ∈ bb_T := bb_tb 426 (by decide +kernel) (by decide +kernel)
theorem bb_sX1_isChosen : Cond.selects RX1 yX1_isChosen yX1_isChosen ∈ bb_T := bb_ts (q := (yX1_isChosen, 5)) (List.mem_of_getElem? (i := 23) (by decide +kernel))
theorem gX1_chosen_X1_isChosen : GoodIn wsX1_chosen (wsV RX1 48 RX1 yX1_isChosen wsX1_isChosen) := bb_gV bb_t424 bb_t426 bb_sX1_isChosen bb_t3 bb_t427
theorem gX1_canBe_X1_voteOf : GoodIn wsX1_canBe (wsV RX1 34 RX1 yX1_voteOf wsX1_voteOf) := bb_gV bb_t404 bb_t406 bb_sX1_voteOf bb_t3 bb_t407
theorem gX1_canBe_X1_isOpen : GoodIn wsX1_canBe (wsV RX1 38 RX1 yX1_isOpen wsX1_isOpen) := bb_gV bb_t400 bb_t402 bb_sX1_isOpen bb_t3 bb_t403
theorem gX1_canBe_X1_others : GoodIn wsX1_canBe (wsV RX1 41 RX1 yX1_others wsX1_others) := bb_gV bb_t408 bb_t410 bb_sX1_others bb_t3 bb_t411
theorem gX1_canBe_X1_isEnough : GoodIn wsX1_canBe (wsV RX1 44 RX1 yX1_isEnough wsX1_isEnough) := bb_gV bb_t416 bb_t418 bb_sX1_isEnough bb_t3 bb_t419
theorem gX1_can_X1_out : GoodIn wsX1_can (wsS RX1 26 yX1_out wsX1_out) := bb_gS bb_t381 bb_t382 bb_t3 bb_t383
theorem bb_t435 : Cond.code yX1_canBe prog_3_method_16_code 5 (some .boolean) ∈ bb_T := bb_tb 435 (by decide +kernel) (by decide +kernel)
theorem bb_t432 : Cond.methodLink "BallotBoxModel" 51 yX1_canBe ∈ bb_T := bb_tb 432 (by decide +kernel) (by decide +kernel)
theorem bb_t434 : Cond.instanceMethod yX1_canBe ∈ bb_T := bb_tb 434 (by decide +kernel) (by decide +kernel)
theorem bb_sX1_canBe : Cond.selects RX1 yX1_canBe yX1_canBe ∈ bb_T := bb_ts (q := (yX1_canBe, 5)) (List.mem_of_getElem? (i := 24) (by decide +kernel))
theorem gX1_can_X1_canBe : GoodIn wsX1_can (wsV RX1 51 RX1 yX1_canBe wsX1_canBe) := bb_gV bb_t432 bb_t434 bb_sX1_canBe bb_t3 bb_t435
theorem gX1_isSafe_X1_canBe : GoodIn wsX1_isSafe (wsV RX1 51 RX1 yX1_canBe wsX1_canBe) := bb_gV bb_t432 bb_t434 bb_sX1_canBe bb_t3 bb_t435
theorem gX1_safe_X1_out : GoodIn wsX1_safe (wsS RX1 26 yX1_out wsX1_out) := bb_gS bb_t381 bb_t382 bb_t3 bb_t383
theorem bb_t443 : Cond.code yX1_isSafe prog_3_method_18_code 5 (some .boolean) ∈ bb_T := bb_tb 443 (by decide +kernel) (by decide +kernel)
theorem bb_t440 : Cond.methodLink "BallotBoxModel" 54 yX1_isSafe ∈ bb_T := bb_tb 440 (by decide +kernel) (by decide +kernel)
theorem bb_t442 : Cond.instanceMethod yX1_isSafe ∈ bb_T := bb_tb 442 (by decide +kernel) (by decide +kernel)
theorem bb_sX1_isSafe : Cond.selects RX1 yX1_isSafe yX1_isSafe ∈ bb_T := bb_ts (q := (yX1_isSafe, 5)) (List.mem_of_getElem? (i := 25) (by decide +kernel))
theorem gX1_safe_X1_isSafe : GoodIn wsX1_safe (wsV RX1 54 RX1 yX1_isSafe wsX1_isSafe) := bb_gV bb_t440 bb_t442 bb_sX1_isSafe bb_t3 bb_t443
theorem gX1_free_X1_out : GoodIn wsX1_free (wsS RX1 26 yX1_out wsX1_out) := bb_gS bb_t381 bb_t382 bb_t3 bb_t383
theorem gX1_free_X1_isSafe : GoodIn wsX1_free (wsV RX1 54 RX1 yX1_isSafe wsX1_isSafe) := bb_gV bb_t440 bb_t442 bb_sX1_isSafe bb_t3 bb_t443
theorem gX1_enough_X1_out : GoodIn wsX1_enough (wsS RX1 26 yX1_out wsX1_out) := bb_gS bb_t381 bb_t382 bb_t3 bb_t383
theorem gX1_enough_X1_isEnough : GoodIn wsX1_enough (wsV RX1 44 RX1 yX1_isEnough wsX1_isEnough) := bb_gV bb_t416 bb_t418 bb_sX1_isEnough bb_t3 bb_t419
theorem gX1_blocks_X1_out : GoodIn wsX1_blocks (wsS RX1 26 yX1_out wsX1_out) := bb_gS bb_t381 bb_t382 bb_t3 bb_t383
theorem gX1_blocks_X1_isEnough : GoodIn wsX1_blocks (wsV RX1 44 RX1 yX1_isEnough wsX1_isEnough) := bb_gV bb_t416 bb_t418 bb_sX1_isEnough bb_t3 bb_t419
theorem gX1_sets_X1_isEnough : GoodIn wsX1_sets (wsV RX1 44 RX1 yX1_isEnough wsX1_isEnough) := bb_gV bb_t416 bb_t418 bb_sX1_isEnough bb_t3 bb_t419
theorem gX1_least_X1_isEnough : GoodIn wsX1_least (wsV RX1 44 RX1 yX1_isEnough wsX1_isEnough) := bb_gV bb_t416 bb_t418 bb_sX1_isEnough bb_t3 bb_t419
theorem bb_t466 : Cond.code yX1_size prog_3_method_24_code 3 (some .int) ∈ bb_T := bb_tb 466 (by decide +kernel) (by decide +kernel)
theorem bb_t464 : Cond.methodLink "BallotBoxModel" 57 yX1_size ∈ bb_T := bb_tb 464 (by decide +kernel) (by decide +kernel)
theorem bb_t465 : Cond.static yX1_size ∈ bb_T := bb_tb 465 (by decide +kernel) (by decide +kernel)
theorem gX1_least_X1_size : GoodIn wsX1_least (wsS RX1 57 yX1_size wsX1_size) := bb_gS bb_t464 bb_t465 bb_t3 bb_t466
theorem gX1_meet_X1_isEnough : GoodIn wsX1_meet (wsV RX1 44 RX1 yX1_isEnough wsX1_isEnough) := bb_gV bb_t416 bb_t418 bb_sX1_isEnough bb_t3 bb_t419
theorem gX1_bare_X1_isEnough : GoodIn wsX1_bare (wsV RX1 44 RX1 yX1_isEnough wsX1_isEnough) := bb_gV bb_t416 bb_t418 bb_sX1_isEnough bb_t3 bb_t419
theorem gX1_about_X1_out : GoodIn wsX1_about (wsS RX1 26 yX1_out wsX1_out) := bb_gS bb_t381 bb_t382 bb_t3 bb_t383
theorem gX1_about_X1_voteOf : GoodIn wsX1_about (wsV RX1 34 RX1 yX1_voteOf wsX1_voteOf) := bb_gV bb_t404 bb_t406 bb_sX1_voteOf bb_t3 bb_t407
theorem gX1_count_X1_isChosen : GoodIn wsX1_count (wsV RX1 48 RX1 yX1_isChosen wsX1_isChosen) := bb_gV bb_t424 bb_t426 bb_sX1_isChosen bb_t3 bb_t427
theorem bb_t112 : Cond.code yX0_weight prog_1_method_2_code 4 (some .int) ∈ bb_T := bb_tb 112 (by decide +kernel) (by decide +kernel)
theorem bb_t109 : Cond.methodLink "BallotBoxLaw" 7 yX0_weight ∈ bb_T := bb_tb 109 (by decide +kernel) (by decide +kernel)
theorem bb_t110 : Cond.instanceMethod yX0_weight ∈ bb_T := bb_tb 110 (by decide +kernel) (by decide +kernel)
theorem bb_t111 : Cond.selects "BallotBox" yX0_weight yX0_weight ∈ bb_T := bb_tb 111 (by decide +kernel) (by decide +kernel)
theorem gL_weight_X0_weight : GoodIn wsL_weight (wsV RL 7 RX0 yX0_weight wsX0_weight) := bb_gV bb_t109 bb_t110 bb_t111 bb_t1 bb_t112
theorem bb_t206 : Cond.code yX0_need prog_1_method_3_code 3 (some .int) ∈ bb_T := bb_tb 206 (by decide +kernel) (by decide +kernel)
theorem bb_t203 : Cond.methodLink "BallotBoxLaw" 17 yX0_need ∈ bb_T := bb_tb 203 (by decide +kernel) (by decide +kernel)
theorem bb_t204 : Cond.instanceMethod yX0_need ∈ bb_T := bb_tb 204 (by decide +kernel) (by decide +kernel)
theorem bb_t205 : Cond.selects "BallotBox" yX0_need yX0_need ∈ bb_T := bb_tb 205 (by decide +kernel) (by decide +kernel)
theorem gL_need_X0_need : GoodIn wsL_need (wsV RL 17 RX0 yX0_need wsX0_need) := bb_gV bb_t203 bb_t204 bb_t205 bb_t1 bb_t206
theorem bb_t215 : Cond.code yX0_promise prog_1_method_4_code 4 (some .int) ∈ bb_T := bb_tb 215 (by decide +kernel) (by decide +kernel)
theorem bb_t212 : Cond.methodLink "BallotBoxLaw" 21 yX0_promise ∈ bb_T := bb_tb 212 (by decide +kernel) (by decide +kernel)
theorem bb_t213 : Cond.instanceMethod yX0_promise ∈ bb_T := bb_tb 213 (by decide +kernel) (by decide +kernel)
theorem bb_t214 : Cond.selects "BallotBox" yX0_promise yX0_promise ∈ bb_T := bb_tb 214 (by decide +kernel) (by decide +kernel)
theorem gL_promise_X0_promise : GoodIn wsL_promise (wsV RL 21 RX0 yX0_promise wsX0_promise) := bb_gV bb_t212 bb_t213 bb_t214 bb_t1 bb_t215
theorem bb_t242 : Cond.code yX0_vote prog_1_method_5_code 4 (some .int) ∈ bb_T := bb_tb 242 (by decide +kernel) (by decide +kernel)
theorem bb_t239 : Cond.methodLink "BallotBoxLaw" 26 yX0_vote ∈ bb_T := bb_tb 239 (by decide +kernel) (by decide +kernel)
theorem bb_t240 : Cond.instanceMethod yX0_vote ∈ bb_T := bb_tb 240 (by decide +kernel) (by decide +kernel)
theorem bb_t241 : Cond.selects "BallotBox" yX0_vote yX0_vote ∈ bb_T := bb_tb 241 (by decide +kernel) (by decide +kernel)
theorem gL_vote_X0_vote : GoodIn wsL_vote (wsV RL 26 RX0 yX0_vote wsX0_vote) := bb_gV bb_t239 bb_t240 bb_t241 bb_t1 bb_t242
theorem bb_t263 : Cond.code yX0_ask prog_1_method_6_code 4 (some .int) ∈ bb_T := bb_tb 263 (by decide +kernel) (by decide +kernel)
theorem bb_t260 : Cond.methodLink "BallotBoxLaw" 30 yX0_ask ∈ bb_T := bb_tb 260 (by decide +kernel) (by decide +kernel)
theorem bb_t261 : Cond.instanceMethod yX0_ask ∈ bb_T := bb_tb 261 (by decide +kernel) (by decide +kernel)
theorem bb_t262 : Cond.selects "BallotBox" yX0_ask yX0_ask ∈ bb_T := bb_tb 262 (by decide +kernel) (by decide +kernel)
theorem gL_ask_X0_ask : GoodIn wsL_ask (wsV RL 30 RX0 yX0_ask wsX0_ask) := bb_gV bb_t260 bb_t261 bb_t262 bb_t1 bb_t263
theorem bb_t291 : Cond.code yX0_chosen prog_1_method_7_code 2 (some .int) ∈ bb_T := bb_tb 291 (by decide +kernel) (by decide +kernel)
theorem bb_t288 : Cond.methodLink "BallotBoxLaw" 33 yX0_chosen ∈ bb_T := bb_tb 288 (by decide +kernel) (by decide +kernel)
theorem bb_t289 : Cond.instanceMethod yX0_chosen ∈ bb_T := bb_tb 289 (by decide +kernel) (by decide +kernel)
theorem bb_t290 : Cond.selects "BallotBox" yX0_chosen yX0_chosen ∈ bb_T := bb_tb 290 (by decide +kernel) (by decide +kernel)
theorem gL_chosen_X0_chosen : GoodIn wsL_chosen (wsV RL 33 RX0 yX0_chosen wsX0_chosen) := bb_gV bb_t288 bb_t289 bb_t290 bb_t1 bb_t291
theorem bb_t298 : Cond.code yX0_can prog_1_method_8_code 3 (some .boolean) ∈ bb_T := bb_tb 298 (by decide +kernel) (by decide +kernel)
theorem bb_t295 : Cond.methodLink "BallotBoxLaw" 36 yX0_can ∈ bb_T := bb_tb 295 (by decide +kernel) (by decide +kernel)
theorem bb_t296 : Cond.instanceMethod yX0_can ∈ bb_T := bb_tb 296 (by decide +kernel) (by decide +kernel)
theorem bb_t297 : Cond.selects "BallotBox" yX0_can yX0_can ∈ bb_T := bb_tb 297 (by decide +kernel) (by decide +kernel)
theorem gL_can_X0_can : GoodIn wsL_can (wsV RL 36 RX0 yX0_can wsX0_can) := bb_gV bb_t295 bb_t296 bb_t297 bb_t1 bb_t298
theorem bb_t313 : Cond.code yX0_safe prog_1_method_9_code 3 (some .boolean) ∈ bb_T := bb_tb 313 (by decide +kernel) (by decide +kernel)
theorem bb_t310 : Cond.methodLink "BallotBoxLaw" 40 yX0_safe ∈ bb_T := bb_tb 310 (by decide +kernel) (by decide +kernel)
theorem bb_t311 : Cond.instanceMethod yX0_safe ∈ bb_T := bb_tb 311 (by decide +kernel) (by decide +kernel)
theorem bb_t312 : Cond.selects "BallotBox" yX0_safe yX0_safe ∈ bb_T := bb_tb 312 (by decide +kernel) (by decide +kernel)
theorem gL_safe_X0_safe : GoodIn wsL_safe (wsV RL 40 RX0 yX0_safe wsX0_safe) := bb_gV bb_t310 bb_t311 bb_t312 bb_t1 bb_t313
theorem bb_t324 : Cond.code yX0_free prog_1_method_10_code 4 (some .int) ∈ bb_T := bb_tb 324 (by decide +kernel) (by decide +kernel)
theorem bb_t321 : Cond.methodLink "BallotBoxLaw" 43 yX0_free ∈ bb_T := bb_tb 321 (by decide +kernel) (by decide +kernel)
theorem bb_t322 : Cond.instanceMethod yX0_free ∈ bb_T := bb_tb 322 (by decide +kernel) (by decide +kernel)
theorem bb_t323 : Cond.selects "BallotBox" yX0_free yX0_free ∈ bb_T := bb_tb 323 (by decide +kernel) (by decide +kernel)
theorem gL_free_X0_free : GoodIn wsL_free (wsV RL 43 RX0 yX0_free wsX0_free) := bb_gV bb_t321 bb_t322 bb_t323 bb_t1 bb_t324
theorem bb_t331 : Cond.code yX0_enough prog_1_method_11_code 2 (some .boolean) ∈ bb_T := bb_tb 331 (by decide +kernel) (by decide +kernel)
theorem bb_t328 : Cond.methodLink "BallotBoxLaw" 46 yX0_enough ∈ bb_T := bb_tb 328 (by decide +kernel) (by decide +kernel)
theorem bb_t329 : Cond.instanceMethod yX0_enough ∈ bb_T := bb_tb 329 (by decide +kernel) (by decide +kernel)
theorem bb_t330 : Cond.selects "BallotBox" yX0_enough yX0_enough ∈ bb_T := bb_tb 330 (by decide +kernel) (by decide +kernel)
theorem gL_enough_X0_enough : GoodIn wsL_enough (wsV RL 46 RX0 yX0_enough wsX0_enough) := bb_gV bb_t328 bb_t329 bb_t330 bb_t1 bb_t331
theorem bb_t338 : Cond.code yX0_blocks prog_1_method_12_code 2 (some .boolean) ∈ bb_T := bb_tb 338 (by decide +kernel) (by decide +kernel)
theorem bb_t335 : Cond.methodLink "BallotBoxLaw" 50 yX0_blocks ∈ bb_T := bb_tb 335 (by decide +kernel) (by decide +kernel)
theorem bb_t336 : Cond.instanceMethod yX0_blocks ∈ bb_T := bb_tb 336 (by decide +kernel) (by decide +kernel)
theorem bb_t337 : Cond.selects "BallotBox" yX0_blocks yX0_blocks ∈ bb_T := bb_tb 337 (by decide +kernel) (by decide +kernel)
theorem gL_blocks_X0_blocks : GoodIn wsL_blocks (wsV RL 50 RX0 yX0_blocks wsX0_blocks) := bb_gV bb_t335 bb_t336 bb_t337 bb_t1 bb_t338
theorem bb_t345 : Cond.code yX0_about prog_1_method_17_code 3 (some .int) ∈ bb_T := bb_tb 345 (by decide +kernel) (by decide +kernel)
theorem bb_t342 : Cond.methodLink "BallotBoxLaw" 53 yX0_about ∈ bb_T := bb_tb 342 (by decide +kernel) (by decide +kernel)
theorem bb_t343 : Cond.instanceMethod yX0_about ∈ bb_T := bb_tb 343 (by decide +kernel) (by decide +kernel)
theorem bb_t344 : Cond.selects "BallotBox" yX0_about yX0_about ∈ bb_T := bb_tb 344 (by decide +kernel) (by decide +kernel)
theorem gL_about_X0_about : GoodIn wsL_about (wsV RL 53 RX0 yX0_about wsX0_about) := bb_gV bb_t342 bb_t343 bb_t344 bb_t1 bb_t345
theorem bb_fX0_9 : Cond.fieldLink RX0 9 "BallotBox" "weights" "[I" ∈ bb_T := bb_tb 23 (by decide +kernel) (by decide +kernel)
theorem bb_fX0_13 : Cond.fieldLink RX0 13 "BallotBox" "promised" "[I" ∈ bb_T := bb_tb 24 (by decide +kernel) (by decide +kernel)
theorem bb_fX0_16 : Cond.fieldLink RX0 16 "BallotBox" "voters" "[I" ∈ bb_T := bb_tb 25 (by decide +kernel) (by decide +kernel)
theorem bb_fX0_19 : Cond.fieldLink RX0 19 "BallotBox" "votedFor" "[I" ∈ bb_T := bb_tb 26 (by decide +kernel) (by decide +kernel)
theorem bb_fX0_22 : Cond.fieldLink RX0 22 "BallotBox" "needed" "I" ∈ bb_T := bb_tb 27 (by decide +kernel) (by decide +kernel)
theorem bb_inX0 : ∀ w ∈ u_ws RX0 TX0 5, w ∈ bb_T := by
  intro w hw
  obtain ⟨k, hk, rfl⟩ := List.mem_map.mp hw
  have hk := List.mem_range.mp hk
  rcases (show k = 0 ∨ k = 1 ∨ k = 2 ∨ k = 3 ∨ k = 4 by omega) with rfl | rfl | rfl | rfl | rfl
  · exact bb_tb 28 (by decide +kernel) (by decide +kernel)
  · exact bb_tb 30 (by decide +kernel) (by decide +kernel)
  · exact bb_tb 32 (by decide +kernel) (by decide +kernel)
  · exact bb_tb 34 (by decide +kernel) (by decide +kernel)
  · exact bb_tb 36 (by decide +kernel) (by decide +kernel)
theorem bb_fX1_9 : Cond.fieldLink RX1 9 "BallotBoxModel" "weight" "[I" ∈ bb_T := bb_tb 357 (by decide +kernel) (by decide +kernel)
theorem bb_fX1_13 : Cond.fieldLink RX1 13 "BallotBoxModel" "promised" "[I" ∈ bb_T := bb_tb 358 (by decide +kernel) (by decide +kernel)
theorem bb_fX1_16 : Cond.fieldLink RX1 16 "BallotBoxModel" "vote" "[I" ∈ bb_T := bb_tb 359 (by decide +kernel) (by decide +kernel)
theorem bb_fX1_19 : Cond.fieldLink RX1 19 "BallotBoxModel" "need" "I" ∈ bb_T := bb_tb 360 (by decide +kernel) (by decide +kernel)
theorem bb_fX1_23 : Cond.fieldLink RX1 23 "BallotBoxModel" "thrown" "I" ∈ bb_T := bb_tb 361 (by decide +kernel) (by decide +kernel)
theorem bb_inX1 : ∀ w ∈ u_ws RX1 TX1 5, w ∈ bb_T := by
  intro w hw
  obtain ⟨k, hk, rfl⟩ := List.mem_map.mp hw
  have hk := List.mem_range.mp hk
  rcases (show k = 0 ∨ k = 1 ∨ k = 2 ∨ k = 3 ∨ k = 4 by omega) with rfl | rfl | rfl | rfl | rfl
  · exact bb_tb 362 (by decide +kernel) (by decide +kernel)
  · exact bb_tb 364 (by decide +kernel) (by decide +kernel)
  · exact bb_tb 366 (by decide +kernel) (by decide +kernel)
  · exact bb_tb 368 (by decide +kernel) (by decide +kernel)
  · exact bb_tb 370 (by decide +kernel) (by decide +kernel)
theorem bb_mmin_l : Cond.methodLink RX0 142 Lib.Math.min.name ∈ bb_T := bb_tb 81 (by decide +kernel) (by decide +kernel)
theorem bb_mmin_s : Cond.static Lib.Math.min.name ∈ bb_T := bb_tb 82 (by decide +kernel) (by decide +kernel)
theorem bb_mmin_c : Cond.code Lib.Math.min.name Lib.Math.min.code 2 (some .int) ∈ bb_T := bb_tb 83 (by decide +kernel) (by decide +kernel)
theorem bb_mmax_l : Cond.methodLink RX0 150 Lib.Math.max.name ∈ bb_T := bb_tb 273 (by decide +kernel) (by decide +kernel)
theorem bb_mmax_s : Cond.static Lib.Math.max.name ∈ bb_T := bb_tb 274 (by decide +kernel) (by decide +kernel)
theorem bb_mmax_c : Cond.code Lib.Math.max.name Lib.Math.max.code 2 (some .int) ∈ bb_T := bb_tb 275 (by decide +kernel) (by decide +kernel)
theorem bb_mini : Cond.initialized "java/lang/Math" ∈ bb_T := bb_tb 11 (by decide +kernel) (by decide +kernel)
theorem bb_cst265 : Cond.constant RJ 265 (1431655765 : Int32) ∈ bb_T := bb_tb 62 (by decide +kernel) (by decide +kernel)
theorem bb_cst266 : Cond.constant RJ 266 (858993459 : Int32) ∈ bb_T := bb_tb 63 (by decide +kernel) (by decide +kernel)
theorem bb_cst267 : Cond.constant RJ 267 (252645135 : Int32) ∈ bb_T := bb_tb 64 (by decide +kernel) (by decide +kernel)
