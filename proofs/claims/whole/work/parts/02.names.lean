/-! names, words and decode rows: by wip/whole/gen_names.py -/
def RX0 : String := "BallotBox"
def TX0 : u_T := fun k => match k with
  | 0 => ("BallotBox", "weights", "[I", true)
  | 1 => ("BallotBox", "promised", "[I", true)
  | 2 => ("BallotBox", "voters", "[I", true)
  | 3 => ("BallotBox", "votedFor", "[I", true)
  | _ => ("BallotBox", "needed", "I", false)
def tyX0 : Nat → FieldType := fun k => match k with
  | 0 => .array .int
  | 1 => .array .int
  | 2 => .array .int
  | 3 => .array .int
  | _ => .int
theorem nX0 : ∀ a, a < 5 → ∀ b, b < 5 → a ≠ b → (TX0 a).2.1 ≠ (TX0 b).2.1 := by decide +kernel
theorem tyX0_ok : ∀ k, k < 5 → parseFieldDescriptor (TX0 k).2.2.1 = some (tyX0 k) := by decide +kernel
def RX1 : String := "BallotBoxModel"
def TX1 : u_T := fun k => match k with
  | 0 => ("BallotBoxModel", "weight", "[I", true)
  | 1 => ("BallotBoxModel", "promised", "[I", true)
  | 2 => ("BallotBoxModel", "vote", "[I", true)
  | 3 => ("BallotBoxModel", "need", "I", false)
  | _ => ("BallotBoxModel", "thrown", "I", false)
def tyX1 : Nat → FieldType := fun k => match k with
  | 0 => .array .int
  | 1 => .array .int
  | 2 => .array .int
  | 3 => .int
  | _ => .int
theorem nX1 : ∀ a, a < 5 → ∀ b, b < 5 → a ≠ b → (TX1 a).2.1 ≠ (TX1 b).2.1 := by decide +kernel
theorem tyX1_ok : ∀ k, k < 5 → parseFieldDescriptor (TX1 k).2.2.1 = some (tyX1 k) := by decide +kernel
def RJ : String := "java/lang/Integer"
def RA : String := "java/util/Arrays"
def RL : String := "BallotBoxLaw"
abbrev vwCl : List vw_C := [(RX0, TX0, 5), (RX1, TX1, 5)]
def bb_T : List Cond := lw_tbl.filter goodWord
theorem bb_tb {w : Cond} (i : Nat) (h : tables_1[i]? = some w) (g : goodWord w = true) : w ∈ bb_T := List.mem_filter.mpr ⟨List.mem_append_right _ (List.mem_of_getElem? h), g⟩
theorem bb_ts {q : MethodName × Nat} (h : q ∈ lw_privs) : Cond.selects q.1.cls q.1 q.1 ∈ bb_T := List.mem_filter.mpr ⟨List.mem_append_left _ (List.mem_map.mpr ⟨q, h, rfl⟩), rfl⟩
theorem bb_tg : ∀ w ∈ bb_T, (w.onTables && w.keeps) = true ∨ ∃ ty, w = .arrayClass ty := fun w h => good_of_word (List.mem_filter.mp h).2
theorem bb_TL : GoodIn lw_tbl bb_T := fun w h => ⟨(List.mem_filter.mp h).1, bb_tg w h⟩
/-- a virtual call's words -/
theorem bb_gV {own C : String} {idx n : Nat} {y : MethodName} {b : ByteArray} {r : Option FieldType} {x : Cond} (h1 : Cond.methodLink own idx y ∈ bb_T) (h2 : Cond.instanceMethod y ∈ bb_T) (h3 : Cond.selects C y y ∈ bb_T) (h4 : Cond.initialized C ∈ bb_T) (h5 : Cond.code y b n r ∈ bb_T) : GoodIn (x :: bb_T) (wsV own idx C y (.code y b n r :: bb_T)) := by
  have key : ∀ w ∈ wsV own idx C y (.code y b n r :: bb_T), w ∈ bb_T := by
    intro w hw
    simp only [wsV, List.mem_append, List.mem_cons, List.not_mem_nil, or_false] at hw
    rcases hw with (rfl | rfl | rfl | rfl) | rfl | hw
    · exact h1
    · exact h2
    · exact h3
    · exact h4
    · exact h5
    · exact hw
  exact fun w hw => ⟨List.mem_cons_of_mem _ (key w hw), bb_tg w (key w hw)⟩
/-- a static call's words -/
theorem bb_gS {own : String} {idx n : Nat} {y : MethodName} {b : ByteArray} {r : Option FieldType} {x : Cond} (h1 : Cond.methodLink own idx y ∈ bb_T) (h2 : Cond.static y ∈ bb_T) (h4 : Cond.initialized own ∈ bb_T) (h5 : Cond.code y b n r ∈ bb_T) : GoodIn (x :: bb_T) (wsS own idx y (.code y b n r :: bb_T)) := by
  have key : ∀ w ∈ wsS own idx y (.code y b n r :: bb_T), w ∈ bb_T := by
    intro w hw
    simp only [wsS, List.mem_append, List.mem_cons, List.not_mem_nil, or_false] at hw
    rcases hw with (rfl | rfl | rfl) | rfl | hw
    · exact h1
    · exact h2
    · exact h4
    · exact h5
    · exact hw
  exact fun w hw => ⟨List.mem_cons_of_mem _ (key w hw), bb_tg w (key w hw)⟩
/-- a static call's words, of another class -/
theorem bb_gA {own : String} {idx n : Nat} {y : MethodName} {b : ByteArray} {r : Option FieldType} {x : Cond} (h1 : Cond.methodLink own idx y ∈ bb_T) (h2 : Cond.static y ∈ bb_T) (h4 : Cond.initialized y.cls ∈ bb_T) (h5 : Cond.code y b n r ∈ bb_T) : GoodIn (x :: bb_T) (va_wsS own idx y (.code y b n r :: bb_T)) := by
  have key : ∀ w ∈ va_wsS own idx y (.code y b n r :: bb_T), w ∈ bb_T := by
    intro w hw
    simp only [va_wsS, List.mem_append, List.mem_cons, List.not_mem_nil, or_false] at hw
    rcases hw with (rfl | rfl | rfl) | rfl | hw
    · exact h1
    · exact h2
    · exact h4
    · exact h5
    · exact hw
  exact fun w hw => ⟨List.mem_cons_of_mem _ (key w hw), bb_tg w (key w hw)⟩
abbrev cA_fill : ByteArray := prog_12_method_103_code
def yA_fill : MethodName := ⟨RA, "fill", "([II)V"⟩
def wsA_fill : List Cond := .code yA_fill cA_fill 4 none :: bb_T
abbrev cX0_sets : ByteArray := prog_1_method_13_code
def yX0_sets : MethodName := ⟨RX0, "sets", "()I"⟩
def wsX0_sets : List Cond := .code yX0_sets cX0_sets 3 (some .int) :: bb_T
abbrev cX0_isEnough : ByteArray := prog_1_method_25_code
def yX0_isEnough : MethodName := ⟨RX0, "isEnough", "(I)Z"⟩
def wsX0_isEnough : List Cond := .code yX0_isEnough cX0_isEnough 2 (some .boolean) :: bb_T
abbrev cX0_weightOf : ByteArray := prog_1_method_24_code
def yX0_weightOf : MethodName := ⟨RX0, "weightOf", "(I)I"⟩
def wsX0_weightOf : List Cond := .code yX0_weightOf cX0_weightOf 4 (some .int) :: bb_T
abbrev cX0_holds : ByteArray := prog_1_method_23_code
def yX0_holds : MethodName := ⟨RX0, "holds", "(II)Z"⟩
def wsX0_holds : List Cond := .code yX0_holds cX0_holds 2 (some .boolean) :: bb_T
abbrev cX0_least : ByteArray := prog_1_method_14_code
def yX0_least : MethodName := ⟨RX0, "least", "()I"⟩
def wsX0_least : List Cond := .code yX0_least cX0_least 4 (some .int) :: bb_T
abbrev cJ_bitCount : ByteArray := prog_7_method_49_code
def yJ_bitCount : MethodName := ⟨RJ, "bitCount", "(I)I"⟩
def wsJ_bitCount : List Cond := .code yJ_bitCount cJ_bitCount 1 (some .int) :: bb_T
abbrev cX0_meet : ByteArray := prog_1_method_15_code
def yX0_meet : MethodName := ⟨RX0, "meet", "()Z"⟩
def wsX0_meet : List Cond := .code yX0_meet cX0_meet 2 (some .boolean) :: bb_T
abbrev cX0_bare : ByteArray := prog_1_method_16_code
def yX0_bare : MethodName := ⟨RX0, "bare", "()I"⟩
def wsX0_bare : List Cond := .code yX0_bare cX0_bare 3 (some .int) :: bb_T
abbrev cX0_isBare : ByteArray := prog_1_method_26_code
def yX0_isBare : MethodName := ⟨RX0, "isBare", "(I)Z"⟩
def wsX0_isBare : List Cond := .code yX0_isBare cX0_isBare 3 (some .boolean) :: bb_T
abbrev cX0_lightestOf : ByteArray := prog_1_method_27_code
def yX0_lightestOf : MethodName := ⟨RX0, "lightestOf", "(I)I"⟩
def wsX0_lightestOf : List Cond := .code yX0_lightestOf cX0_lightestOf 4 (some .int) :: bb_T
abbrev cX0_count : ByteArray := prog_1_method_18_code
def yX0_count : MethodName := ⟨RX0, "count", "(I)I"⟩
def wsX0_count : List Cond := .code yX0_count cX0_count 2 (some .int) :: bb_T
abbrev cX0_allVotes : ByteArray := prog_1_method_38_code
def yX0_allVotes : MethodName := ⟨RX0, "allVotes", "()I"⟩
def wsX0_allVotes : List Cond := .code yX0_allVotes cX0_allVotes 3 (some .int) :: bb_T
abbrev cX0_ballotsWithChosen : ByteArray := prog_1_method_39_code
def yX0_ballotsWithChosen : MethodName := ⟨RX0, "ballotsWithChosen", "()I"⟩
def wsX0_ballotsWithChosen : List Cond := .code yX0_ballotsWithChosen cX0_ballotsWithChosen 3 (some .int) :: bb_T
abbrev cX0_chosenValue : ByteArray := prog_1_method_33_code
def yX0_chosenValue : MethodName := ⟨RX0, "chosenValue", "(I)I"⟩
def wsX0_chosenValue : List Cond := .code yX0_chosenValue cX0_chosenValue 2 (some .int) :: bb_T
abbrev cX0_differentChosen : ByteArray := prog_1_method_40_code
def yX0_differentChosen : MethodName := ⟨RX0, "differentChosen", "()I"⟩
def wsX0_differentChosen : List Cond := .code yX0_differentChosen cX0_differentChosen 4 (some .int) :: bb_T
abbrev cL_weight : ByteArray := method_3_code
def yL_weight : MethodName := ⟨RL, "weight", "(LBallotBox;II[J)I"⟩
def wsL_weight : List Cond := .codeWith yL_weight cL_weight 5 (some .int) [(0, 10, 13, 13), (0, 10, 17, 15)] :: bb_T
abbrev cX0_weight : ByteArray := prog_1_method_2_code
def yX0_weight : MethodName := ⟨RX0, "weight", "(II)I"⟩
def wsX0_weight : List Cond := .code yX0_weight cX0_weight 4 (some .int) :: bb_T
abbrev cX0_requireNode : ByteArray := prog_1_method_19_code
def yX0_requireNode : MethodName := ⟨RX0, "requireNode", "(I)V"⟩
def wsX0_requireNode : List Cond := .code yX0_requireNode cX0_requireNode 1 none :: bb_T
abbrev cL_need : ByteArray := method_4_code
def yL_need : MethodName := ⟨RL, "need", "(LBallotBox;I[J)I"⟩
def wsL_need : List Cond := .codeWith yL_need cL_need 4 (some .int) [(0, 9, 12, 15)] :: bb_T
abbrev cX0_need : ByteArray := prog_1_method_3_code
def yX0_need : MethodName := ⟨RX0, "need", "(I)I"⟩
def wsX0_need : List Cond := .code yX0_need cX0_need 3 (some .int) :: bb_T
abbrev cL_promise : ByteArray := method_5_code
def yL_promise : MethodName := ⟨RL, "promise", "(LBallotBox;II[J)I"⟩
def wsL_promise : List Cond := .codeWith yL_promise cL_promise 5 (some .int) [(0, 10, 13, 13), (0, 10, 17, 24)] :: bb_T
abbrev cX0_promise : ByteArray := prog_1_method_4_code
def yX0_promise : MethodName := ⟨RX0, "promise", "(II)I"⟩
def wsX0_promise : List Cond := .code yX0_promise cX0_promise 4 (some .int) :: bb_T
abbrev cX0_requireBallot : ByteArray := prog_1_method_21_code
def yX0_requireBallot : MethodName := ⟨RX0, "requireBallot", "(I)V"⟩
def wsX0_requireBallot : List Cond := .code yX0_requireBallot cX0_requireBallot 1 none :: bb_T
abbrev cL_vote : ByteArray := method_6_code
def yL_vote : MethodName := ⟨RL, "vote", "(LBallotBox;III[J)I"⟩
def wsL_vote : List Cond := .codeWith yL_vote cL_vote 6 (some .int) [(0, 12, 15, 13), (0, 12, 19, 24)] :: bb_T
abbrev cX0_vote : ByteArray := prog_1_method_5_code
def yX0_vote : MethodName := ⟨RX0, "vote", "(III)I"⟩
def wsX0_vote : List Cond := .code yX0_vote cX0_vote 4 (some .int) :: bb_T
abbrev cX0_requireValue : ByteArray := prog_1_method_22_code
def yX0_requireValue : MethodName := ⟨RX0, "requireValue", "(I)V"⟩
def wsX0_requireValue : List Cond := .code yX0_requireValue cX0_requireValue 1 none :: bb_T
abbrev cX0_isOpen : ByteArray := prog_1_method_28_code
def yX0_isOpen : MethodName := ⟨RX0, "isOpen", "(II)Z"⟩
def wsX0_isOpen : List Cond := .code yX0_isOpen cX0_isOpen 3 (some .boolean) :: bb_T
abbrev cX0_isOnlyValue : ByteArray := prog_1_method_30_code
def yX0_isOnlyValue : MethodName := ⟨RX0, "isOnlyValue", "(II)Z"⟩
def wsX0_isOnlyValue : List Cond := .code yX0_isOnlyValue cX0_isOnlyValue 3 (some .boolean) :: bb_T
abbrev cL_ask : ByteArray := method_7_code
def yL_ask : MethodName := ⟨RL, "ask", "(LBallotBox;II[J)I"⟩
def wsL_ask : List Cond := .codeWith yL_ask cL_ask 5 (some .int) [(0, 10, 13, 13), (0, 10, 17, 24)] :: bb_T
abbrev cX0_ask : ByteArray := prog_1_method_6_code
def yX0_ask : MethodName := ⟨RX0, "ask", "(II)I"⟩
def wsX0_ask : List Cond := .code yX0_ask cX0_ask 4 (some .int) :: bb_T
abbrev cX0_requireSet : ByteArray := prog_1_method_20_code
def yX0_requireSet : MethodName := ⟨RX0, "requireSet", "(I)V"⟩
def wsX0_requireSet : List Cond := .code yX0_requireSet cX0_requireSet 1 none :: bb_T
abbrev cX0_highestPromise : ByteArray := prog_1_method_34_code
def yX0_highestPromise : MethodName := ⟨RX0, "highestPromise", "(I)I"⟩
def wsX0_highestPromise : List Cond := .code yX0_highestPromise cX0_highestPromise 4 (some .int) :: bb_T
abbrev cX0_promiseAll : ByteArray := prog_1_method_35_code
def yX0_promiseAll : MethodName := ⟨RX0, "promiseAll", "(II)V"⟩
def wsX0_promiseAll : List Cond := .code yX0_promiseAll cX0_promiseAll 4 none :: bb_T
abbrev cX0_lastBallotBelow : ByteArray := prog_1_method_36_code
def yX0_lastBallotBelow : MethodName := ⟨RX0, "lastBallotBelow", "(II)I"⟩
def wsX0_lastBallotBelow : List Cond := .code yX0_lastBallotBelow cX0_lastBallotBelow 4 (some .int) :: bb_T
abbrev cL_chosen : ByteArray := method_8_code
def yL_chosen : MethodName := ⟨RL, "chosen", "(LBallotBox;I[J)I"⟩
def wsL_chosen : List Cond := .codeWith yL_chosen cL_chosen 4 (some .int) [(0, 9, 12, 13)] :: bb_T
abbrev cX0_chosen : ByteArray := prog_1_method_7_code
def yX0_chosen : MethodName := ⟨RX0, "chosen", "(I)I"⟩
def wsX0_chosen : List Cond := .code yX0_chosen cX0_chosen 2 (some .int) :: bb_T
abbrev cL_can : ByteArray := method_9_code
def yL_can : MethodName := ⟨RL, "can", "(LBallotBox;II[J)I"⟩
def wsL_can : List Cond := .codeWith yL_can cL_can 5 (some .int) [(0, 17, 20, 13)] :: bb_T
abbrev cX0_can : ByteArray := prog_1_method_8_code
def yX0_can : MethodName := ⟨RX0, "can", "(II)Z"⟩
def wsX0_can : List Cond := .code yX0_can cX0_can 3 (some .boolean) :: bb_T
abbrev cX0_hasWayToChoose : ByteArray := prog_1_method_31_code
def yX0_hasWayToChoose : MethodName := ⟨RX0, "hasWayToChoose", "(I)Z"⟩
def wsX0_hasWayToChoose : List Cond := .code yX0_hasWayToChoose cX0_hasWayToChoose 2 (some .boolean) :: bb_T
abbrev cX0_openNodes : ByteArray := prog_1_method_29_code
def yX0_openNodes : MethodName := ⟨RX0, "openNodes", "(I)I"⟩
def wsX0_openNodes : List Cond := .code yX0_openNodes cX0_openNodes 4 (some .int) :: bb_T
abbrev cL_safe : ByteArray := method_10_code
def yL_safe : MethodName := ⟨RL, "safe", "(LBallotBox;II[J)I"⟩
def wsL_safe : List Cond := .codeWith yL_safe cL_safe 5 (some .int) [(0, 17, 20, 13)] :: bb_T
abbrev cX0_safe : ByteArray := prog_1_method_9_code
def yX0_safe : MethodName := ⟨RX0, "safe", "(II)Z"⟩
def wsX0_safe : List Cond := .code yX0_safe cX0_safe 3 (some .boolean) :: bb_T
abbrev cX0_isSafe : ByteArray := prog_1_method_32_code
def yX0_isSafe : MethodName := ⟨RX0, "isSafe", "(II)Z"⟩
def wsX0_isSafe : List Cond := .code yX0_isSafe cX0_isSafe 4 (some .boolean) :: bb_T
abbrev cL_free : ByteArray := method_11_code
def yL_free : MethodName := ⟨RL, "free", "(LBallotBox;I[J)I"⟩
def wsL_free : List Cond := .codeWith yL_free cL_free 4 (some .int) [(0, 9, 12, 13)] :: bb_T
abbrev cX0_free : ByteArray := prog_1_method_10_code
def yX0_free : MethodName := ⟨RX0, "free", "(I)I"⟩
def wsX0_free : List Cond := .code yX0_free cX0_free 4 (some .int) :: bb_T
abbrev cL_enough : ByteArray := method_12_code
def yL_enough : MethodName := ⟨RL, "enough", "(LBallotBox;I[J)I"⟩
def wsL_enough : List Cond := .codeWith yL_enough cL_enough 4 (some .int) [(0, 16, 19, 13)] :: bb_T
abbrev cX0_enough : ByteArray := prog_1_method_11_code
def yX0_enough : MethodName := ⟨RX0, "enough", "(I)Z"⟩
def wsX0_enough : List Cond := .code yX0_enough cX0_enough 2 (some .boolean) :: bb_T
abbrev cL_blocks : ByteArray := method_13_code
def yL_blocks : MethodName := ⟨RL, "blocks", "(LBallotBox;I[J)I"⟩
def wsL_blocks : List Cond := .codeWith yL_blocks cL_blocks 4 (some .int) [(0, 16, 19, 13)] :: bb_T
abbrev cX0_blocks : ByteArray := prog_1_method_12_code
def yX0_blocks : MethodName := ⟨RX0, "blocks", "(I)Z"⟩
def wsX0_blocks : List Cond := .code yX0_blocks cX0_blocks 2 (some .boolean) :: bb_T
abbrev cL_about : ByteArray := method_14_code
def yL_about : MethodName := ⟨RL, "about", "(LBallotBox;II[J)I"⟩
def wsL_about : List Cond := .codeWith yL_about cL_about 5 (some .int) [(0, 10, 13, 13), (0, 10, 17, 15)] :: bb_T
abbrev cX0_about : ByteArray := prog_1_method_17_code
def yX0_about : MethodName := ⟨RX0, "about", "(II)I"⟩
def wsX0_about : List Cond := .code yX0_about cX0_about 3 (some .int) :: bb_T
abbrev cX0_ballotsVotedIn : ByteArray := prog_1_method_37_code
def yX0_ballotsVotedIn : MethodName := ⟨RX0, "ballotsVotedIn", "(I)I"⟩
def wsX0_ballotsVotedIn : List Cond := .code yX0_ballotsVotedIn cX0_ballotsVotedIn 4 (some .int) :: bb_T
abbrev cX1_thrown : ByteArray := prog_3_method_2_code
def yX1_thrown : MethodName := ⟨RX1, "thrown", "()I"⟩
def wsX1_thrown : List Cond := .code yX1_thrown cX1_thrown 1 (some .int) :: bb_T
abbrev cX1_weight : ByteArray := prog_3_method_5_code
def yX1_weight : MethodName := ⟨RX1, "weight", "(II)I"⟩
def wsX1_weight : List Cond := .code yX1_weight cX1_weight 4 (some .int) :: bb_T
abbrev cX1_out : ByteArray := prog_3_method_4_code
def yX1_out : MethodName := ⟨RX1, "out", "(II)Z"⟩
def wsX1_out : List Cond := .code yX1_out cX1_out 2 (some .boolean) :: bb_T
abbrev cX1_need : ByteArray := prog_3_method_6_code
def yX1_need : MethodName := ⟨RX1, "need", "(I)I"⟩
def wsX1_need : List Cond := .code yX1_need cX1_need 3 (some .int) :: bb_T
abbrev cX1_promise : ByteArray := prog_3_method_7_code
def yX1_promise : MethodName := ⟨RX1, "promise", "(II)I"⟩
def wsX1_promise : List Cond := .code yX1_promise cX1_promise 4 (some .int) :: bb_T
abbrev cX1_fail : ByteArray := prog_3_method_3_code
def yX1_fail : MethodName := ⟨RX1, "fail", "(I)I"⟩
def wsX1_fail : List Cond := .code yX1_fail cX1_fail 2 (some .int) :: bb_T
abbrev cX1_vote : ByteArray := prog_3_method_11_code
def yX1_vote : MethodName := ⟨RX1, "vote", "(III)I"⟩
def wsX1_vote : List Cond := .code yX1_vote cX1_vote 6 (some .int) :: bb_T
abbrev cX1_isOpen : ByteArray := prog_3_method_9_code
def yX1_isOpen : MethodName := ⟨RX1, "isOpen", "(II)Z"⟩
def wsX1_isOpen : List Cond := .code yX1_isOpen cX1_isOpen 3 (some .boolean) :: bb_T
abbrev cX1_voteOf : ByteArray := prog_3_method_8_code
def yX1_voteOf : MethodName := ⟨RX1, "voteOf", "(II)I"⟩
def wsX1_voteOf : List Cond := .code yX1_voteOf cX1_voteOf 3 (some .int) :: bb_T
abbrev cX1_others : ByteArray := prog_3_method_10_code
def yX1_others : MethodName := ⟨RX1, "others", "(II)Z"⟩
def wsX1_others : List Cond := .code yX1_others cX1_others 4 (some .boolean) :: bb_T
abbrev cX1_ask : ByteArray := prog_3_method_13_code
def yX1_ask : MethodName := ⟨RX1, "ask", "(II)I"⟩
def wsX1_ask : List Cond := .code yX1_ask cX1_ask 7 (some .int) :: bb_T
abbrev cX1_isEnough : ByteArray := prog_3_method_12_code
def yX1_isEnough : MethodName := ⟨RX1, "isEnough", "(I)Z"⟩
def wsX1_isEnough : List Cond := .code yX1_isEnough cX1_isEnough 4 (some .boolean) :: bb_T
abbrev cX1_chosen : ByteArray := prog_3_method_15_code
def yX1_chosen : MethodName := ⟨RX1, "chosen", "(I)I"⟩
def wsX1_chosen : List Cond := .code yX1_chosen cX1_chosen 2 (some .int) :: bb_T
abbrev cX1_isChosen : ByteArray := prog_3_method_14_code
def yX1_isChosen : MethodName := ⟨RX1, "isChosen", "(I)I"⟩
def wsX1_isChosen : List Cond := .code yX1_isChosen cX1_isChosen 5 (some .int) :: bb_T
abbrev cX1_can : ByteArray := prog_3_method_17_code
def yX1_can : MethodName := ⟨RX1, "can", "(II)Z"⟩
def wsX1_can : List Cond := .code yX1_can cX1_can 3 (some .boolean) :: bb_T
abbrev cX1_canBe : ByteArray := prog_3_method_16_code
def yX1_canBe : MethodName := ⟨RX1, "canBe", "(II)Z"⟩
def wsX1_canBe : List Cond := .code yX1_canBe cX1_canBe 5 (some .boolean) :: bb_T
abbrev cX1_safe : ByteArray := prog_3_method_19_code
def yX1_safe : MethodName := ⟨RX1, "safe", "(II)Z"⟩
def wsX1_safe : List Cond := .code yX1_safe cX1_safe 3 (some .boolean) :: bb_T
abbrev cX1_isSafe : ByteArray := prog_3_method_18_code
def yX1_isSafe : MethodName := ⟨RX1, "isSafe", "(II)Z"⟩
def wsX1_isSafe : List Cond := .code yX1_isSafe cX1_isSafe 5 (some .boolean) :: bb_T
abbrev cX1_free : ByteArray := prog_3_method_20_code
def yX1_free : MethodName := ⟨RX1, "free", "(I)I"⟩
def wsX1_free : List Cond := .code yX1_free cX1_free 4 (some .int) :: bb_T
abbrev cX1_enough : ByteArray := prog_3_method_21_code
def yX1_enough : MethodName := ⟨RX1, "enough", "(I)Z"⟩
def wsX1_enough : List Cond := .code yX1_enough cX1_enough 2 (some .boolean) :: bb_T
abbrev cX1_blocks : ByteArray := prog_3_method_22_code
def yX1_blocks : MethodName := ⟨RX1, "blocks", "(I)Z"⟩
def wsX1_blocks : List Cond := .code yX1_blocks cX1_blocks 3 (some .boolean) :: bb_T
abbrev cX1_sets : ByteArray := prog_3_method_23_code
def yX1_sets : MethodName := ⟨RX1, "sets", "()I"⟩
def wsX1_sets : List Cond := .code yX1_sets cX1_sets 3 (some .int) :: bb_T
abbrev cX1_least : ByteArray := prog_3_method_25_code
def yX1_least : MethodName := ⟨RX1, "least", "()I"⟩
def wsX1_least : List Cond := .code yX1_least cX1_least 3 (some .int) :: bb_T
abbrev cX1_size : ByteArray := prog_3_method_24_code
def yX1_size : MethodName := ⟨RX1, "size", "(I)I"⟩
def wsX1_size : List Cond := .code yX1_size cX1_size 3 (some .int) :: bb_T
abbrev cX1_meet : ByteArray := prog_3_method_26_code
def yX1_meet : MethodName := ⟨RX1, "meet", "()Z"⟩
def wsX1_meet : List Cond := .code yX1_meet cX1_meet 2 (some .boolean) :: bb_T
abbrev cX1_bare : ByteArray := prog_3_method_27_code
def yX1_bare : MethodName := ⟨RX1, "bare", "()I"⟩
def wsX1_bare : List Cond := .code yX1_bare cX1_bare 5 (some .int) :: bb_T
abbrev cX1_about : ByteArray := prog_3_method_28_code
def yX1_about : MethodName := ⟨RX1, "about", "(II)I"⟩
def wsX1_about : List Cond := .code yX1_about cX1_about 6 (some .int) :: bb_T
abbrev cX1_count : ByteArray := prog_3_method_29_code
def yX1_count : MethodName := ⟨RX1, "count", "(I)I"⟩
def wsX1_count : List Cond := .code yX1_count cX1_count 6 (some .int) :: bb_T
abbrev cL_law : ByteArray := code
