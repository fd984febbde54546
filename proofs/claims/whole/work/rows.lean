section
-- ===== PART A: goes FIRST, ahead of the names: the tables' words, and 'selects' of the private methods out of them =====
/-- a private method of a class that the tables say can be made, by its rows of tables_1 -/
def lw_okq (q : MethodName × Nat) : Prop := (q.1.cls ≠ "java/lang/invoke/MethodHandle" ∧ q.1.cls ≠ "java/lang/invoke/VarHandle") ∧ Cond.instantiable q.1.cls q.2 ∈ tables_1 ∧ Cond.privateMethod q.1 ∈ tables_1 ∧ Cond.instanceMethod q.1 ∈ tables_1
theorem lw_p0 : lw_okq (⟨"BallotBox", "isEnough", "(I)Z"⟩, 5) := ⟨⟨by decide +kernel, by decide +kernel⟩, List.mem_of_getElem? (i := 13) (by decide +kernel), List.mem_of_getElem? (i := 45) (by decide +kernel), List.mem_of_getElem? (i := 46) (by decide +kernel)⟩
theorem lw_p1 : lw_okq (⟨"BallotBox", "weightOf", "(I)I"⟩, 5) := ⟨⟨by decide +kernel, by decide +kernel⟩, List.mem_of_getElem? (i := 13) (by decide +kernel), List.mem_of_getElem? (i := 49) (by decide +kernel), List.mem_of_getElem? (i := 50) (by decide +kernel)⟩
theorem lw_p2 : lw_okq (⟨"BallotBox", "isBare", "(I)Z"⟩, 5) := ⟨⟨by decide +kernel, by decide +kernel⟩, List.mem_of_getElem? (i := 13) (by decide +kernel), List.mem_of_getElem? (i := 74) (by decide +kernel), List.mem_of_getElem? (i := 75) (by decide +kernel)⟩
theorem lw_p3 : lw_okq (⟨"BallotBox", "lightestOf", "(I)I"⟩, 5) := ⟨⟨by decide +kernel, by decide +kernel⟩, List.mem_of_getElem? (i := 13) (by decide +kernel), List.mem_of_getElem? (i := 78) (by decide +kernel), List.mem_of_getElem? (i := 79) (by decide +kernel)⟩
theorem lw_p4 : lw_okq (⟨"BallotBox", "allVotes", "()I"⟩, 5) := ⟨⟨by decide +kernel, by decide +kernel⟩, List.mem_of_getElem? (i := 13) (by decide +kernel), List.mem_of_getElem? (i := 89) (by decide +kernel), List.mem_of_getElem? (i := 90) (by decide +kernel)⟩
theorem lw_p5 : lw_okq (⟨"BallotBox", "ballotsWithChosen", "()I"⟩, 5) := ⟨⟨by decide +kernel, by decide +kernel⟩, List.mem_of_getElem? (i := 13) (by decide +kernel), List.mem_of_getElem? (i := 93) (by decide +kernel), List.mem_of_getElem? (i := 94) (by decide +kernel)⟩
theorem lw_p6 : lw_okq (⟨"BallotBox", "chosenValue", "(I)I"⟩, 5) := ⟨⟨by decide +kernel, by decide +kernel⟩, List.mem_of_getElem? (i := 13) (by decide +kernel), List.mem_of_getElem? (i := 97) (by decide +kernel), List.mem_of_getElem? (i := 98) (by decide +kernel)⟩
theorem lw_p7 : lw_okq (⟨"BallotBox", "differentChosen", "()I"⟩, 5) := ⟨⟨by decide +kernel, by decide +kernel⟩, List.mem_of_getElem? (i := 13) (by decide +kernel), List.mem_of_getElem? (i := 101) (by decide +kernel), List.mem_of_getElem? (i := 102) (by decide +kernel)⟩
theorem lw_p8 : lw_okq (⟨"java/lang/Throwable", "fillInStackTrace", "(I)Ljava/lang/Throwable;"⟩, 6) := ⟨⟨by decide +kernel, by decide +kernel⟩, List.mem_of_getElem? (i := 155) (by decide +kernel), List.mem_of_getElem? (i := 153) (by decide +kernel), List.mem_of_getElem? (i := 154) (by decide +kernel)⟩
theorem lw_p9 : lw_okq (⟨"BallotBox", "isOpen", "(II)Z"⟩, 5) := ⟨⟨by decide +kernel, by decide +kernel⟩, List.mem_of_getElem? (i := 13) (by decide +kernel), List.mem_of_getElem? (i := 248) (by decide +kernel), List.mem_of_getElem? (i := 249) (by decide +kernel)⟩
theorem lw_p10 : lw_okq (⟨"BallotBox", "isOnlyValue", "(II)Z"⟩, 5) := ⟨⟨by decide +kernel, by decide +kernel⟩, List.mem_of_getElem? (i := 13) (by decide +kernel), List.mem_of_getElem? (i := 253) (by decide +kernel), List.mem_of_getElem? (i := 254) (by decide +kernel)⟩
theorem lw_p11 : lw_okq (⟨"BallotBox", "highestPromise", "(I)I"⟩, 5) := ⟨⟨by decide +kernel, by decide +kernel⟩, List.mem_of_getElem? (i := 13) (by decide +kernel), List.mem_of_getElem? (i := 270) (by decide +kernel), List.mem_of_getElem? (i := 271) (by decide +kernel)⟩
theorem lw_p12 : lw_okq (⟨"BallotBox", "promiseAll", "(II)V"⟩, 5) := ⟨⟨by decide +kernel, by decide +kernel⟩, List.mem_of_getElem? (i := 13) (by decide +kernel), List.mem_of_getElem? (i := 278) (by decide +kernel), List.mem_of_getElem? (i := 279) (by decide +kernel)⟩
theorem lw_p13 : lw_okq (⟨"BallotBox", "lastBallotBelow", "(II)I"⟩, 5) := ⟨⟨by decide +kernel, by decide +kernel⟩, List.mem_of_getElem? (i := 13) (by decide +kernel), List.mem_of_getElem? (i := 282) (by decide +kernel), List.mem_of_getElem? (i := 283) (by decide +kernel)⟩
theorem lw_p14 : lw_okq (⟨"BallotBox", "hasWayToChoose", "(I)Z"⟩, 5) := ⟨⟨by decide +kernel, by decide +kernel⟩, List.mem_of_getElem? (i := 13) (by decide +kernel), List.mem_of_getElem? (i := 300) (by decide +kernel), List.mem_of_getElem? (i := 301) (by decide +kernel)⟩
theorem lw_p15 : lw_okq (⟨"BallotBox", "openNodes", "(I)I"⟩, 5) := ⟨⟨by decide +kernel, by decide +kernel⟩, List.mem_of_getElem? (i := 13) (by decide +kernel), List.mem_of_getElem? (i := 304) (by decide +kernel), List.mem_of_getElem? (i := 305) (by decide +kernel)⟩
def lw_privs_1 : List (MethodName × Nat) := [(⟨"BallotBox", "isEnough", "(I)Z"⟩, 5), (⟨"BallotBox", "weightOf", "(I)I"⟩, 5), (⟨"BallotBox", "isBare", "(I)Z"⟩, 5), (⟨"BallotBox", "lightestOf", "(I)I"⟩, 5), (⟨"BallotBox", "allVotes", "()I"⟩, 5), (⟨"BallotBox", "ballotsWithChosen", "()I"⟩, 5), (⟨"BallotBox", "chosenValue", "(I)I"⟩, 5), (⟨"BallotBox", "differentChosen", "()I"⟩, 5), (⟨"java/lang/Throwable", "fillInStackTrace", "(I)Ljava/lang/Throwable;"⟩, 6), (⟨"BallotBox", "isOpen", "(II)Z"⟩, 5), (⟨"BallotBox", "isOnlyValue", "(II)Z"⟩, 5), (⟨"BallotBox", "highestPromise", "(I)I"⟩, 5), (⟨"BallotBox", "promiseAll", "(II)V"⟩, 5), (⟨"BallotBox", "lastBallotBelow", "(II)I"⟩, 5), (⟨"BallotBox", "hasWayToChoose", "(I)Z"⟩, 5), (⟨"BallotBox", "openNodes", "(I)I"⟩, 5)]
theorem lw_r1 : ∀ q ∈ lw_privs_1, lw_okq q := List.forall_mem_cons.mpr ⟨lw_p0, List.forall_mem_cons.mpr ⟨lw_p1, List.forall_mem_cons.mpr ⟨lw_p2, List.forall_mem_cons.mpr ⟨lw_p3, List.forall_mem_cons.mpr ⟨lw_p4, List.forall_mem_cons.mpr ⟨lw_p5, List.forall_mem_cons.mpr ⟨lw_p6, List.forall_mem_cons.mpr ⟨lw_p7, List.forall_mem_cons.mpr ⟨lw_p8, List.forall_mem_cons.mpr ⟨lw_p9, List.forall_mem_cons.mpr ⟨lw_p10, List.forall_mem_cons.mpr ⟨lw_p11, List.forall_mem_cons.mpr ⟨lw_p12, List.forall_mem_cons.mpr ⟨lw_p13, List.forall_mem_cons.mpr ⟨lw_p14, List.forall_mem_cons.mpr ⟨lw_p15, fun _ h => absurd h List.not_mem_nil⟩⟩⟩⟩⟩⟩⟩⟩⟩⟩⟩⟩⟩⟩⟩⟩
theorem lw_p16 : lw_okq (⟨"BallotBox", "isSafe", "(II)Z"⟩, 5) := ⟨⟨by decide +kernel, by decide +kernel⟩, List.mem_of_getElem? (i := 13) (by decide +kernel), List.mem_of_getElem? (i := 315) (by decide +kernel), List.mem_of_getElem? (i := 316) (by decide +kernel)⟩
theorem lw_p17 : lw_okq (⟨"BallotBox", "ballotsVotedIn", "(I)I"⟩, 5) := ⟨⟨by decide +kernel, by decide +kernel⟩, List.mem_of_getElem? (i := 13) (by decide +kernel), List.mem_of_getElem? (i := 347) (by decide +kernel), List.mem_of_getElem? (i := 348) (by decide +kernel)⟩
theorem lw_p18 : lw_okq (⟨"BallotBoxModel", "fail", "(I)I"⟩, 5) := ⟨⟨by decide +kernel, by decide +kernel⟩, List.mem_of_getElem? (i := 352) (by decide +kernel), List.mem_of_getElem? (i := 393) (by decide +kernel), List.mem_of_getElem? (i := 394) (by decide +kernel)⟩
theorem lw_p19 : lw_okq (⟨"BallotBoxModel", "isOpen", "(II)Z"⟩, 5) := ⟨⟨by decide +kernel, by decide +kernel⟩, List.mem_of_getElem? (i := 352) (by decide +kernel), List.mem_of_getElem? (i := 401) (by decide +kernel), List.mem_of_getElem? (i := 402) (by decide +kernel)⟩
theorem lw_p20 : lw_okq (⟨"BallotBoxModel", "voteOf", "(II)I"⟩, 5) := ⟨⟨by decide +kernel, by decide +kernel⟩, List.mem_of_getElem? (i := 352) (by decide +kernel), List.mem_of_getElem? (i := 405) (by decide +kernel), List.mem_of_getElem? (i := 406) (by decide +kernel)⟩
theorem lw_p21 : lw_okq (⟨"BallotBoxModel", "others", "(II)Z"⟩, 5) := ⟨⟨by decide +kernel, by decide +kernel⟩, List.mem_of_getElem? (i := 352) (by decide +kernel), List.mem_of_getElem? (i := 409) (by decide +kernel), List.mem_of_getElem? (i := 410) (by decide +kernel)⟩
theorem lw_p22 : lw_okq (⟨"BallotBoxModel", "isEnough", "(I)Z"⟩, 5) := ⟨⟨by decide +kernel, by decide +kernel⟩, List.mem_of_getElem? (i := 352) (by decide +kernel), List.mem_of_getElem? (i := 417) (by decide +kernel), List.mem_of_getElem? (i := 418) (by decide +kernel)⟩
theorem lw_p23 : lw_okq (⟨"BallotBoxModel", "isChosen", "(I)I"⟩, 5) := ⟨⟨by decide +kernel, by decide +kernel⟩, List.mem_of_getElem? (i := 352) (by decide +kernel), List.mem_of_getElem? (i := 425) (by decide +kernel), List.mem_of_getElem? (i := 426) (by decide +kernel)⟩
theorem lw_p24 : lw_okq (⟨"BallotBoxModel", "canBe", "(II)Z"⟩, 5) := ⟨⟨by decide +kernel, by decide +kernel⟩, List.mem_of_getElem? (i := 352) (by decide +kernel), List.mem_of_getElem? (i := 433) (by decide +kernel), List.mem_of_getElem? (i := 434) (by decide +kernel)⟩
theorem lw_p25 : lw_okq (⟨"BallotBoxModel", "isSafe", "(II)Z"⟩, 5) := ⟨⟨by decide +kernel, by decide +kernel⟩, List.mem_of_getElem? (i := 352) (by decide +kernel), List.mem_of_getElem? (i := 441) (by decide +kernel), List.mem_of_getElem? (i := 442) (by decide +kernel)⟩
def lw_privs_2 : List (MethodName × Nat) := [(⟨"BallotBox", "isSafe", "(II)Z"⟩, 5), (⟨"BallotBox", "ballotsVotedIn", "(I)I"⟩, 5), (⟨"BallotBoxModel", "fail", "(I)I"⟩, 5), (⟨"BallotBoxModel", "isOpen", "(II)Z"⟩, 5), (⟨"BallotBoxModel", "voteOf", "(II)I"⟩, 5), (⟨"BallotBoxModel", "others", "(II)Z"⟩, 5), (⟨"BallotBoxModel", "isEnough", "(I)Z"⟩, 5), (⟨"BallotBoxModel", "isChosen", "(I)I"⟩, 5), (⟨"BallotBoxModel", "canBe", "(II)Z"⟩, 5), (⟨"BallotBoxModel", "isSafe", "(II)Z"⟩, 5)]
theorem lw_r2 : ∀ q ∈ lw_privs_2, lw_okq q := List.forall_mem_cons.mpr ⟨lw_p16, List.forall_mem_cons.mpr ⟨lw_p17, List.forall_mem_cons.mpr ⟨lw_p18, List.forall_mem_cons.mpr ⟨lw_p19, List.forall_mem_cons.mpr ⟨lw_p20, List.forall_mem_cons.mpr ⟨lw_p21, List.forall_mem_cons.mpr ⟨lw_p22, List.forall_mem_cons.mpr ⟨lw_p23, List.forall_mem_cons.mpr ⟨lw_p24, List.forall_mem_cons.mpr ⟨lw_p25, fun _ h => absurd h List.not_mem_nil⟩⟩⟩⟩⟩⟩⟩⟩⟩⟩
def lw_privs : List (MethodName × Nat) := lw_privs_1 ++ (lw_privs_2)
def lw_tbl : List Cond := k2_sels lw_privs ++ tables_1
theorem lw_privs_ok : ∀ q ∈ lw_privs, lw_okq q := by
  show ∀ q ∈ lw_privs_1 ++ (lw_privs_2), lw_okq q
  exact List.forall_mem_append.mpr ⟨lw_r1, lw_r2⟩
-- ===== end of PART A; then your names; then what follows =====
end
section
/-! names, words and decode rows: by wip/whole/gen_names.py -/
def RX0 : String := "BallotBox"
def TX0 : u_T := fun k => match k with
  | 0 => ("BallotBox", "weights", "[I", true)
  | 1 => ("BallotBox", "promised", "[I", true)
  | 2 => ("BallotBox", "voters", "[I", true)
  | 3 => ("BallotBox", "votedFor", "[I", true)
  | _ => ("BallotBox", "needed", "I", false)
def tyX0 : Nat → FieldType := fun k => match k with
  | 0 => .array .int
  | 1 => .array .int
  | 2 => .array .int
  | 3 => .array .int
  | _ => .int
theorem nX0 : ∀ a, a < 5 → ∀ b, b < 5 → a ≠ b → (TX0 a).2.1 ≠ (TX0 b).2.1 := by decide +kernel
theorem tyX0_ok : ∀ k, k < 5 → parseFieldDescriptor (TX0 k).2.2.1 = some (tyX0 k) := by decide +kernel
def RX1 : String := "BallotBoxModel"
def TX1 : u_T := fun k => match k with
  | 0 => ("BallotBoxModel", "weight", "[I", true)
  | 1 => ("BallotBoxModel", "promised", "[I", true)
  | 2 => ("BallotBoxModel", "vote", "[I", true)
  | 3 => ("BallotBoxModel", "need", "I", false)
  | _ => ("BallotBoxModel", "thrown", "I", false)
def tyX1 : Nat → FieldType := fun k => match k with
  | 0 => .array .int
  | 1 => .array .int
  | 2 => .array .int
  | 3 => .int
  | _ => .int
theorem nX1 : ∀ a, a < 5 → ∀ b, b < 5 → a ≠ b → (TX1 a).2.1 ≠ (TX1 b).2.1 := by decide +kernel
theorem tyX1_ok : ∀ k, k < 5 → parseFieldDescriptor (TX1 k).2.2.1 = some (tyX1 k) := by decide +kernel
def RJ : String := "java/lang/Integer"
def RA : String := "java/util/Arrays"
def RL : String := "BallotBoxLaw"
abbrev vwCl : List vw_C := [(RX0, TX0, 5), (RX1, TX1, 5)]
def bb_T : List Cond := lw_tbl.filter goodWord
theorem bb_tb {w : Cond} (i : Nat) (h : tables_1[i]? = some w) (g : goodWord w = true) : w ∈ bb_T := List.mem_filter.mpr ⟨List.mem_append_right _ (List.mem_of_getElem? h), g⟩
theorem bb_ts {q : MethodName × Nat} (h : q ∈ lw_privs) : Cond.selects q.1.cls q.1 q.1 ∈ bb_T := List.mem_filter.mpr ⟨List.mem_append_left _ (List.mem_map.mpr ⟨q, h, rfl⟩), rfl⟩
theorem bb_tg : ∀ w ∈ bb_T, (w.onTables && w.keeps) = true ∨ ∃ ty, w = .arrayClass ty := fun w h => good_of_word (List.mem_filter.mp h).2
theorem bb_TL : GoodIn lw_tbl bb_T := fun w h => ⟨(List.mem_filter.mp h).1, bb_tg w h⟩
/-- a virtual call's words -/
theorem bb_gV {own C : String} {idx n : Nat} {y : MethodName} {b : ByteArray} {r : Option FieldType} {x : Cond} (h1 : Cond.methodLink own idx y ∈ bb_T) (h2 : Cond.instanceMethod y ∈ bb_T) (h3 : Cond.selects C y y ∈ bb_T) (h4 : Cond.initialized C ∈ bb_T) (h5 : Cond.code y b n r ∈ bb_T) : GoodIn (x :: bb_T) (wsV own idx C y (.code y b n r :: bb_T)) := by
  have key : ∀ w ∈ wsV own idx C y (.code y b n r :: bb_T), w ∈ bb_T := by
    intro w hw
    simp only [wsV, List.mem_append, List.mem_cons, List.not_mem_nil, or_false] at hw
    rcases hw with (rfl | rfl | rfl | rfl) | rfl | hw
    · exact h1
    · exact h2
    · exact h3
    · exact h4
    · exact h5
    · exact hw
  exact fun w hw => ⟨List.mem_cons_of_mem _ (key w hw), bb_tg w (key w hw)⟩
/-- a static call's words -/
theorem bb_gS {own : String} {idx n : Nat} {y : MethodName} {b : ByteArray} {r : Option FieldType} {x : Cond} (h1 : Cond.methodLink own idx y ∈ bb_T) (h2 : Cond.static y ∈ bb_T) (h4 : Cond.initialized own ∈ bb_T) (h5 : Cond.code y b n r ∈ bb_T) : GoodIn (x :: bb_T) (wsS own idx y (.code y b n r :: bb_T)) := by
  have key : ∀ w ∈ wsS own idx y (.code y b n r :: bb_T), w ∈ bb_T := by
    intro w hw
    simp only [wsS, List.mem_append, List.mem_cons, List.not_mem_nil, or_false] at hw
    rcases hw with (rfl | rfl | rfl) | rfl | hw
    · exact h1
    · exact h2
    · exact h4
    · exact h5
    · exact hw
  exact fun w hw => ⟨List.mem_cons_of_mem _ (key w hw), bb_tg w (key w hw)⟩
/-- a static call's words, of another class -/
theorem bb_gA {own : String} {idx n : Nat} {y : MethodName} {b : ByteArray} {r : Option FieldType} {x : Cond} (h1 : Cond.methodLink own idx y ∈ bb_T) (h2 : Cond.static y ∈ bb_T) (h4 : Cond.initialized y.cls ∈ bb_T) (h5 : Cond.code y b n r ∈ bb_T) : GoodIn (x :: bb_T) (va_wsS own idx y (.code y b n r :: bb_T)) := by
  have key : ∀ w ∈ va_wsS own idx y (.code y b n r :: bb_T), w ∈ bb_T := by
    intro w hw
    simp only [va_wsS, List.mem_append, List.mem_cons, List.not_mem_nil, or_false] at hw
    rcases hw with (rfl | rfl | rfl) | rfl | hw
    · exact h1
    · exact h2
    · exact h4
    · exact h5
    · exact hw
  exact fun w hw => ⟨List.mem_cons_of_mem _ (key w hw), bb_tg w (key w hw)⟩
abbrev cA_fill : ByteArray := prog_12_method_103_code
def yA_fill : MethodName := ⟨RA, "fill", "([II)V"⟩
def wsA_fill : List Cond := .code yA_fill cA_fill 4 none :: bb_T
abbrev cX0_sets : ByteArray := prog_1_method_13_code
def yX0_sets : MethodName := ⟨RX0, "sets", "()I"⟩
def wsX0_sets : List Cond := .code yX0_sets cX0_sets 3 (some .int) :: bb_T
abbrev cX0_isEnough : ByteArray := prog_1_method_25_code
def yX0_isEnough : MethodName := ⟨RX0, "isEnough", "(I)Z"⟩
def wsX0_isEnough : List Cond := .code yX0_isEnough cX0_isEnough 2 (some .boolean) :: bb_T
abbrev cX0_weightOf : ByteArray := prog_1_method_24_code
def yX0_weightOf : MethodName := ⟨RX0, "weightOf", "(I)I"⟩
def wsX0_weightOf : List Cond := .code yX0_weightOf cX0_weightOf 4 (some .int) :: bb_T
abbrev cX0_holds : ByteArray := prog_1_method_23_code
def yX0_holds : MethodName := ⟨RX0, "holds", "(II)Z"⟩
def wsX0_holds : List Cond := .code yX0_holds cX0_holds 2 (some .boolean) :: bb_T
abbrev cX0_least : ByteArray := prog_1_method_14_code
def yX0_least : MethodName := ⟨RX0, "least", "()I"⟩
def wsX0_least : List Cond := .code yX0_least cX0_least 4 (some .int) :: bb_T
abbrev cJ_bitCount : ByteArray := prog_7_method_49_code
def yJ_bitCount : MethodName := ⟨RJ, "bitCount", "(I)I"⟩
def wsJ_bitCount : List Cond := .code yJ_bitCount cJ_bitCount 1 (some .int) :: bb_T
abbrev cX0_meet : ByteArray := prog_1_method_15_code
def yX0_meet : MethodName := ⟨RX0, "meet", "()Z"⟩
def wsX0_meet : List Cond := .code yX0_meet cX0_meet 2 (some .boolean) :: bb_T
abbrev cX0_bare : ByteArray := prog_1_method_16_code
def yX0_bare : MethodName := ⟨RX0, "bare", "()I"⟩
def wsX0_bare : List Cond := .code yX0_bare cX0_bare 3 (some .int) :: bb_T
abbrev cX0_isBare : ByteArray := prog_1_method_26_code
def yX0_isBare : MethodName := ⟨RX0, "isBare", "(I)Z"⟩
def wsX0_isBare : List Cond := .code yX0_isBare cX0_isBare 3 (some .boolean) :: bb_T
abbrev cX0_lightestOf : ByteArray := prog_1_method_27_code
def yX0_lightestOf : MethodName := ⟨RX0, "lightestOf", "(I)I"⟩
def wsX0_lightestOf : List Cond := .code yX0_lightestOf cX0_lightestOf 4 (some .int) :: bb_T
abbrev cX0_count : ByteArray := prog_1_method_18_code
def yX0_count : MethodName := ⟨RX0, "count", "(I)I"⟩
def wsX0_count : List Cond := .code yX0_count cX0_count 2 (some .int) :: bb_T
abbrev cX0_allVotes : ByteArray := prog_1_method_38_code
def yX0_allVotes : MethodName := ⟨RX0, "allVotes", "()I"⟩
def wsX0_allVotes : List Cond := .code yX0_allVotes cX0_allVotes 3 (some .int) :: bb_T
abbrev cX0_ballotsWithChosen : ByteArray := prog_1_method_39_code
def yX0_ballotsWithChosen : MethodName := ⟨RX0, "ballotsWithChosen", "()I"⟩
def wsX0_ballotsWithChosen : List Cond := .code yX0_ballotsWithChosen cX0_ballotsWithChosen 3 (some .int) :: bb_T
abbrev cX0_chosenValue : ByteArray := prog_1_method_33_code
def yX0_chosenValue : MethodName := ⟨RX0, "chosenValue", "(I)I"⟩
def wsX0_chosenValue : List Cond := .code yX0_chosenValue cX0_chosenValue 2 (some .int) :: bb_T
abbrev cX0_differentChosen : ByteArray := prog_1_method_40_code
def yX0_differentChosen : MethodName := ⟨RX0, "differentChosen", "()I"⟩
def wsX0_differentChosen : List Cond := .code yX0_differentChosen cX0_differentChosen 4 (some .int) :: bb_T
abbrev cL_weight : ByteArray := method_3_code
def yL_weight : MethodName := ⟨RL, "weight", "(LBallotBox;II[J)I"⟩
def wsL_weight : List Cond := .codeWith yL_weight cL_weight 5 (some .int) [(0, 10, 13, 13), (0, 10, 17, 15)] :: bb_T
abbrev cX0_weight : ByteArray := prog_1_method_2_code
def yX0_weight : MethodName := ⟨RX0, "weight", "(II)I"⟩
def wsX0_weight : List Cond := .code yX0_weight cX0_weight 4 (some .int) :: bb_T
abbrev cX0_requireNode : ByteArray := prog_1_method_19_code
def yX0_requireNode : MethodName := ⟨RX0, "requireNode", "(I)V"⟩
def wsX0_requireNode : List Cond := .code yX0_requireNode cX0_requireNode 1 none :: bb_T
abbrev cL_need : ByteArray := method_4_code
def yL_need : MethodName := ⟨RL, "need", "(LBallotBox;I[J)I"⟩
def wsL_need : List Cond := .codeWith yL_need cL_need 4 (some .int) [(0, 9, 12, 15)] :: bb_T
abbrev cX0_need : ByteArray := prog_1_method_3_code
def yX0_need : MethodName := ⟨RX0, "need", "(I)I"⟩
def wsX0_need : List Cond := .code yX0_need cX0_need 3 (some .int) :: bb_T
abbrev cL_promise : ByteArray := method_5_code
def yL_promise : MethodName := ⟨RL, "promise", "(LBallotBox;II[J)I"⟩
def wsL_promise : List Cond := .codeWith yL_promise cL_promise 5 (some .int) [(0, 10, 13, 13), (0, 10, 17, 24)] :: bb_T
abbrev cX0_promise : ByteArray := prog_1_method_4_code
def yX0_promise : MethodName := ⟨RX0, "promise", "(II)I"⟩
def wsX0_promise : List Cond := .code yX0_promise cX0_promise 4 (some .int) :: bb_T
abbrev cX0_requireBallot : ByteArray := prog_1_method_21_code
def yX0_requireBallot : MethodName := ⟨RX0, "requireBallot", "(I)V"⟩
def wsX0_requireBallot : List Cond := .code yX0_requireBallot cX0_requireBallot 1 none :: bb_T
abbrev cL_vote : ByteArray := method_6_code
def yL_vote : MethodName := ⟨RL, "vote", "(LBallotBox;III[J)I"⟩
def wsL_vote : List Cond := .codeWith yL_vote cL_vote 6 (some .int) [(0, 12, 15, 13), (0, 12, 19, 24)] :: bb_T
abbrev cX0_vote : ByteArray := prog_1_method_5_code
def yX0_vote : MethodName := ⟨RX0, "vote", "(III)I"⟩
def wsX0_vote : List Cond := .code yX0_vote cX0_vote 4 (some .int) :: bb_T
abbrev cX0_requireValue : ByteArray := prog_1_method_22_code
def yX0_requireValue : MethodName := ⟨RX0, "requireValue", "(I)V"⟩
def wsX0_requireValue : List Cond := .code yX0_requireValue cX0_requireValue 1 none :: bb_T
abbrev cX0_isOpen : ByteArray := prog_1_method_28_code
def yX0_isOpen : MethodName := ⟨RX0, "isOpen", "(II)Z"⟩
def wsX0_isOpen : List Cond := .code yX0_isOpen cX0_isOpen 3 (some .boolean) :: bb_T
abbrev cX0_isOnlyValue : ByteArray := prog_1_method_30_code
def yX0_isOnlyValue : MethodName := ⟨RX0, "isOnlyValue", "(II)Z"⟩
def wsX0_isOnlyValue : List Cond := .code yX0_isOnlyValue cX0_isOnlyValue 3 (some .boolean) :: bb_T
abbrev cL_ask : ByteArray := method_7_code
def yL_ask : MethodName := ⟨RL, "ask", "(LBallotBox;II[J)I"⟩
def wsL_ask : List Cond := .codeWith yL_ask cL_ask 5 (some .int) [(0, 10, 13, 13), (0, 10, 17, 24)] :: bb_T
abbrev cX0_ask : ByteArray := prog_1_method_6_code
def yX0_ask : MethodName := ⟨RX0, "ask", "(II)I"⟩
def wsX0_ask : List Cond := .code yX0_ask cX0_ask 4 (some .int) :: bb_T
abbrev cX0_requireSet : ByteArray := prog_1_method_20_code
def yX0_requireSet : MethodName := ⟨RX0, "requireSet", "(I)V"⟩
def wsX0_requireSet : List Cond := .code yX0_requireSet cX0_requireSet 1 none :: bb_T
abbrev cX0_highestPromise : ByteArray := prog_1_method_34_code
def yX0_highestPromise : MethodName := ⟨RX0, "highestPromise", "(I)I"⟩
def wsX0_highestPromise : List Cond := .code yX0_highestPromise cX0_highestPromise 4 (some .int) :: bb_T
abbrev cX0_promiseAll : ByteArray := prog_1_method_35_code
def yX0_promiseAll : MethodName := ⟨RX0, "promiseAll", "(II)V"⟩
def wsX0_promiseAll : List Cond := .code yX0_promiseAll cX0_promiseAll 4 none :: bb_T
abbrev cX0_lastBallotBelow : ByteArray := prog_1_method_36_code
def yX0_lastBallotBelow : MethodName := ⟨RX0, "lastBallotBelow", "(II)I"⟩
def wsX0_lastBallotBelow : List Cond := .code yX0_lastBallotBelow cX0_lastBallotBelow 4 (some .int) :: bb_T
abbrev cL_chosen : ByteArray := method_8_code
def yL_chosen : MethodName := ⟨RL, "chosen", "(LBallotBox;I[J)I"⟩
def wsL_chosen : List Cond := .codeWith yL_chosen cL_chosen 4 (some .int) [(0, 9, 12, 13)] :: bb_T
abbrev cX0_chosen : ByteArray := prog_1_method_7_code
def yX0_chosen : MethodName := ⟨RX0, "chosen", "(I)I"⟩
def wsX0_chosen : List Cond := .code yX0_chosen cX0_chosen 2 (some .int) :: bb_T
abbrev cL_can : ByteArray := method_9_code
def yL_can : MethodName := ⟨RL, "can", "(LBallotBox;II[J)I"⟩
def wsL_can : List Cond := .codeWith yL_can cL_can 5 (some .int) [(0, 17, 20, 13)] :: bb_T
abbrev cX0_can : ByteArray := prog_1_method_8_code
def yX0_can : MethodName := ⟨RX0, "can", "(II)Z"⟩
def wsX0_can : List Cond := .code yX0_can cX0_can 3 (some .boolean) :: bb_T
abbrev cX0_hasWayToChoose : ByteArray := prog_1_method_31_code
def yX0_hasWayToChoose : MethodName := ⟨RX0, "hasWayToChoose", "(I)Z"⟩
def wsX0_hasWayToChoose : List Cond := .code yX0_hasWayToChoose cX0_hasWayToChoose 2 (some .boolean) :: bb_T
abbrev cX0_openNodes : ByteArray := prog_1_method_29_code
def yX0_openNodes : MethodName := ⟨RX0, "openNodes", "(I)I"⟩
def wsX0_openNodes : List Cond := .code yX0_openNodes cX0_openNodes 4 (some .int) :: bb_T
abbrev cL_safe : ByteArray := method_10_code
def yL_safe : MethodName := ⟨RL, "safe", "(LBallotBox;II[J)I"⟩
def wsL_safe : List Cond := .codeWith yL_safe cL_safe 5 (some .int) [(0, 17, 20, 13)] :: bb_T
abbrev cX0_safe : ByteArray := prog_1_method_9_code
def yX0_safe : MethodName := ⟨RX0, "safe", "(II)Z"⟩
def wsX0_safe : List Cond := .code yX0_safe cX0_safe 3 (some .boolean) :: bb_T
abbrev cX0_isSafe : ByteArray := prog_1_method_32_code
def yX0_isSafe : MethodName := ⟨RX0, "isSafe", "(II)Z"⟩
def wsX0_isSafe : List Cond := .code yX0_isSafe cX0_isSafe 4 (some .boolean) :: bb_T
abbrev cL_free : ByteArray := method_11_code
def yL_free : MethodName := ⟨RL, "free", "(LBallotBox;I[J)I"⟩
def wsL_free : List Cond := .codeWith yL_free cL_free 4 (some .int) [(0, 9, 12, 13)] :: bb_T
abbrev cX0_free : ByteArray := prog_1_method_10_code
def yX0_free : MethodName := ⟨RX0, "free", "(I)I"⟩
def wsX0_free : List Cond := .code yX0_free cX0_free 4 (some .int) :: bb_T
abbrev cL_enough : ByteArray := method_12_code
def yL_enough : MethodName := ⟨RL, "enough", "(LBallotBox;I[J)I"⟩
def wsL_enough : List Cond := .codeWith yL_enough cL_enough 4 (some .int) [(0, 16, 19, 13)] :: bb_T
abbrev cX0_enough : ByteArray := prog_1_method_11_code
def yX0_enough : MethodName := ⟨RX0, "enough", "(I)Z"⟩
def wsX0_enough : List Cond := .code yX0_enough cX0_enough 2 (some .boolean) :: bb_T
abbrev cL_blocks : ByteArray := method_13_code
def yL_blocks : MethodName := ⟨RL, "blocks", "(LBallotBox;I[J)I"⟩
def wsL_blocks : List Cond := .codeWith yL_blocks cL_blocks 4 (some .int) [(0, 16, 19, 13)] :: bb_T
abbrev cX0_blocks : ByteArray := prog_1_method_12_code
def yX0_blocks : MethodName := ⟨RX0, "blocks", "(I)Z"⟩
def wsX0_blocks : List Cond := .code yX0_blocks cX0_blocks 2 (some .boolean) :: bb_T
abbrev cL_about : ByteArray := method_14_code
def yL_about : MethodName := ⟨RL, "about", "(LBallotBox;II[J)I"⟩
def wsL_about : List Cond := .codeWith yL_about cL_about 5 (some .int) [(0, 10, 13, 13), (0, 10, 17, 15)] :: bb_T
abbrev cX0_about : ByteArray := prog_1_method_17_code
def yX0_about : MethodName := ⟨RX0, "about", "(II)I"⟩
def wsX0_about : List Cond := .code yX0_about cX0_about 3 (some .int) :: bb_T
abbrev cX0_ballotsVotedIn : ByteArray := prog_1_method_37_code
def yX0_ballotsVotedIn : MethodName := ⟨RX0, "ballotsVotedIn", "(I)I"⟩
def wsX0_ballotsVotedIn : List Cond := .code yX0_ballotsVotedIn cX0_ballotsVotedIn 4 (some .int) :: bb_T
abbrev cX1_thrown : ByteArray := prog_3_method_2_code
def yX1_thrown : MethodName := ⟨RX1, "thrown", "()I"⟩
def wsX1_thrown : List Cond := .code yX1_thrown cX1_thrown 1 (some .int) :: bb_T
abbrev cX1_weight : ByteArray := prog_3_method_5_code
def yX1_weight : MethodName := ⟨RX1, "weight", "(II)I"⟩
def wsX1_weight : List Cond := .code yX1_weight cX1_weight 4 (some .int) :: bb_T
abbrev cX1_out : ByteArray := prog_3_method_4_code
def yX1_out : MethodName := ⟨RX1, "out", "(II)Z"⟩
def wsX1_out : List Cond := .code yX1_out cX1_out 2 (some .boolean) :: bb_T
abbrev cX1_need : ByteArray := prog_3_method_6_code
def yX1_need : MethodName := ⟨RX1, "need", "(I)I"⟩
def wsX1_need : List Cond := .code yX1_need cX1_need 3 (some .int) :: bb_T
abbrev cX1_promise : ByteArray := prog_3_method_7_code
def yX1_promise : MethodName := ⟨RX1, "promise", "(II)I"⟩
def wsX1_promise : List Cond := .code yX1_promise cX1_promise 4 (some .int) :: bb_T
abbrev cX1_fail : ByteArray := prog_3_method_3_code
def yX1_fail : MethodName := ⟨RX1, "fail", "(I)I"⟩
def wsX1_fail : List Cond := .code yX1_fail cX1_fail 2 (some .int) :: bb_T
abbrev cX1_vote : ByteArray := prog_3_method_11_code
def yX1_vote : MethodName := ⟨RX1, "vote", "(III)I"⟩
def wsX1_vote : List Cond := .code yX1_vote cX1_vote 6 (some .int) :: bb_T
abbrev cX1_isOpen : ByteArray := prog_3_method_9_code
def yX1_isOpen : MethodName := ⟨RX1, "isOpen", "(II)Z"⟩
def wsX1_isOpen : List Cond := .code yX1_isOpen cX1_isOpen 3 (some .boolean) :: bb_T
abbrev cX1_voteOf : ByteArray := prog_3_method_8_code
def yX1_voteOf : MethodName := ⟨RX1, "voteOf", "(II)I"⟩
def wsX1_voteOf : List Cond := .code yX1_voteOf cX1_voteOf 3 (some .int) :: bb_T
abbrev cX1_others : ByteArray := prog_3_method_10_code
def yX1_others : MethodName := ⟨RX1, "others", "(II)Z"⟩
def wsX1_others : List Cond := .code yX1_others cX1_others 4 (some .boolean) :: bb_T
abbrev cX1_ask : ByteArray := prog_3_method_13_code
def yX1_ask : MethodName := ⟨RX1, "ask", "(II)I"⟩
def wsX1_ask : List Cond := .code yX1_ask cX1_ask 7 (some .int) :: bb_T
abbrev cX1_isEnough : ByteArray := prog_3_method_12_code
def yX1_isEnough : MethodName := ⟨RX1, "isEnough", "(I)Z"⟩
def wsX1_isEnough : List Cond := .code yX1_isEnough cX1_isEnough 4 (some .boolean) :: bb_T
abbrev cX1_chosen : ByteArray := prog_3_method_15_code
def yX1_chosen : MethodName := ⟨RX1, "chosen", "(I)I"⟩
def wsX1_chosen : List Cond := .code yX1_chosen cX1_chosen 2 (some .int) :: bb_T
abbrev cX1_isChosen : ByteArray := prog_3_method_14_code
def yX1_isChosen : MethodName := ⟨RX1, "isChosen", "(I)I"⟩
def wsX1_isChosen : List Cond := .code yX1_isChosen cX1_isChosen 5 (some .int) :: bb_T
abbrev cX1_can : ByteArray := prog_3_method_17_code
def yX1_can : MethodName := ⟨RX1, "can", "(II)Z"⟩
def wsX1_can : List Cond := .code yX1_can cX1_can 3 (some .boolean) :: bb_T
abbrev cX1_canBe : ByteArray := prog_3_method_16_code
def yX1_canBe : MethodName := ⟨RX1, "canBe", "(II)Z"⟩
def wsX1_canBe : List Cond := .code yX1_canBe cX1_canBe 5 (some .boolean) :: bb_T
abbrev cX1_safe : ByteArray := prog_3_method_19_code
def yX1_safe : MethodName := ⟨RX1, "safe", "(II)Z"⟩
def wsX1_safe : List Cond := .code yX1_safe cX1_safe 3 (some .boolean) :: bb_T
abbrev cX1_isSafe : ByteArray := prog_3_method_18_code
def yX1_isSafe : MethodName := ⟨RX1, "isSafe", "(II)Z"⟩
def wsX1_isSafe : List Cond := .code yX1_isSafe cX1_isSafe 5 (some .boolean) :: bb_T
abbrev cX1_free : ByteArray := prog_3_method_20_code
def yX1_free : MethodName := ⟨RX1, "free", "(I)I"⟩
def wsX1_free : List Cond := .code yX1_free cX1_free 4 (some .int) :: bb_T
abbrev cX1_enough : ByteArray := prog_3_method_21_code
def yX1_enough : MethodName := ⟨RX1, "enough", "(I)Z"⟩
def wsX1_enough : List Cond := .code yX1_enough cX1_enough 2 (some .boolean) :: bb_T
abbrev cX1_blocks : ByteArray := prog_3_method_22_code
def yX1_blocks : MethodName := ⟨RX1, "blocks", "(I)Z"⟩
def wsX1_blocks : List Cond := .code yX1_blocks cX1_blocks 3 (some .boolean) :: bb_T
abbrev cX1_sets : ByteArray := prog_3_method_23_code
def yX1_sets : MethodName := ⟨RX1, "sets", "()I"⟩
def wsX1_sets : List Cond := .code yX1_sets cX1_sets 3 (some .int) :: bb_T
abbrev cX1_least : ByteArray := prog_3_method_25_code
def yX1_least : MethodName := ⟨RX1, "least", "()I"⟩
def wsX1_least : List Cond := .code yX1_least cX1_least 3 (some .int) :: bb_T
abbrev cX1_size : ByteArray := prog_3_method_24_code
def yX1_size : MethodName := ⟨RX1, "size", "(I)I"⟩
def wsX1_size : List Cond := .code yX1_size cX1_size 3 (some .int) :: bb_T
abbrev cX1_meet : ByteArray := prog_3_method_26_code
def yX1_meet : MethodName := ⟨RX1, "meet", "()Z"⟩
def wsX1_meet : List Cond := .code yX1_meet cX1_meet 2 (some .boolean) :: bb_T
abbrev cX1_bare : ByteArray := prog_3_method_27_code
def yX1_bare : MethodName := ⟨RX1, "bare", "()I"⟩
def wsX1_bare : List Cond := .code yX1_bare cX1_bare 5 (some .int) :: bb_T
abbrev cX1_about : ByteArray := prog_3_method_28_code
def yX1_about : MethodName := ⟨RX1, "about", "(II)I"⟩
def wsX1_about : List Cond := .code yX1_about cX1_about 6 (some .int) :: bb_T
abbrev cX1_count : ByteArray := prog_3_method_29_code
def yX1_count : MethodName := ⟨RX1, "count", "(I)I"⟩
def wsX1_count : List Cond := .code yX1_count cX1_count 6 (some .int) :: bb_T
abbrev cL_law : ByteArray := code
end
section
theorem dX0_weight_0 : decode cX0_weight 0 = .ok (.iload_n 1, 1) := by decide +kernel
theorem dX0_weight_1 : decode cX0_weight 1 = .ok (.invokestatic 32, 3) := by decide +kernel
theorem dX0_weight_4 : decode cX0_weight 4 = .ok (.iload_n 2, 1) := by decide +kernel
theorem dX0_weight_5 : decode cX0_weight 5 = .ok (.ifCond .lt 9, 3) := by decide +kernel
theorem dX0_weight_8 : decode cX0_weight 8 = .ok (.iload_n 2, 1) := by decide +kernel
theorem dX0_weight_9 : decode cX0_weight 9 = .ok (.bipush 50, 2) := by decide +kernel
theorem dX0_weight_11 : decode cX0_weight 11 = .ok (.if_icmp .le 13, 3) := by decide +kernel
theorem dX0_weight_14 : decode cX0_weight 14 = .ok (.new 36, 3) := by decide +kernel
theorem dX0_weight_17 : decode cX0_weight 17 = .ok (.dup, 1) := by decide +kernel
theorem dX0_weight_18 : decode cX0_weight 18 = .ok (.ldc 38, 2) := by decide +kernel
theorem dX0_weight_20 : decode cX0_weight 20 = .ok (.invokespecial 40, 3) := by decide +kernel
theorem dX0_weight_23 : decode cX0_weight 23 = .ok (.athrow, 1) := by decide +kernel
theorem dX0_weight_24 : decode cX0_weight 24 = .ok (.aload_n 0, 1) := by decide +kernel
theorem dX0_weight_25 : decode cX0_weight 25 = .ok (.getfield 9, 3) := by decide +kernel
theorem dX0_weight_28 : decode cX0_weight 28 = .ok (.iload_n 1, 1) := by decide +kernel
theorem dX0_weight_29 : decode cX0_weight 29 = .ok (.iaload, 1) := by decide +kernel
theorem dX0_weight_30 : decode cX0_weight 30 = .ok (.istore_n 3, 1) := by decide +kernel
theorem dX0_weight_31 : decode cX0_weight 31 = .ok (.aload_n 0, 1) := by decide +kernel
theorem dX0_weight_32 : decode cX0_weight 32 = .ok (.getfield 9, 3) := by decide +kernel
theorem dX0_weight_35 : decode cX0_weight 35 = .ok (.iload_n 1, 1) := by decide +kernel
theorem dX0_weight_36 : decode cX0_weight 36 = .ok (.iload_n 2, 1) := by decide +kernel
theorem dX0_weight_37 : decode cX0_weight 37 = .ok (.iastore, 1) := by decide +kernel
theorem dX0_weight_38 : decode cX0_weight 38 = .ok (.iload_n 3, 1) := by decide +kernel
theorem dX0_weight_39 : decode cX0_weight 39 = .ok (.ireturn, 1) := by decide +kernel
theorem dX0_need_0 : decode cX0_need 0 = .ok (.iload_n 1, 1) := by decide +kernel
theorem dX0_need_1 : decode cX0_need 1 = .ok (.iconst 1, 1) := by decide +kernel
theorem dX0_need_2 : decode cX0_need 2 = .ok (.if_icmp .lt 10, 3) := by decide +kernel
theorem dX0_need_5 : decode cX0_need 5 = .ok (.iload_n 1, 1) := by decide +kernel
theorem dX0_need_6 : decode cX0_need 6 = .ok (.sipush 500, 3) := by decide +kernel
theorem dX0_need_9 : decode cX0_need 9 = .ok (.if_icmp .le 13, 3) := by decide +kernel
theorem dX0_need_12 : decode cX0_need 12 = .ok (.new 36, 3) := by decide +kernel
theorem dX0_need_15 : decode cX0_need 15 = .ok (.dup, 1) := by decide +kernel
theorem dX0_need_16 : decode cX0_need 16 = .ok (.ldc 43, 2) := by decide +kernel
theorem dX0_need_18 : decode cX0_need 18 = .ok (.invokespecial 40, 3) := by decide +kernel
theorem dX0_need_21 : decode cX0_need 21 = .ok (.athrow, 1) := by decide +kernel
theorem dX0_need_22 : decode cX0_need 22 = .ok (.aload_n 0, 1) := by decide +kernel
theorem dX0_need_23 : decode cX0_need 23 = .ok (.getfield 22, 3) := by decide +kernel
theorem dX0_need_26 : decode cX0_need 26 = .ok (.istore_n 2, 1) := by decide +kernel
theorem dX0_need_27 : decode cX0_need 27 = .ok (.aload_n 0, 1) := by decide +kernel
theorem dX0_need_28 : decode cX0_need 28 = .ok (.iload_n 1, 1) := by decide +kernel
theorem dX0_need_29 : decode cX0_need 29 = .ok (.putfield 22, 3) := by decide +kernel
theorem dX0_need_32 : decode cX0_need 32 = .ok (.iload_n 2, 1) := by decide +kernel
theorem dX0_need_33 : decode cX0_need 33 = .ok (.ireturn, 1) := by decide +kernel
theorem dX0_promise_0 : decode cX0_promise 0 = .ok (.iload_n 1, 1) := by decide +kernel
theorem dX0_promise_1 : decode cX0_promise 1 = .ok (.invokestatic 32, 3) := by decide +kernel
theorem dX0_promise_4 : decode cX0_promise 4 = .ok (.iload_n 2, 1) := by decide +kernel
theorem dX0_promise_5 : decode cX0_promise 5 = .ok (.invokestatic 45, 3) := by decide +kernel
theorem dX0_promise_8 : decode cX0_promise 8 = .ok (.aload_n 0, 1) := by decide +kernel
theorem dX0_promise_9 : decode cX0_promise 9 = .ok (.getfield 13, 3) := by decide +kernel
theorem dX0_promise_12 : decode cX0_promise 12 = .ok (.iload_n 1, 1) := by decide +kernel
theorem dX0_promise_13 : decode cX0_promise 13 = .ok (.iaload, 1) := by decide +kernel
theorem dX0_promise_14 : decode cX0_promise 14 = .ok (.istore_n 3, 1) := by decide +kernel
theorem dX0_promise_15 : decode cX0_promise 15 = .ok (.iload_n 3, 1) := by decide +kernel
theorem dX0_promise_16 : decode cX0_promise 16 = .ok (.iload_n 2, 1) := by decide +kernel
theorem dX0_promise_17 : decode cX0_promise 17 = .ok (.if_icmp .le 13, 3) := by decide +kernel
theorem dX0_promise_20 : decode cX0_promise 20 = .ok (.new 48, 3) := by decide +kernel
theorem dX0_promise_23 : decode cX0_promise 23 = .ok (.dup, 1) := by decide +kernel
theorem dX0_promise_24 : decode cX0_promise 24 = .ok (.ldc 50, 2) := by decide +kernel
theorem dX0_promise_26 : decode cX0_promise 26 = .ok (.invokespecial 52, 3) := by decide +kernel
theorem dX0_promise_29 : decode cX0_promise 29 = .ok (.athrow, 1) := by decide +kernel
theorem dX0_promise_30 : decode cX0_promise 30 = .ok (.aload_n 0, 1) := by decide +kernel
theorem dX0_promise_31 : decode cX0_promise 31 = .ok (.getfield 13, 3) := by decide +kernel
theorem dX0_promise_34 : decode cX0_promise 34 = .ok (.iload_n 1, 1) := by decide +kernel
theorem dX0_promise_35 : decode cX0_promise 35 = .ok (.iload_n 2, 1) := by decide +kernel
theorem dX0_promise_36 : decode cX0_promise 36 = .ok (.iastore, 1) := by decide +kernel
theorem dX0_promise_37 : decode cX0_promise 37 = .ok (.iload_n 3, 1) := by decide +kernel
theorem dX0_promise_38 : decode cX0_promise 38 = .ok (.ireturn, 1) := by decide +kernel
theorem dX0_vote_0 : decode cX0_vote 0 = .ok (.iload_n 1, 1) := by decide +kernel
theorem dX0_vote_1 : decode cX0_vote 1 = .ok (.invokestatic 32, 3) := by decide +kernel
theorem dX0_vote_4 : decode cX0_vote 4 = .ok (.iload_n 2, 1) := by decide +kernel
theorem dX0_vote_5 : decode cX0_vote 5 = .ok (.invokestatic 45, 3) := by decide +kernel
theorem dX0_vote_8 : decode cX0_vote 8 = .ok (.iload_n 3, 1) := by decide +kernel
theorem dX0_vote_9 : decode cX0_vote 9 = .ok (.invokestatic 53, 3) := by decide +kernel
theorem dX0_vote_12 : decode cX0_vote 12 = .ok (.aload_n 0, 1) := by decide +kernel
theorem dX0_vote_13 : decode cX0_vote 13 = .ok (.iload_n 1, 1) := by decide +kernel
theorem dX0_vote_14 : decode cX0_vote 14 = .ok (.iload_n 2, 1) := by decide +kernel
theorem dX0_vote_15 : decode cX0_vote 15 = .ok (.invokevirtual 56, 3) := by decide +kernel
theorem dX0_vote_18 : decode cX0_vote 18 = .ok (.ifCond .ne 13, 3) := by decide +kernel
theorem dX0_vote_21 : decode cX0_vote 21 = .ok (.new 48, 3) := by decide +kernel
theorem dX0_vote_24 : decode cX0_vote 24 = .ok (.dup, 1) := by decide +kernel
theorem dX0_vote_25 : decode cX0_vote 25 = .ok (.ldc 60, 2) := by decide +kernel
theorem dX0_vote_27 : decode cX0_vote 27 = .ok (.invokespecial 52, 3) := by decide +kernel
theorem dX0_vote_30 : decode cX0_vote 30 = .ok (.athrow, 1) := by decide +kernel
theorem dX0_vote_31 : decode cX0_vote 31 = .ok (.aload_n 0, 1) := by decide +kernel
theorem dX0_vote_32 : decode cX0_vote 32 = .ok (.iload_n 2, 1) := by decide +kernel
theorem dX0_vote_33 : decode cX0_vote 33 = .ok (.iload_n 3, 1) := by decide +kernel
theorem dX0_vote_34 : decode cX0_vote 34 = .ok (.invokevirtual 62, 3) := by decide +kernel
theorem dX0_vote_37 : decode cX0_vote 37 = .ok (.ifCond .ne 13, 3) := by decide +kernel
theorem dX0_vote_40 : decode cX0_vote 40 = .ok (.new 48, 3) := by decide +kernel
theorem dX0_vote_43 : decode cX0_vote 43 = .ok (.dup, 1) := by decide +kernel
theorem dX0_vote_44 : decode cX0_vote 44 = .ok (.ldc 65, 2) := by decide +kernel
theorem dX0_vote_46 : decode cX0_vote 46 = .ok (.invokespecial 52, 3) := by decide +kernel
theorem dX0_vote_49 : decode cX0_vote 49 = .ok (.athrow, 1) := by decide +kernel
theorem dX0_vote_50 : decode cX0_vote 50 = .ok (.aload_n 0, 1) := by decide +kernel
theorem dX0_vote_51 : decode cX0_vote 51 = .ok (.getfield 13, 3) := by decide +kernel
theorem dX0_vote_54 : decode cX0_vote 54 = .ok (.iload_n 1, 1) := by decide +kernel
theorem dX0_vote_55 : decode cX0_vote 55 = .ok (.iload_n 2, 1) := by decide +kernel
theorem dX0_vote_56 : decode cX0_vote 56 = .ok (.iastore, 1) := by decide +kernel
theorem dX0_vote_57 : decode cX0_vote 57 = .ok (.aload_n 0, 1) := by decide +kernel
theorem dX0_vote_58 : decode cX0_vote 58 = .ok (.getfield 19, 3) := by decide +kernel
theorem dX0_vote_61 : decode cX0_vote 61 = .ok (.iload_n 2, 1) := by decide +kernel
theorem dX0_vote_62 : decode cX0_vote 62 = .ok (.iload_n 3, 1) := by decide +kernel
theorem dX0_vote_63 : decode cX0_vote 63 = .ok (.iastore, 1) := by decide +kernel
theorem dX0_vote_64 : decode cX0_vote 64 = .ok (.aload_n 0, 1) := by decide +kernel
theorem dX0_vote_65 : decode cX0_vote 65 = .ok (.getfield 16, 3) := by decide +kernel
theorem dX0_vote_68 : decode cX0_vote 68 = .ok (.iload_n 2, 1) := by decide +kernel
theorem dX0_vote_69 : decode cX0_vote 69 = .ok (.dup2, 1) := by decide +kernel
theorem dX0_vote_70 : decode cX0_vote 70 = .ok (.iaload, 1) := by decide +kernel
theorem dX0_vote_71 : decode cX0_vote 71 = .ok (.iconst 1, 1) := by decide +kernel
theorem dX0_vote_72 : decode cX0_vote 72 = .ok (.iload_n 1, 1) := by decide +kernel
theorem dX0_vote_73 : decode cX0_vote 73 = .ok (.ishl, 1) := by decide +kernel
theorem dX0_vote_74 : decode cX0_vote 74 = .ok (.ior, 1) := by decide +kernel
theorem dX0_vote_75 : decode cX0_vote 75 = .ok (.iastore, 1) := by decide +kernel
theorem dX0_vote_76 : decode cX0_vote 76 = .ok (.aload_n 0, 1) := by decide +kernel
theorem dX0_vote_77 : decode cX0_vote 77 = .ok (.getfield 16, 3) := by decide +kernel
theorem dX0_vote_80 : decode cX0_vote 80 = .ok (.iload_n 2, 1) := by decide +kernel
theorem dX0_vote_81 : decode cX0_vote 81 = .ok (.iaload, 1) := by decide +kernel
theorem dX0_vote_82 : decode cX0_vote 82 = .ok (.invokestatic 67, 3) := by decide +kernel
theorem dX0_vote_85 : decode cX0_vote 85 = .ok (.ireturn, 1) := by decide +kernel
theorem dX0_ask_0 : decode cX0_ask 0 = .ok (.iload_n 1, 1) := by decide +kernel
theorem dX0_ask_1 : decode cX0_ask 1 = .ok (.invokestatic 73, 3) := by decide +kernel
theorem dX0_ask_4 : decode cX0_ask 4 = .ok (.iload_n 2, 1) := by decide +kernel
theorem dX0_ask_5 : decode cX0_ask 5 = .ok (.invokestatic 45, 3) := by decide +kernel
theorem dX0_ask_8 : decode cX0_ask 8 = .ok (.aload_n 0, 1) := by decide +kernel
theorem dX0_ask_9 : decode cX0_ask 9 = .ok (.iload_n 1, 1) := by decide +kernel
theorem dX0_ask_10 : decode cX0_ask 10 = .ok (.invokevirtual 76, 3) := by decide +kernel
theorem dX0_ask_13 : decode cX0_ask 13 = .ok (.ifCond .ne 13, 3) := by decide +kernel
theorem dX0_ask_16 : decode cX0_ask 16 = .ok (.new 48, 3) := by decide +kernel
theorem dX0_ask_19 : decode cX0_ask 19 = .ok (.dup, 1) := by decide +kernel
theorem dX0_ask_20 : decode cX0_ask 20 = .ok (.ldc 80, 2) := by decide +kernel
theorem dX0_ask_22 : decode cX0_ask 22 = .ok (.invokespecial 52, 3) := by decide +kernel
theorem dX0_ask_25 : decode cX0_ask 25 = .ok (.athrow, 1) := by decide +kernel
theorem dX0_ask_26 : decode cX0_ask 26 = .ok (.aload_n 0, 1) := by decide +kernel
theorem dX0_ask_27 : decode cX0_ask 27 = .ok (.iload_n 1, 1) := by decide +kernel
theorem dX0_ask_28 : decode cX0_ask 28 = .ok (.invokevirtual 82, 3) := by decide +kernel
theorem dX0_ask_31 : decode cX0_ask 31 = .ok (.iload_n 2, 1) := by decide +kernel
theorem dX0_ask_32 : decode cX0_ask 32 = .ok (.if_icmp .le 13, 3) := by decide +kernel
theorem dX0_ask_35 : decode cX0_ask 35 = .ok (.new 48, 3) := by decide +kernel
theorem dX0_ask_38 : decode cX0_ask 38 = .ok (.dup, 1) := by decide +kernel
theorem dX0_ask_39 : decode cX0_ask 39 = .ok (.ldc 85, 2) := by decide +kernel
theorem dX0_ask_41 : decode cX0_ask 41 = .ok (.invokespecial 52, 3) := by decide +kernel
theorem dX0_ask_44 : decode cX0_ask 44 = .ok (.athrow, 1) := by decide +kernel
theorem dX0_ask_45 : decode cX0_ask 45 = .ok (.aload_n 0, 1) := by decide +kernel
theorem dX0_ask_46 : decode cX0_ask 46 = .ok (.iload_n 1, 1) := by decide +kernel
theorem dX0_ask_47 : decode cX0_ask 47 = .ok (.iload_n 2, 1) := by decide +kernel
theorem dX0_ask_48 : decode cX0_ask 48 = .ok (.invokevirtual 87, 3) := by decide +kernel
theorem dX0_ask_51 : decode cX0_ask 51 = .ok (.aload_n 0, 1) := by decide +kernel
theorem dX0_ask_52 : decode cX0_ask 52 = .ok (.iload_n 2, 1) := by decide +kernel
theorem dX0_ask_53 : decode cX0_ask 53 = .ok (.iload_n 1, 1) := by decide +kernel
theorem dX0_ask_54 : decode cX0_ask 54 = .ok (.invokevirtual 91, 3) := by decide +kernel
theorem dX0_ask_57 : decode cX0_ask 57 = .ok (.istore_n 3, 1) := by decide +kernel
theorem dX0_ask_58 : decode cX0_ask 58 = .ok (.iload_n 3, 1) := by decide +kernel
theorem dX0_ask_59 : decode cX0_ask 59 = .ok (.iconst (-1), 1) := by decide +kernel
theorem dX0_ask_60 : decode cX0_ask 60 = .ok (.if_icmp .ne 7, 3) := by decide +kernel
theorem dX0_ask_63 : decode cX0_ask 63 = .ok (.iconst (-1), 1) := by decide +kernel
theorem dX0_ask_64 : decode cX0_ask 64 = .ok (.goto 9, 3) := by decide +kernel
theorem dX0_ask_67 : decode cX0_ask 67 = .ok (.aload_n 0, 1) := by decide +kernel
theorem dX0_ask_68 : decode cX0_ask 68 = .ok (.getfield 19, 3) := by decide +kernel
theorem dX0_ask_71 : decode cX0_ask 71 = .ok (.iload_n 3, 1) := by decide +kernel
theorem dX0_ask_72 : decode cX0_ask 72 = .ok (.iaload, 1) := by decide +kernel
theorem dX0_ask_73 : decode cX0_ask 73 = .ok (.ireturn, 1) := by decide +kernel
theorem dX0_chosen_0 : decode cX0_chosen 0 = .ok (.iload_n 1, 1) := by decide +kernel
theorem dX0_chosen_1 : decode cX0_chosen 1 = .ok (.invokestatic 45, 3) := by decide +kernel
theorem dX0_chosen_4 : decode cX0_chosen 4 = .ok (.aload_n 0, 1) := by decide +kernel
theorem dX0_chosen_5 : decode cX0_chosen 5 = .ok (.iload_n 1, 1) := by decide +kernel
theorem dX0_chosen_6 : decode cX0_chosen 6 = .ok (.invokevirtual 95, 3) := by decide +kernel
theorem dX0_chosen_9 : decode cX0_chosen 9 = .ok (.ireturn, 1) := by decide +kernel
theorem dX0_can_0 : decode cX0_can 0 = .ok (.iload_n 1, 1) := by decide +kernel
theorem dX0_can_1 : decode cX0_can 1 = .ok (.invokestatic 45, 3) := by decide +kernel
theorem dX0_can_4 : decode cX0_can 4 = .ok (.iload_n 2, 1) := by decide +kernel
theorem dX0_can_5 : decode cX0_can 5 = .ok (.invokestatic 53, 3) := by decide +kernel
theorem dX0_can_8 : decode cX0_can 8 = .ok (.aload_n 0, 1) := by decide +kernel
theorem dX0_can_9 : decode cX0_can 9 = .ok (.iload_n 1, 1) := by decide +kernel
theorem dX0_can_10 : decode cX0_can 10 = .ok (.iload_n 2, 1) := by decide +kernel
theorem dX0_can_11 : decode cX0_can 11 = .ok (.invokevirtual 62, 3) := by decide +kernel
theorem dX0_can_14 : decode cX0_can 14 = .ok (.ifCond .eq 15, 3) := by decide +kernel
theorem dX0_can_17 : decode cX0_can 17 = .ok (.aload_n 0, 1) := by decide +kernel
theorem dX0_can_18 : decode cX0_can 18 = .ok (.iload_n 1, 1) := by decide +kernel
theorem dX0_can_19 : decode cX0_can 19 = .ok (.invokevirtual 98, 3) := by decide +kernel
theorem dX0_can_22 : decode cX0_can 22 = .ok (.ifCond .eq 7, 3) := by decide +kernel
theorem dX0_can_25 : decode cX0_can 25 = .ok (.iconst 1, 1) := by decide +kernel
theorem dX0_can_26 : decode cX0_can 26 = .ok (.goto 4, 3) := by decide +kernel
theorem dX0_can_29 : decode cX0_can 29 = .ok (.iconst 0, 1) := by decide +kernel
theorem dX0_can_30 : decode cX0_can 30 = .ok (.ireturn, 1) := by decide +kernel
theorem dX0_safe_0 : decode cX0_safe 0 = .ok (.iload_n 1, 1) := by decide +kernel
theorem dX0_safe_1 : decode cX0_safe 1 = .ok (.invokestatic 45, 3) := by decide +kernel
theorem dX0_safe_4 : decode cX0_safe 4 = .ok (.iload_n 2, 1) := by decide +kernel
theorem dX0_safe_5 : decode cX0_safe 5 = .ok (.invokestatic 53, 3) := by decide +kernel
theorem dX0_safe_8 : decode cX0_safe 8 = .ok (.aload_n 0, 1) := by decide +kernel
theorem dX0_safe_9 : decode cX0_safe 9 = .ok (.iload_n 1, 1) := by decide +kernel
theorem dX0_safe_10 : decode cX0_safe 10 = .ok (.iload_n 2, 1) := by decide +kernel
theorem dX0_safe_11 : decode cX0_safe 11 = .ok (.invokevirtual 101, 3) := by decide +kernel
theorem dX0_safe_14 : decode cX0_safe 14 = .ok (.ireturn, 1) := by decide +kernel
theorem dX0_free_0 : decode cX0_free 0 = .ok (.iload_n 1, 1) := by decide +kernel
theorem dX0_free_1 : decode cX0_free 1 = .ok (.invokestatic 45, 3) := by decide +kernel
theorem dX0_free_4 : decode cX0_free 4 = .ok (.iconst 0, 1) := by decide +kernel
theorem dX0_free_5 : decode cX0_free 5 = .ok (.istore_n 2, 1) := by decide +kernel
theorem dX0_free_6 : decode cX0_free 6 = .ok (.iconst 0, 1) := by decide +kernel
theorem dX0_free_7 : decode cX0_free 7 = .ok (.istore_n 3, 1) := by decide +kernel
theorem dX0_free_8 : decode cX0_free 8 = .ok (.iload_n 3, 1) := by decide +kernel
theorem dX0_free_9 : decode cX0_free 9 = .ok (.bipush 10, 2) := by decide +kernel
theorem dX0_free_11 : decode cX0_free 11 = .ok (.if_icmp .ge 21, 3) := by decide +kernel
theorem dX0_free_14 : decode cX0_free 14 = .ok (.aload_n 0, 1) := by decide +kernel
theorem dX0_free_15 : decode cX0_free 15 = .ok (.iload_n 1, 1) := by decide +kernel
theorem dX0_free_16 : decode cX0_free 16 = .ok (.iload_n 3, 1) := by decide +kernel
theorem dX0_free_17 : decode cX0_free 17 = .ok (.invokevirtual 101, 3) := by decide +kernel
theorem dX0_free_20 : decode cX0_free 20 = .ok (.ifCond .eq 6, 3) := by decide +kernel
theorem dX0_free_23 : decode cX0_free 23 = .ok (.iinc 2 1, 3) := by decide +kernel
theorem dX0_free_26 : decode cX0_free 26 = .ok (.iinc 3 1, 3) := by decide +kernel
theorem dX0_free_29 : decode cX0_free 29 = .ok (.goto (-21), 3) := by decide +kernel
theorem dX0_free_32 : decode cX0_free 32 = .ok (.iload_n 2, 1) := by decide +kernel
theorem dX0_free_33 : decode cX0_free 33 = .ok (.ireturn, 1) := by decide +kernel
theorem dX0_enough_0 : decode cX0_enough 0 = .ok (.iload_n 1, 1) := by decide +kernel
theorem dX0_enough_1 : decode cX0_enough 1 = .ok (.invokestatic 73, 3) := by decide +kernel
theorem dX0_enough_4 : decode cX0_enough 4 = .ok (.aload_n 0, 1) := by decide +kernel
theorem dX0_enough_5 : decode cX0_enough 5 = .ok (.iload_n 1, 1) := by decide +kernel
theorem dX0_enough_6 : decode cX0_enough 6 = .ok (.invokevirtual 76, 3) := by decide +kernel
theorem dX0_enough_9 : decode cX0_enough 9 = .ok (.ireturn, 1) := by decide +kernel
theorem dX0_blocks_0 : decode cX0_blocks 0 = .ok (.iload_n 1, 1) := by decide +kernel
theorem dX0_blocks_1 : decode cX0_blocks 1 = .ok (.invokestatic 73, 3) := by decide +kernel
theorem dX0_blocks_4 : decode cX0_blocks 4 = .ok (.aload_n 0, 1) := by decide +kernel
theorem dX0_blocks_5 : decode cX0_blocks 5 = .ok (.sipush 1023, 3) := by decide +kernel
theorem dX0_blocks_8 : decode cX0_blocks 8 = .ok (.iload_n 1, 1) := by decide +kernel
theorem dX0_blocks_9 : decode cX0_blocks 9 = .ok (.iconst (-1), 1) := by decide +kernel
theorem dX0_blocks_10 : decode cX0_blocks 10 = .ok (.ixor, 1) := by decide +kernel
theorem dX0_blocks_11 : decode cX0_blocks 11 = .ok (.iand, 1) := by decide +kernel
theorem dX0_blocks_12 : decode cX0_blocks 12 = .ok (.invokevirtual 76, 3) := by decide +kernel
theorem dX0_blocks_15 : decode cX0_blocks 15 = .ok (.ifCond .ne 7, 3) := by decide +kernel
theorem dX0_blocks_18 : decode cX0_blocks 18 = .ok (.iconst 1, 1) := by decide +kernel
theorem dX0_blocks_19 : decode cX0_blocks 19 = .ok (.goto 4, 3) := by decide +kernel
theorem dX0_blocks_22 : decode cX0_blocks 22 = .ok (.iconst 0, 1) := by decide +kernel
theorem dX0_blocks_23 : decode cX0_blocks 23 = .ok (.ireturn, 1) := by decide +kernel
theorem dX0_sets_0 : decode cX0_sets 0 = .ok (.iconst 0, 1) := by decide +kernel
theorem dX0_sets_1 : decode cX0_sets 1 = .ok (.istore_n 1, 1) := by decide +kernel
theorem dX0_sets_2 : decode cX0_sets 2 = .ok (.iconst 0, 1) := by decide +kernel
theorem dX0_sets_3 : decode cX0_sets 3 = .ok (.istore_n 2, 1) := by decide +kernel
theorem dX0_sets_4 : decode cX0_sets 4 = .ok (.iload_n 2, 1) := by decide +kernel
theorem dX0_sets_5 : decode cX0_sets 5 = .ok (.sipush 1024, 3) := by decide +kernel
theorem dX0_sets_8 : decode cX0_sets 8 = .ok (.if_icmp .ge 20, 3) := by decide +kernel
theorem dX0_sets_11 : decode cX0_sets 11 = .ok (.aload_n 0, 1) := by decide +kernel
theorem dX0_sets_12 : decode cX0_sets 12 = .ok (.iload_n 2, 1) := by decide +kernel
theorem dX0_sets_13 : decode cX0_sets 13 = .ok (.invokevirtual 76, 3) := by decide +kernel
theorem dX0_sets_16 : decode cX0_sets 16 = .ok (.ifCond .eq 6, 3) := by decide +kernel
theorem dX0_sets_19 : decode cX0_sets 19 = .ok (.iinc 1 1, 3) := by decide +kernel
theorem dX0_sets_22 : decode cX0_sets 22 = .ok (.iinc 2 1, 3) := by decide +kernel
theorem dX0_sets_25 : decode cX0_sets 25 = .ok (.goto (-21), 3) := by decide +kernel
theorem dX0_sets_28 : decode cX0_sets 28 = .ok (.iload_n 1, 1) := by decide +kernel
theorem dX0_sets_29 : decode cX0_sets 29 = .ok (.ireturn, 1) := by decide +kernel
theorem dX0_least_0 : decode cX0_least 0 = .ok (.iconst (-1), 1) := by decide +kernel
theorem dX0_least_1 : decode cX0_least 1 = .ok (.istore_n 1, 1) := by decide +kernel
theorem dX0_least_2 : decode cX0_least 2 = .ok (.iconst 0, 1) := by decide +kernel
theorem dX0_least_3 : decode cX0_least 3 = .ok (.istore_n 2, 1) := by decide +kernel
theorem dX0_least_4 : decode cX0_least 4 = .ok (.iload_n 2, 1) := by decide +kernel
theorem dX0_least_5 : decode cX0_least 5 = .ok (.sipush 1024, 3) := by decide +kernel
theorem dX0_least_8 : decode cX0_least 8 = .ok (.if_icmp .ge 34, 3) := by decide +kernel
theorem dX0_least_11 : decode cX0_least 11 = .ok (.iload_n 2, 1) := by decide +kernel
theorem dX0_least_12 : decode cX0_least 12 = .ok (.invokestatic 67, 3) := by decide +kernel
theorem dX0_least_15 : decode cX0_least 15 = .ok (.istore_n 3, 1) := by decide +kernel
theorem dX0_least_16 : decode cX0_least 16 = .ok (.iload_n 1, 1) := by decide +kernel
theorem dX0_least_17 : decode cX0_least 17 = .ok (.iconst (-1), 1) := by decide +kernel
theorem dX0_least_18 : decode cX0_least 18 = .ok (.if_icmp .eq 8, 3) := by decide +kernel
theorem dX0_least_21 : decode cX0_least 21 = .ok (.iload_n 3, 1) := by decide +kernel
theorem dX0_least_22 : decode cX0_least 22 = .ok (.iload_n 1, 1) := by decide +kernel
theorem dX0_least_23 : decode cX0_least 23 = .ok (.if_icmp .ge 13, 3) := by decide +kernel
theorem dX0_least_26 : decode cX0_least 26 = .ok (.aload_n 0, 1) := by decide +kernel
theorem dX0_least_27 : decode cX0_least 27 = .ok (.iload_n 2, 1) := by decide +kernel
theorem dX0_least_28 : decode cX0_least 28 = .ok (.invokevirtual 76, 3) := by decide +kernel
theorem dX0_least_31 : decode cX0_least 31 = .ok (.ifCond .eq 5, 3) := by decide +kernel
theorem dX0_least_34 : decode cX0_least 34 = .ok (.iload_n 3, 1) := by decide +kernel
theorem dX0_least_35 : decode cX0_least 35 = .ok (.istore_n 1, 1) := by decide +kernel
theorem dX0_least_36 : decode cX0_least 36 = .ok (.iinc 2 1, 3) := by decide +kernel
theorem dX0_least_39 : decode cX0_least 39 = .ok (.goto (-35), 3) := by decide +kernel
theorem dX0_least_42 : decode cX0_least 42 = .ok (.iload_n 1, 1) := by decide +kernel
theorem dX0_least_43 : decode cX0_least 43 = .ok (.ireturn, 1) := by decide +kernel
theorem dX0_meet_0 : decode cX0_meet 0 = .ok (.iconst 0, 1) := by decide +kernel
theorem dX0_meet_1 : decode cX0_meet 1 = .ok (.istore_n 1, 1) := by decide +kernel
theorem dX0_meet_2 : decode cX0_meet 2 = .ok (.iload_n 1, 1) := by decide +kernel
theorem dX0_meet_3 : decode cX0_meet 3 = .ok (.sipush 1024, 3) := by decide +kernel
theorem dX0_meet_6 : decode cX0_meet 6 = .ok (.if_icmp .ge 33, 3) := by decide +kernel
theorem dX0_meet_9 : decode cX0_meet 9 = .ok (.aload_n 0, 1) := by decide +kernel
theorem dX0_meet_10 : decode cX0_meet 10 = .ok (.iload_n 1, 1) := by decide +kernel
theorem dX0_meet_11 : decode cX0_meet 11 = .ok (.invokevirtual 76, 3) := by decide +kernel
theorem dX0_meet_14 : decode cX0_meet 14 = .ok (.ifCond .eq 19, 3) := by decide +kernel
theorem dX0_meet_17 : decode cX0_meet 17 = .ok (.aload_n 0, 1) := by decide +kernel
theorem dX0_meet_18 : decode cX0_meet 18 = .ok (.sipush 1023, 3) := by decide +kernel
theorem dX0_meet_21 : decode cX0_meet 21 = .ok (.iload_n 1, 1) := by decide +kernel
theorem dX0_meet_22 : decode cX0_meet 22 = .ok (.iconst (-1), 1) := by decide +kernel
theorem dX0_meet_23 : decode cX0_meet 23 = .ok (.ixor, 1) := by decide +kernel
theorem dX0_meet_24 : decode cX0_meet 24 = .ok (.iand, 1) := by decide +kernel
theorem dX0_meet_25 : decode cX0_meet 25 = .ok (.invokevirtual 76, 3) := by decide +kernel
theorem dX0_meet_28 : decode cX0_meet 28 = .ok (.ifCond .eq 5, 3) := by decide +kernel
theorem dX0_meet_31 : decode cX0_meet 31 = .ok (.iconst 0, 1) := by decide +kernel
theorem dX0_meet_32 : decode cX0_meet 32 = .ok (.ireturn, 1) := by decide +kernel
theorem dX0_meet_33 : decode cX0_meet 33 = .ok (.iinc 1 1, 3) := by decide +kernel
theorem dX0_meet_36 : decode cX0_meet 36 = .ok (.goto (-34), 3) := by decide +kernel
theorem dX0_meet_39 : decode cX0_meet 39 = .ok (.iconst 1, 1) := by decide +kernel
theorem dX0_meet_40 : decode cX0_meet 40 = .ok (.ireturn, 1) := by decide +kernel
theorem dX0_bare_0 : decode cX0_bare 0 = .ok (.iconst 0, 1) := by decide +kernel
theorem dX0_bare_1 : decode cX0_bare 1 = .ok (.istore_n 1, 1) := by decide +kernel
theorem dX0_bare_2 : decode cX0_bare 2 = .ok (.iconst 0, 1) := by decide +kernel
theorem dX0_bare_3 : decode cX0_bare 3 = .ok (.istore_n 2, 1) := by decide +kernel
theorem dX0_bare_4 : decode cX0_bare 4 = .ok (.iload_n 2, 1) := by decide +kernel
theorem dX0_bare_5 : decode cX0_bare 5 = .ok (.sipush 1024, 3) := by decide +kernel
theorem dX0_bare_8 : decode cX0_bare 8 = .ok (.if_icmp .ge 20, 3) := by decide +kernel
theorem dX0_bare_11 : decode cX0_bare 11 = .ok (.aload_n 0, 1) := by decide +kernel
theorem dX0_bare_12 : decode cX0_bare 12 = .ok (.iload_n 2, 1) := by decide +kernel
theorem dX0_bare_13 : decode cX0_bare 13 = .ok (.invokevirtual 104, 3) := by decide +kernel
theorem dX0_bare_16 : decode cX0_bare 16 = .ok (.ifCond .eq 6, 3) := by decide +kernel
theorem dX0_bare_19 : decode cX0_bare 19 = .ok (.iinc 1 1, 3) := by decide +kernel
theorem dX0_bare_22 : decode cX0_bare 22 = .ok (.iinc 2 1, 3) := by decide +kernel
theorem dX0_bare_25 : decode cX0_bare 25 = .ok (.goto (-21), 3) := by decide +kernel
theorem dX0_bare_28 : decode cX0_bare 28 = .ok (.iload_n 1, 1) := by decide +kernel
theorem dX0_bare_29 : decode cX0_bare 29 = .ok (.ireturn, 1) := by decide +kernel
theorem dX0_about_0 : decode cX0_about 0 = .ok (.iload_n 1, 1) := by decide +kernel
theorem dX0_about_1 : decode cX0_about 1 = .ok (.invokestatic 32, 3) := by decide +kernel
theorem dX0_about_4 : decode cX0_about 4 = .ok (.iload_n 2, 1) := by decide +kernel
theorem dX0_about_5 : decode cX0_about 5 = .ok (.tableswitch 61 0 3 #[31, 38, 45, 51], 31) := by decide +kernel
theorem dX0_about_36 : decode cX0_about 36 = .ok (.aload_n 0, 1) := by decide +kernel
theorem dX0_about_37 : decode cX0_about 37 = .ok (.getfield 9, 3) := by decide +kernel
theorem dX0_about_40 : decode cX0_about 40 = .ok (.iload_n 1, 1) := by decide +kernel
theorem dX0_about_41 : decode cX0_about 41 = .ok (.iaload, 1) := by decide +kernel
theorem dX0_about_42 : decode cX0_about 42 = .ok (.ireturn, 1) := by decide +kernel
theorem dX0_about_43 : decode cX0_about 43 = .ok (.aload_n 0, 1) := by decide +kernel
theorem dX0_about_44 : decode cX0_about 44 = .ok (.getfield 13, 3) := by decide +kernel
theorem dX0_about_47 : decode cX0_about 47 = .ok (.iload_n 1, 1) := by decide +kernel
theorem dX0_about_48 : decode cX0_about 48 = .ok (.iaload, 1) := by decide +kernel
theorem dX0_about_49 : decode cX0_about 49 = .ok (.ireturn, 1) := by decide +kernel
theorem dX0_about_50 : decode cX0_about 50 = .ok (.aload_n 0, 1) := by decide +kernel
theorem dX0_about_51 : decode cX0_about 51 = .ok (.iload_n 1, 1) := by decide +kernel
theorem dX0_about_52 : decode cX0_about 52 = .ok (.invokevirtual 107, 3) := by decide +kernel
theorem dX0_about_55 : decode cX0_about 55 = .ok (.ireturn, 1) := by decide +kernel
theorem dX0_about_56 : decode cX0_about 56 = .ok (.aload_n 0, 1) := by decide +kernel
theorem dX0_about_57 : decode cX0_about 57 = .ok (.bipush 31, 2) := by decide +kernel
theorem dX0_about_59 : decode cX0_about 59 = .ok (.iconst 1, 1) := by decide +kernel
theorem dX0_about_60 : decode cX0_about 60 = .ok (.iload_n 1, 1) := by decide +kernel
theorem dX0_about_61 : decode cX0_about 61 = .ok (.ishl, 1) := by decide +kernel
theorem dX0_about_62 : decode cX0_about 62 = .ok (.invokevirtual 91, 3) := by decide +kernel
theorem dX0_about_65 : decode cX0_about 65 = .ok (.ireturn, 1) := by decide +kernel
theorem dX0_about_66 : decode cX0_about 66 = .ok (.new 36, 3) := by decide +kernel
theorem dX0_about_69 : decode cX0_about 69 = .ok (.dup, 1) := by decide +kernel
theorem dX0_about_70 : decode cX0_about 70 = .ok (.ldc 110, 2) := by decide +kernel
theorem dX0_about_72 : decode cX0_about 72 = .ok (.invokespecial 40, 3) := by decide +kernel
theorem dX0_about_75 : decode cX0_about 75 = .ok (.athrow, 1) := by decide +kernel
theorem dX0_count_0 : decode cX0_count 0 = .ok (.iload_n 1, 1) := by decide +kernel
theorem dX0_count_1 : decode cX0_count 1 = .ok (.tableswitch 63 0 4 #[35, 40, 48, 53, 58], 35) := by decide +kernel
theorem dX0_count_36 : decode cX0_count 36 = .ok (.aload_n 0, 1) := by decide +kernel
theorem dX0_count_37 : decode cX0_count 37 = .ok (.getfield 22, 3) := by decide +kernel
theorem dX0_count_40 : decode cX0_count 40 = .ok (.ireturn, 1) := by decide +kernel
theorem dX0_count_41 : decode cX0_count 41 = .ok (.aload_n 0, 1) := by decide +kernel
theorem dX0_count_42 : decode cX0_count 42 = .ok (.sipush 1023, 3) := by decide +kernel
theorem dX0_count_45 : decode cX0_count 45 = .ok (.invokevirtual 112, 3) := by decide +kernel
theorem dX0_count_48 : decode cX0_count 48 = .ok (.ireturn, 1) := by decide +kernel
theorem dX0_count_49 : decode cX0_count 49 = .ok (.aload_n 0, 1) := by decide +kernel
theorem dX0_count_50 : decode cX0_count 50 = .ok (.invokevirtual 115, 3) := by decide +kernel
theorem dX0_count_53 : decode cX0_count 53 = .ok (.ireturn, 1) := by decide +kernel
theorem dX0_count_54 : decode cX0_count 54 = .ok (.aload_n 0, 1) := by decide +kernel
theorem dX0_count_55 : decode cX0_count 55 = .ok (.invokevirtual 119, 3) := by decide +kernel
theorem dX0_count_58 : decode cX0_count 58 = .ok (.ireturn, 1) := by decide +kernel
theorem dX0_count_59 : decode cX0_count 59 = .ok (.aload_n 0, 1) := by decide +kernel
theorem dX0_count_60 : decode cX0_count 60 = .ok (.invokevirtual 122, 3) := by decide +kernel
theorem dX0_count_63 : decode cX0_count 63 = .ok (.ireturn, 1) := by decide +kernel
theorem dX0_count_64 : decode cX0_count 64 = .ok (.iconst (-1), 1) := by decide +kernel
theorem dX0_count_65 : decode cX0_count 65 = .ok (.ireturn, 1) := by decide +kernel
theorem dX0_requireNode_0 : decode cX0_requireNode 0 = .ok (.iload_n 0, 1) := by decide +kernel
theorem dX0_requireNode_1 : decode cX0_requireNode 1 = .ok (.ifCond .lt 9, 3) := by decide +kernel
theorem dX0_requireNode_4 : decode cX0_requireNode 4 = .ok (.iload_n 0, 1) := by decide +kernel
theorem dX0_requireNode_5 : decode cX0_requireNode 5 = .ok (.bipush 10, 2) := by decide +kernel
theorem dX0_requireNode_7 : decode cX0_requireNode 7 = .ok (.if_icmp .lt 13, 3) := by decide +kernel
theorem dX0_requireNode_10 : decode cX0_requireNode 10 = .ok (.new 125, 3) := by decide +kernel
theorem dX0_requireNode_13 : decode cX0_requireNode 13 = .ok (.dup, 1) := by decide +kernel
theorem dX0_requireNode_14 : decode cX0_requireNode 14 = .ok (.ldc 127, 2) := by decide +kernel
theorem dX0_requireNode_16 : decode cX0_requireNode 16 = .ok (.invokespecial 129, 3) := by decide +kernel
theorem dX0_requireNode_19 : decode cX0_requireNode 19 = .ok (.athrow, 1) := by decide +kernel
theorem dX0_requireNode_20 : decode cX0_requireNode 20 = .ok (.return_, 1) := by decide +kernel
theorem dX0_requireSet_0 : decode cX0_requireSet 0 = .ok (.iload_n 0, 1) := by decide +kernel
theorem dX0_requireSet_1 : decode cX0_requireSet 1 = .ok (.ifCond .lt 10, 3) := by decide +kernel
theorem dX0_requireSet_4 : decode cX0_requireSet 4 = .ok (.iload_n 0, 1) := by decide +kernel
theorem dX0_requireSet_5 : decode cX0_requireSet 5 = .ok (.sipush 1024, 3) := by decide +kernel
theorem dX0_requireSet_8 : decode cX0_requireSet 8 = .ok (.if_icmp .lt 13, 3) := by decide +kernel
theorem dX0_requireSet_11 : decode cX0_requireSet 11 = .ok (.new 125, 3) := by decide +kernel
theorem dX0_requireSet_14 : decode cX0_requireSet 14 = .ok (.dup, 1) := by decide +kernel
theorem dX0_requireSet_15 : decode cX0_requireSet 15 = .ok (.ldc 130, 2) := by decide +kernel
theorem dX0_requireSet_17 : decode cX0_requireSet 17 = .ok (.invokespecial 129, 3) := by decide +kernel
theorem dX0_requireSet_20 : decode cX0_requireSet 20 = .ok (.athrow, 1) := by decide +kernel
theorem dX0_requireSet_21 : decode cX0_requireSet 21 = .ok (.return_, 1) := by decide +kernel
theorem dX0_requireBallot_0 : decode cX0_requireBallot 0 = .ok (.iload_n 0, 1) := by decide +kernel
theorem dX0_requireBallot_1 : decode cX0_requireBallot 1 = .ok (.ifCond .lt 9, 3) := by decide +kernel
theorem dX0_requireBallot_4 : decode cX0_requireBallot 4 = .ok (.iload_n 0, 1) := by decide +kernel
theorem dX0_requireBallot_5 : decode cX0_requireBallot 5 = .ok (.bipush 31, 2) := by decide +kernel
theorem dX0_requireBallot_7 : decode cX0_requireBallot 7 = .ok (.if_icmp .lt 13, 3) := by decide +kernel
theorem dX0_requireBallot_10 : decode cX0_requireBallot 10 = .ok (.new 125, 3) := by decide +kernel
theorem dX0_requireBallot_13 : decode cX0_requireBallot 13 = .ok (.dup, 1) := by decide +kernel
theorem dX0_requireBallot_14 : decode cX0_requireBallot 14 = .ok (.ldc 132, 2) := by decide +kernel
theorem dX0_requireBallot_16 : decode cX0_requireBallot 16 = .ok (.invokespecial 129, 3) := by decide +kernel
theorem dX0_requireBallot_19 : decode cX0_requireBallot 19 = .ok (.athrow, 1) := by decide +kernel
theorem dX0_requireBallot_20 : decode cX0_requireBallot 20 = .ok (.return_, 1) := by decide +kernel
theorem dX0_requireValue_0 : decode cX0_requireValue 0 = .ok (.iload_n 0, 1) := by decide +kernel
theorem dX0_requireValue_1 : decode cX0_requireValue 1 = .ok (.ifCond .lt 9, 3) := by decide +kernel
theorem dX0_requireValue_4 : decode cX0_requireValue 4 = .ok (.iload_n 0, 1) := by decide +kernel
theorem dX0_requireValue_5 : decode cX0_requireValue 5 = .ok (.bipush 10, 2) := by decide +kernel
theorem dX0_requireValue_7 : decode cX0_requireValue 7 = .ok (.if_icmp .lt 13, 3) := by decide +kernel
theorem dX0_requireValue_10 : decode cX0_requireValue 10 = .ok (.new 125, 3) := by decide +kernel
theorem dX0_requireValue_13 : decode cX0_requireValue 13 = .ok (.dup, 1) := by decide +kernel
theorem dX0_requireValue_14 : decode cX0_requireValue 14 = .ok (.ldc 134, 2) := by decide +kernel
theorem dX0_requireValue_16 : decode cX0_requireValue 16 = .ok (.invokespecial 129, 3) := by decide +kernel
theorem dX0_requireValue_19 : decode cX0_requireValue 19 = .ok (.athrow, 1) := by decide +kernel
theorem dX0_requireValue_20 : decode cX0_requireValue 20 = .ok (.return_, 1) := by decide +kernel
theorem dX0_holds_0 : decode cX0_holds 0 = .ok (.iload_n 0, 1) := by decide +kernel
theorem dX0_holds_1 : decode cX0_holds 1 = .ok (.iload_n 1, 1) := by decide +kernel
theorem dX0_holds_2 : decode cX0_holds 2 = .ok (.ishr, 1) := by decide +kernel
theorem dX0_holds_3 : decode cX0_holds 3 = .ok (.iconst 1, 1) := by decide +kernel
theorem dX0_holds_4 : decode cX0_holds 4 = .ok (.iand, 1) := by decide +kernel
theorem dX0_holds_5 : decode cX0_holds 5 = .ok (.iconst 1, 1) := by decide +kernel
theorem dX0_holds_6 : decode cX0_holds 6 = .ok (.if_icmp .ne 7, 3) := by decide +kernel
theorem dX0_holds_9 : decode cX0_holds 9 = .ok (.iconst 1, 1) := by decide +kernel
theorem dX0_holds_10 : decode cX0_holds 10 = .ok (.goto 4, 3) := by decide +kernel
theorem dX0_holds_13 : decode cX0_holds 13 = .ok (.iconst 0, 1) := by decide +kernel
theorem dX0_holds_14 : decode cX0_holds 14 = .ok (.ireturn, 1) := by decide +kernel
theorem dX0_weightOf_0 : decode cX0_weightOf 0 = .ok (.iconst 0, 1) := by decide +kernel
theorem dX0_weightOf_1 : decode cX0_weightOf 1 = .ok (.istore_n 2, 1) := by decide +kernel
theorem dX0_weightOf_2 : decode cX0_weightOf 2 = .ok (.iconst 0, 1) := by decide +kernel
theorem dX0_weightOf_3 : decode cX0_weightOf 3 = .ok (.istore_n 3, 1) := by decide +kernel
theorem dX0_weightOf_4 : decode cX0_weightOf 4 = .ok (.iload_n 3, 1) := by decide +kernel
theorem dX0_weightOf_5 : decode cX0_weightOf 5 = .ok (.bipush 10, 2) := by decide +kernel
theorem dX0_weightOf_7 : decode cX0_weightOf 7 = .ok (.if_icmp .ge 26, 3) := by decide +kernel
theorem dX0_weightOf_10 : decode cX0_weightOf 10 = .ok (.iload_n 1, 1) := by decide +kernel
theorem dX0_weightOf_11 : decode cX0_weightOf 11 = .ok (.iload_n 3, 1) := by decide +kernel
theorem dX0_weightOf_12 : decode cX0_weightOf 12 = .ok (.invokestatic 136, 3) := by decide +kernel
theorem dX0_weightOf_15 : decode cX0_weightOf 15 = .ok (.ifCond .eq 12, 3) := by decide +kernel
theorem dX0_weightOf_18 : decode cX0_weightOf 18 = .ok (.iload_n 2, 1) := by decide +kernel
theorem dX0_weightOf_19 : decode cX0_weightOf 19 = .ok (.aload_n 0, 1) := by decide +kernel
theorem dX0_weightOf_20 : decode cX0_weightOf 20 = .ok (.getfield 9, 3) := by decide +kernel
theorem dX0_weightOf_23 : decode cX0_weightOf 23 = .ok (.iload_n 3, 1) := by decide +kernel
theorem dX0_weightOf_24 : decode cX0_weightOf 24 = .ok (.iaload, 1) := by decide +kernel
theorem dX0_weightOf_25 : decode cX0_weightOf 25 = .ok (.iadd, 1) := by decide +kernel
theorem dX0_weightOf_26 : decode cX0_weightOf 26 = .ok (.istore_n 2, 1) := by decide +kernel
theorem dX0_weightOf_27 : decode cX0_weightOf 27 = .ok (.iinc 3 1, 3) := by decide +kernel
theorem dX0_weightOf_30 : decode cX0_weightOf 30 = .ok (.goto (-26), 3) := by decide +kernel
theorem dX0_weightOf_33 : decode cX0_weightOf 33 = .ok (.iload_n 2, 1) := by decide +kernel
theorem dX0_weightOf_34 : decode cX0_weightOf 34 = .ok (.ireturn, 1) := by decide +kernel
theorem dX0_isEnough_0 : decode cX0_isEnough 0 = .ok (.aload_n 0, 1) := by decide +kernel
theorem dX0_isEnough_1 : decode cX0_isEnough 1 = .ok (.iload_n 1, 1) := by decide +kernel
theorem dX0_isEnough_2 : decode cX0_isEnough 2 = .ok (.invokevirtual 112, 3) := by decide +kernel
theorem dX0_isEnough_5 : decode cX0_isEnough 5 = .ok (.aload_n 0, 1) := by decide +kernel
theorem dX0_isEnough_6 : decode cX0_isEnough 6 = .ok (.getfield 22, 3) := by decide +kernel
theorem dX0_isEnough_9 : decode cX0_isEnough 9 = .ok (.if_icmp .lt 7, 3) := by decide +kernel
theorem dX0_isEnough_12 : decode cX0_isEnough 12 = .ok (.iconst 1, 1) := by decide +kernel
theorem dX0_isEnough_13 : decode cX0_isEnough 13 = .ok (.goto 4, 3) := by decide +kernel
theorem dX0_isEnough_16 : decode cX0_isEnough 16 = .ok (.iconst 0, 1) := by decide +kernel
theorem dX0_isEnough_17 : decode cX0_isEnough 17 = .ok (.ireturn, 1) := by decide +kernel
theorem dX0_isBare_0 : decode cX0_isBare 0 = .ok (.aload_n 0, 1) := by decide +kernel
theorem dX0_isBare_1 : decode cX0_isBare 1 = .ok (.iload_n 1, 1) := by decide +kernel
theorem dX0_isBare_2 : decode cX0_isBare 2 = .ok (.invokevirtual 112, 3) := by decide +kernel
theorem dX0_isBare_5 : decode cX0_isBare 5 = .ok (.istore_n 2, 1) := by decide +kernel
theorem dX0_isBare_6 : decode cX0_isBare 6 = .ok (.iload_n 2, 1) := by decide +kernel
theorem dX0_isBare_7 : decode cX0_isBare 7 = .ok (.aload_n 0, 1) := by decide +kernel
theorem dX0_isBare_8 : decode cX0_isBare 8 = .ok (.getfield 22, 3) := by decide +kernel
theorem dX0_isBare_11 : decode cX0_isBare 11 = .ok (.if_icmp .lt 21, 3) := by decide +kernel
theorem dX0_isBare_14 : decode cX0_isBare 14 = .ok (.iload_n 2, 1) := by decide +kernel
theorem dX0_isBare_15 : decode cX0_isBare 15 = .ok (.aload_n 0, 1) := by decide +kernel
theorem dX0_isBare_16 : decode cX0_isBare 16 = .ok (.iload_n 1, 1) := by decide +kernel
theorem dX0_isBare_17 : decode cX0_isBare 17 = .ok (.invokevirtual 139, 3) := by decide +kernel
theorem dX0_isBare_20 : decode cX0_isBare 20 = .ok (.isub, 1) := by decide +kernel
theorem dX0_isBare_21 : decode cX0_isBare 21 = .ok (.aload_n 0, 1) := by decide +kernel
theorem dX0_isBare_22 : decode cX0_isBare 22 = .ok (.getfield 22, 3) := by decide +kernel
theorem dX0_isBare_25 : decode cX0_isBare 25 = .ok (.if_icmp .ge 7, 3) := by decide +kernel
theorem dX0_isBare_28 : decode cX0_isBare 28 = .ok (.iconst 1, 1) := by decide +kernel
theorem dX0_isBare_29 : decode cX0_isBare 29 = .ok (.goto 4, 3) := by decide +kernel
theorem dX0_isBare_32 : decode cX0_isBare 32 = .ok (.iconst 0, 1) := by decide +kernel
theorem dX0_isBare_33 : decode cX0_isBare 33 = .ok (.ireturn, 1) := by decide +kernel
theorem dX0_lightestOf_0 : decode cX0_lightestOf 0 = .ok (.bipush 50, 2) := by decide +kernel
theorem dX0_lightestOf_2 : decode cX0_lightestOf 2 = .ok (.istore_n 2, 1) := by decide +kernel
theorem dX0_lightestOf_3 : decode cX0_lightestOf 3 = .ok (.iconst 0, 1) := by decide +kernel
theorem dX0_lightestOf_4 : decode cX0_lightestOf 4 = .ok (.istore_n 3, 1) := by decide +kernel
theorem dX0_lightestOf_5 : decode cX0_lightestOf 5 = .ok (.iload_n 3, 1) := by decide +kernel
theorem dX0_lightestOf_6 : decode cX0_lightestOf 6 = .ok (.bipush 10, 2) := by decide +kernel
theorem dX0_lightestOf_8 : decode cX0_lightestOf 8 = .ok (.if_icmp .ge 28, 3) := by decide +kernel
theorem dX0_lightestOf_11 : decode cX0_lightestOf 11 = .ok (.iload_n 1, 1) := by decide +kernel
theorem dX0_lightestOf_12 : decode cX0_lightestOf 12 = .ok (.iload_n 3, 1) := by decide +kernel
theorem dX0_lightestOf_13 : decode cX0_lightestOf 13 = .ok (.invokestatic 136, 3) := by decide +kernel
theorem dX0_lightestOf_16 : decode cX0_lightestOf 16 = .ok (.ifCond .eq 14, 3) := by decide +kernel
theorem dX0_lightestOf_19 : decode cX0_lightestOf 19 = .ok (.iload_n 2, 1) := by decide +kernel
theorem dX0_lightestOf_20 : decode cX0_lightestOf 20 = .ok (.aload_n 0, 1) := by decide +kernel
theorem dX0_lightestOf_21 : decode cX0_lightestOf 21 = .ok (.getfield 9, 3) := by decide +kernel
theorem dX0_lightestOf_24 : decode cX0_lightestOf 24 = .ok (.iload_n 3, 1) := by decide +kernel
theorem dX0_lightestOf_25 : decode cX0_lightestOf 25 = .ok (.iaload, 1) := by decide +kernel
theorem dX0_lightestOf_26 : decode cX0_lightestOf 26 = .ok (.invokestatic 142, 3) := by decide +kernel
theorem dX0_lightestOf_29 : decode cX0_lightestOf 29 = .ok (.istore_n 2, 1) := by decide +kernel
theorem dX0_lightestOf_30 : decode cX0_lightestOf 30 = .ok (.iinc 3 1, 3) := by decide +kernel
theorem dX0_lightestOf_33 : decode cX0_lightestOf 33 = .ok (.goto (-28), 3) := by decide +kernel
theorem dX0_lightestOf_36 : decode cX0_lightestOf 36 = .ok (.iload_n 2, 1) := by decide +kernel
theorem dX0_lightestOf_37 : decode cX0_lightestOf 37 = .ok (.ireturn, 1) := by decide +kernel
theorem dX0_isOpen_0 : decode cX0_isOpen 0 = .ok (.aload_n 0, 1) := by decide +kernel
theorem dX0_isOpen_1 : decode cX0_isOpen 1 = .ok (.getfield 16, 3) := by decide +kernel
theorem dX0_isOpen_4 : decode cX0_isOpen 4 = .ok (.iload_n 2, 1) := by decide +kernel
theorem dX0_isOpen_5 : decode cX0_isOpen 5 = .ok (.iaload, 1) := by decide +kernel
theorem dX0_isOpen_6 : decode cX0_isOpen 6 = .ok (.iload_n 1, 1) := by decide +kernel
theorem dX0_isOpen_7 : decode cX0_isOpen 7 = .ok (.invokestatic 136, 3) := by decide +kernel
theorem dX0_isOpen_10 : decode cX0_isOpen 10 = .ok (.ifCond .ne 17, 3) := by decide +kernel
theorem dX0_isOpen_13 : decode cX0_isOpen 13 = .ok (.aload_n 0, 1) := by decide +kernel
theorem dX0_isOpen_14 : decode cX0_isOpen 14 = .ok (.getfield 13, 3) := by decide +kernel
theorem dX0_isOpen_17 : decode cX0_isOpen 17 = .ok (.iload_n 1, 1) := by decide +kernel
theorem dX0_isOpen_18 : decode cX0_isOpen 18 = .ok (.iaload, 1) := by decide +kernel
theorem dX0_isOpen_19 : decode cX0_isOpen 19 = .ok (.iload_n 2, 1) := by decide +kernel
theorem dX0_isOpen_20 : decode cX0_isOpen 20 = .ok (.if_icmp .gt 7, 3) := by decide +kernel
theorem dX0_isOpen_23 : decode cX0_isOpen 23 = .ok (.iconst 1, 1) := by decide +kernel
theorem dX0_isOpen_24 : decode cX0_isOpen 24 = .ok (.goto 4, 3) := by decide +kernel
theorem dX0_isOpen_27 : decode cX0_isOpen 27 = .ok (.iconst 0, 1) := by decide +kernel
theorem dX0_isOpen_28 : decode cX0_isOpen 28 = .ok (.ireturn, 1) := by decide +kernel
theorem dX0_openNodes_0 : decode cX0_openNodes 0 = .ok (.iconst 0, 1) := by decide +kernel
theorem dX0_openNodes_1 : decode cX0_openNodes 1 = .ok (.istore_n 2, 1) := by decide +kernel
theorem dX0_openNodes_2 : decode cX0_openNodes 2 = .ok (.iconst 0, 1) := by decide +kernel
theorem dX0_openNodes_3 : decode cX0_openNodes 3 = .ok (.istore_n 3, 1) := by decide +kernel
theorem dX0_openNodes_4 : decode cX0_openNodes 4 = .ok (.iload_n 3, 1) := by decide +kernel
theorem dX0_openNodes_5 : decode cX0_openNodes 5 = .ok (.bipush 10, 2) := by decide +kernel
theorem dX0_openNodes_7 : decode cX0_openNodes 7 = .ok (.if_icmp .ge 24, 3) := by decide +kernel
theorem dX0_openNodes_10 : decode cX0_openNodes 10 = .ok (.aload_n 0, 1) := by decide +kernel
theorem dX0_openNodes_11 : decode cX0_openNodes 11 = .ok (.iload_n 3, 1) := by decide +kernel
theorem dX0_openNodes_12 : decode cX0_openNodes 12 = .ok (.iload_n 1, 1) := by decide +kernel
theorem dX0_openNodes_13 : decode cX0_openNodes 13 = .ok (.invokevirtual 56, 3) := by decide +kernel
theorem dX0_openNodes_16 : decode cX0_openNodes 16 = .ok (.ifCond .eq 9, 3) := by decide +kernel
theorem dX0_openNodes_19 : decode cX0_openNodes 19 = .ok (.iload_n 2, 1) := by decide +kernel
theorem dX0_openNodes_20 : decode cX0_openNodes 20 = .ok (.iconst 1, 1) := by decide +kernel
theorem dX0_openNodes_21 : decode cX0_openNodes 21 = .ok (.iload_n 3, 1) := by decide +kernel
theorem dX0_openNodes_22 : decode cX0_openNodes 22 = .ok (.ishl, 1) := by decide +kernel
theorem dX0_openNodes_23 : decode cX0_openNodes 23 = .ok (.ior, 1) := by decide +kernel
theorem dX0_openNodes_24 : decode cX0_openNodes 24 = .ok (.istore_n 2, 1) := by decide +kernel
theorem dX0_openNodes_25 : decode cX0_openNodes 25 = .ok (.iinc 3 1, 3) := by decide +kernel
theorem dX0_openNodes_28 : decode cX0_openNodes 28 = .ok (.goto (-24), 3) := by decide +kernel
theorem dX0_openNodes_31 : decode cX0_openNodes 31 = .ok (.iload_n 2, 1) := by decide +kernel
theorem dX0_openNodes_32 : decode cX0_openNodes 32 = .ok (.ireturn, 1) := by decide +kernel
theorem dX0_isOnlyValue_0 : decode cX0_isOnlyValue 0 = .ok (.aload_n 0, 1) := by decide +kernel
theorem dX0_isOnlyValue_1 : decode cX0_isOnlyValue 1 = .ok (.getfield 19, 3) := by decide +kernel
theorem dX0_isOnlyValue_4 : decode cX0_isOnlyValue 4 = .ok (.iload_n 1, 1) := by decide +kernel
theorem dX0_isOnlyValue_5 : decode cX0_isOnlyValue 5 = .ok (.iaload, 1) := by decide +kernel
theorem dX0_isOnlyValue_6 : decode cX0_isOnlyValue 6 = .ok (.iconst (-1), 1) := by decide +kernel
theorem dX0_isOnlyValue_7 : decode cX0_isOnlyValue 7 = .ok (.if_icmp .eq 13, 3) := by decide +kernel
theorem dX0_isOnlyValue_10 : decode cX0_isOnlyValue 10 = .ok (.aload_n 0, 1) := by decide +kernel
theorem dX0_isOnlyValue_11 : decode cX0_isOnlyValue 11 = .ok (.getfield 19, 3) := by decide +kernel
theorem dX0_isOnlyValue_14 : decode cX0_isOnlyValue 14 = .ok (.iload_n 1, 1) := by decide +kernel
theorem dX0_isOnlyValue_15 : decode cX0_isOnlyValue 15 = .ok (.iaload, 1) := by decide +kernel
theorem dX0_isOnlyValue_16 : decode cX0_isOnlyValue 16 = .ok (.iload_n 2, 1) := by decide +kernel
theorem dX0_isOnlyValue_17 : decode cX0_isOnlyValue 17 = .ok (.if_icmp .ne 7, 3) := by decide +kernel
theorem dX0_isOnlyValue_20 : decode cX0_isOnlyValue 20 = .ok (.iconst 1, 1) := by decide +kernel
theorem dX0_isOnlyValue_21 : decode cX0_isOnlyValue 21 = .ok (.goto 4, 3) := by decide +kernel
theorem dX0_isOnlyValue_24 : decode cX0_isOnlyValue 24 = .ok (.iconst 0, 1) := by decide +kernel
theorem dX0_isOnlyValue_25 : decode cX0_isOnlyValue 25 = .ok (.ireturn, 1) := by decide +kernel
theorem dX0_hasWayToChoose_0 : decode cX0_hasWayToChoose 0 = .ok (.aload_n 0, 1) := by decide +kernel
theorem dX0_hasWayToChoose_1 : decode cX0_hasWayToChoose 1 = .ok (.aload_n 0, 1) := by decide +kernel
theorem dX0_hasWayToChoose_2 : decode cX0_hasWayToChoose 2 = .ok (.getfield 16, 3) := by decide +kernel
theorem dX0_hasWayToChoose_5 : decode cX0_hasWayToChoose 5 = .ok (.iload_n 1, 1) := by decide +kernel
theorem dX0_hasWayToChoose_6 : decode cX0_hasWayToChoose 6 = .ok (.iaload, 1) := by decide +kernel
theorem dX0_hasWayToChoose_7 : decode cX0_hasWayToChoose 7 = .ok (.aload_n 0, 1) := by decide +kernel
theorem dX0_hasWayToChoose_8 : decode cX0_hasWayToChoose 8 = .ok (.iload_n 1, 1) := by decide +kernel
theorem dX0_hasWayToChoose_9 : decode cX0_hasWayToChoose 9 = .ok (.invokevirtual 147, 3) := by decide +kernel
theorem dX0_hasWayToChoose_12 : decode cX0_hasWayToChoose 12 = .ok (.ior, 1) := by decide +kernel
theorem dX0_hasWayToChoose_13 : decode cX0_hasWayToChoose 13 = .ok (.invokevirtual 76, 3) := by decide +kernel
theorem dX0_hasWayToChoose_16 : decode cX0_hasWayToChoose 16 = .ok (.ireturn, 1) := by decide +kernel
theorem dX0_isSafe_0 : decode cX0_isSafe 0 = .ok (.iconst 0, 1) := by decide +kernel
theorem dX0_isSafe_1 : decode cX0_isSafe 1 = .ok (.istore_n 3, 1) := by decide +kernel
theorem dX0_isSafe_2 : decode cX0_isSafe 2 = .ok (.iload_n 3, 1) := by decide +kernel
theorem dX0_isSafe_3 : decode cX0_isSafe 3 = .ok (.iload_n 1, 1) := by decide +kernel
theorem dX0_isSafe_4 : decode cX0_isSafe 4 = .ok (.if_icmp .ge 29, 3) := by decide +kernel
theorem dX0_isSafe_7 : decode cX0_isSafe 7 = .ok (.aload_n 0, 1) := by decide +kernel
theorem dX0_isSafe_8 : decode cX0_isSafe 8 = .ok (.getfield 19, 3) := by decide +kernel
theorem dX0_isSafe_11 : decode cX0_isSafe 11 = .ok (.iload_n 3, 1) := by decide +kernel
theorem dX0_isSafe_12 : decode cX0_isSafe 12 = .ok (.iaload, 1) := by decide +kernel
theorem dX0_isSafe_13 : decode cX0_isSafe 13 = .ok (.iload_n 2, 1) := by decide +kernel
theorem dX0_isSafe_14 : decode cX0_isSafe 14 = .ok (.if_icmp .eq 13, 3) := by decide +kernel
theorem dX0_isSafe_17 : decode cX0_isSafe 17 = .ok (.aload_n 0, 1) := by decide +kernel
theorem dX0_isSafe_18 : decode cX0_isSafe 18 = .ok (.iload_n 3, 1) := by decide +kernel
theorem dX0_isSafe_19 : decode cX0_isSafe 19 = .ok (.invokevirtual 98, 3) := by decide +kernel
theorem dX0_isSafe_22 : decode cX0_isSafe 22 = .ok (.ifCond .eq 5, 3) := by decide +kernel
theorem dX0_isSafe_25 : decode cX0_isSafe 25 = .ok (.iconst 0, 1) := by decide +kernel
theorem dX0_isSafe_26 : decode cX0_isSafe 26 = .ok (.ireturn, 1) := by decide +kernel
theorem dX0_isSafe_27 : decode cX0_isSafe 27 = .ok (.iinc 3 1, 3) := by decide +kernel
theorem dX0_isSafe_30 : decode cX0_isSafe 30 = .ok (.goto (-28), 3) := by decide +kernel
theorem dX0_isSafe_33 : decode cX0_isSafe 33 = .ok (.iconst 1, 1) := by decide +kernel
theorem dX0_isSafe_34 : decode cX0_isSafe 34 = .ok (.ireturn, 1) := by decide +kernel
theorem dX0_chosenValue_0 : decode cX0_chosenValue 0 = .ok (.aload_n 0, 1) := by decide +kernel
theorem dX0_chosenValue_1 : decode cX0_chosenValue 1 = .ok (.aload_n 0, 1) := by decide +kernel
theorem dX0_chosenValue_2 : decode cX0_chosenValue 2 = .ok (.getfield 16, 3) := by decide +kernel
theorem dX0_chosenValue_5 : decode cX0_chosenValue 5 = .ok (.iload_n 1, 1) := by decide +kernel
theorem dX0_chosenValue_6 : decode cX0_chosenValue 6 = .ok (.iaload, 1) := by decide +kernel
theorem dX0_chosenValue_7 : decode cX0_chosenValue 7 = .ok (.invokevirtual 76, 3) := by decide +kernel
theorem dX0_chosenValue_10 : decode cX0_chosenValue 10 = .ok (.ifCond .eq 12, 3) := by decide +kernel
theorem dX0_chosenValue_13 : decode cX0_chosenValue 13 = .ok (.aload_n 0, 1) := by decide +kernel
theorem dX0_chosenValue_14 : decode cX0_chosenValue 14 = .ok (.getfield 19, 3) := by decide +kernel
theorem dX0_chosenValue_17 : decode cX0_chosenValue 17 = .ok (.iload_n 1, 1) := by decide +kernel
theorem dX0_chosenValue_18 : decode cX0_chosenValue 18 = .ok (.iaload, 1) := by decide +kernel
theorem dX0_chosenValue_19 : decode cX0_chosenValue 19 = .ok (.goto 4, 3) := by decide +kernel
theorem dX0_chosenValue_22 : decode cX0_chosenValue 22 = .ok (.iconst (-1), 1) := by decide +kernel
theorem dX0_chosenValue_23 : decode cX0_chosenValue 23 = .ok (.ireturn, 1) := by decide +kernel
theorem dX0_highestPromise_0 : decode cX0_highestPromise 0 = .ok (.iconst 0, 1) := by decide +kernel
theorem dX0_highestPromise_1 : decode cX0_highestPromise 1 = .ok (.istore_n 2, 1) := by decide +kernel
theorem dX0_highestPromise_2 : decode cX0_highestPromise 2 = .ok (.iconst 0, 1) := by decide +kernel
theorem dX0_highestPromise_3 : decode cX0_highestPromise 3 = .ok (.istore_n 3, 1) := by decide +kernel
theorem dX0_highestPromise_4 : decode cX0_highestPromise 4 = .ok (.iload_n 3, 1) := by decide +kernel
theorem dX0_highestPromise_5 : decode cX0_highestPromise 5 = .ok (.bipush 10, 2) := by decide +kernel
theorem dX0_highestPromise_7 : decode cX0_highestPromise 7 = .ok (.if_icmp .ge 28, 3) := by decide +kernel
theorem dX0_highestPromise_10 : decode cX0_highestPromise 10 = .ok (.iload_n 1, 1) := by decide +kernel
theorem dX0_highestPromise_11 : decode cX0_highestPromise 11 = .ok (.iload_n 3, 1) := by decide +kernel
theorem dX0_highestPromise_12 : decode cX0_highestPromise 12 = .ok (.invokestatic 136, 3) := by decide +kernel
theorem dX0_highestPromise_15 : decode cX0_highestPromise 15 = .ok (.ifCond .eq 14, 3) := by decide +kernel
theorem dX0_highestPromise_18 : decode cX0_highestPromise 18 = .ok (.iload_n 2, 1) := by decide +kernel
theorem dX0_highestPromise_19 : decode cX0_highestPromise 19 = .ok (.aload_n 0, 1) := by decide +kernel
theorem dX0_highestPromise_20 : decode cX0_highestPromise 20 = .ok (.getfield 13, 3) := by decide +kernel
theorem dX0_highestPromise_23 : decode cX0_highestPromise 23 = .ok (.iload_n 3, 1) := by decide +kernel
theorem dX0_highestPromise_24 : decode cX0_highestPromise 24 = .ok (.iaload, 1) := by decide +kernel
theorem dX0_highestPromise_25 : decode cX0_highestPromise 25 = .ok (.invokestatic 150, 3) := by decide +kernel
theorem dX0_highestPromise_28 : decode cX0_highestPromise 28 = .ok (.istore_n 2, 1) := by decide +kernel
theorem dX0_highestPromise_29 : decode cX0_highestPromise 29 = .ok (.iinc 3 1, 3) := by decide +kernel
theorem dX0_highestPromise_32 : decode cX0_highestPromise 32 = .ok (.goto (-28), 3) := by decide +kernel
theorem dX0_highestPromise_35 : decode cX0_highestPromise 35 = .ok (.iload_n 2, 1) := by decide +kernel
theorem dX0_highestPromise_36 : decode cX0_highestPromise 36 = .ok (.ireturn, 1) := by decide +kernel
theorem dX0_promiseAll_0 : decode cX0_promiseAll 0 = .ok (.iconst 0, 1) := by decide +kernel
theorem dX0_promiseAll_1 : decode cX0_promiseAll 1 = .ok (.istore_n 3, 1) := by decide +kernel
theorem dX0_promiseAll_2 : decode cX0_promiseAll 2 = .ok (.iload_n 3, 1) := by decide +kernel
theorem dX0_promiseAll_3 : decode cX0_promiseAll 3 = .ok (.bipush 10, 2) := by decide +kernel
theorem dX0_promiseAll_5 : decode cX0_promiseAll 5 = .ok (.if_icmp .ge 24, 3) := by decide +kernel
theorem dX0_promiseAll_8 : decode cX0_promiseAll 8 = .ok (.iload_n 1, 1) := by decide +kernel
theorem dX0_promiseAll_9 : decode cX0_promiseAll 9 = .ok (.iload_n 3, 1) := by decide +kernel
theorem dX0_promiseAll_10 : decode cX0_promiseAll 10 = .ok (.invokestatic 136, 3) := by decide +kernel
theorem dX0_promiseAll_13 : decode cX0_promiseAll 13 = .ok (.ifCond .eq 10, 3) := by decide +kernel
theorem dX0_promiseAll_16 : decode cX0_promiseAll 16 = .ok (.aload_n 0, 1) := by decide +kernel
theorem dX0_promiseAll_17 : decode cX0_promiseAll 17 = .ok (.getfield 13, 3) := by decide +kernel
theorem dX0_promiseAll_20 : decode cX0_promiseAll 20 = .ok (.iload_n 3, 1) := by decide +kernel
theorem dX0_promiseAll_21 : decode cX0_promiseAll 21 = .ok (.iload_n 2, 1) := by decide +kernel
theorem dX0_promiseAll_22 : decode cX0_promiseAll 22 = .ok (.iastore, 1) := by decide +kernel
theorem dX0_promiseAll_23 : decode cX0_promiseAll 23 = .ok (.iinc 3 1, 3) := by decide +kernel
theorem dX0_promiseAll_26 : decode cX0_promiseAll 26 = .ok (.goto (-24), 3) := by decide +kernel
theorem dX0_promiseAll_29 : decode cX0_promiseAll 29 = .ok (.return_, 1) := by decide +kernel
theorem dX0_lastBallotBelow_0 : decode cX0_lastBallotBelow 0 = .ok (.iload_n 1, 1) := by decide +kernel
theorem dX0_lastBallotBelow_1 : decode cX0_lastBallotBelow 1 = .ok (.iconst 1, 1) := by decide +kernel
theorem dX0_lastBallotBelow_2 : decode cX0_lastBallotBelow 2 = .ok (.isub, 1) := by decide +kernel
theorem dX0_lastBallotBelow_3 : decode cX0_lastBallotBelow 3 = .ok (.istore_n 3, 1) := by decide +kernel
theorem dX0_lastBallotBelow_4 : decode cX0_lastBallotBelow 4 = .ok (.iload_n 3, 1) := by decide +kernel
theorem dX0_lastBallotBelow_5 : decode cX0_lastBallotBelow 5 = .ok (.ifCond .lt 22, 3) := by decide +kernel
theorem dX0_lastBallotBelow_8 : decode cX0_lastBallotBelow 8 = .ok (.aload_n 0, 1) := by decide +kernel
theorem dX0_lastBallotBelow_9 : decode cX0_lastBallotBelow 9 = .ok (.getfield 16, 3) := by decide +kernel
theorem dX0_lastBallotBelow_12 : decode cX0_lastBallotBelow 12 = .ok (.iload_n 3, 1) := by decide +kernel
theorem dX0_lastBallotBelow_13 : decode cX0_lastBallotBelow 13 = .ok (.iaload, 1) := by decide +kernel
theorem dX0_lastBallotBelow_14 : decode cX0_lastBallotBelow 14 = .ok (.iload_n 2, 1) := by decide +kernel
theorem dX0_lastBallotBelow_15 : decode cX0_lastBallotBelow 15 = .ok (.iand, 1) := by decide +kernel
theorem dX0_lastBallotBelow_16 : decode cX0_lastBallotBelow 16 = .ok (.ifCond .eq 5, 3) := by decide +kernel
theorem dX0_lastBallotBelow_19 : decode cX0_lastBallotBelow 19 = .ok (.iload_n 3, 1) := by decide +kernel
theorem dX0_lastBallotBelow_20 : decode cX0_lastBallotBelow 20 = .ok (.ireturn, 1) := by decide +kernel
theorem dX0_lastBallotBelow_21 : decode cX0_lastBallotBelow 21 = .ok (.iinc 3 (-1), 3) := by decide +kernel
theorem dX0_lastBallotBelow_24 : decode cX0_lastBallotBelow 24 = .ok (.goto (-20), 3) := by decide +kernel
theorem dX0_lastBallotBelow_27 : decode cX0_lastBallotBelow 27 = .ok (.iconst (-1), 1) := by decide +kernel
theorem dX0_lastBallotBelow_28 : decode cX0_lastBallotBelow 28 = .ok (.ireturn, 1) := by decide +kernel
theorem dX0_ballotsVotedIn_0 : decode cX0_ballotsVotedIn 0 = .ok (.iconst 0, 1) := by decide +kernel
theorem dX0_ballotsVotedIn_1 : decode cX0_ballotsVotedIn 1 = .ok (.istore_n 2, 1) := by decide +kernel
theorem dX0_ballotsVotedIn_2 : decode cX0_ballotsVotedIn 2 = .ok (.iconst 0, 1) := by decide +kernel
theorem dX0_ballotsVotedIn_3 : decode cX0_ballotsVotedIn 3 = .ok (.istore_n 3, 1) := by decide +kernel
theorem dX0_ballotsVotedIn_4 : decode cX0_ballotsVotedIn 4 = .ok (.iload_n 3, 1) := by decide +kernel
theorem dX0_ballotsVotedIn_5 : decode cX0_ballotsVotedIn 5 = .ok (.bipush 31, 2) := by decide +kernel
theorem dX0_ballotsVotedIn_7 : decode cX0_ballotsVotedIn 7 = .ok (.if_icmp .ge 25, 3) := by decide +kernel
theorem dX0_ballotsVotedIn_10 : decode cX0_ballotsVotedIn 10 = .ok (.aload_n 0, 1) := by decide +kernel
theorem dX0_ballotsVotedIn_11 : decode cX0_ballotsVotedIn 11 = .ok (.getfield 16, 3) := by decide +kernel
theorem dX0_ballotsVotedIn_14 : decode cX0_ballotsVotedIn 14 = .ok (.iload_n 3, 1) := by decide +kernel
theorem dX0_ballotsVotedIn_15 : decode cX0_ballotsVotedIn 15 = .ok (.iaload, 1) := by decide +kernel
theorem dX0_ballotsVotedIn_16 : decode cX0_ballotsVotedIn 16 = .ok (.iload_n 1, 1) := by decide +kernel
theorem dX0_ballotsVotedIn_17 : decode cX0_ballotsVotedIn 17 = .ok (.invokestatic 136, 3) := by decide +kernel
theorem dX0_ballotsVotedIn_20 : decode cX0_ballotsVotedIn 20 = .ok (.ifCond .eq 6, 3) := by decide +kernel
theorem dX0_ballotsVotedIn_23 : decode cX0_ballotsVotedIn 23 = .ok (.iinc 2 1, 3) := by decide +kernel
theorem dX0_ballotsVotedIn_26 : decode cX0_ballotsVotedIn 26 = .ok (.iinc 3 1, 3) := by decide +kernel
theorem dX0_ballotsVotedIn_29 : decode cX0_ballotsVotedIn 29 = .ok (.goto (-25), 3) := by decide +kernel
theorem dX0_ballotsVotedIn_32 : decode cX0_ballotsVotedIn 32 = .ok (.iload_n 2, 1) := by decide +kernel
theorem dX0_ballotsVotedIn_33 : decode cX0_ballotsVotedIn 33 = .ok (.ireturn, 1) := by decide +kernel
theorem dX0_allVotes_0 : decode cX0_allVotes 0 = .ok (.iconst 0, 1) := by decide +kernel
theorem dX0_allVotes_1 : decode cX0_allVotes 1 = .ok (.istore_n 1, 1) := by decide +kernel
theorem dX0_allVotes_2 : decode cX0_allVotes 2 = .ok (.iconst 0, 1) := by decide +kernel
theorem dX0_allVotes_3 : decode cX0_allVotes 3 = .ok (.istore_n 2, 1) := by decide +kernel
theorem dX0_allVotes_4 : decode cX0_allVotes 4 = .ok (.iload_n 2, 1) := by decide +kernel
theorem dX0_allVotes_5 : decode cX0_allVotes 5 = .ok (.bipush 31, 2) := by decide +kernel
theorem dX0_allVotes_7 : decode cX0_allVotes 7 = .ok (.if_icmp .ge 21, 3) := by decide +kernel
theorem dX0_allVotes_10 : decode cX0_allVotes 10 = .ok (.iload_n 1, 1) := by decide +kernel
theorem dX0_allVotes_11 : decode cX0_allVotes 11 = .ok (.aload_n 0, 1) := by decide +kernel
theorem dX0_allVotes_12 : decode cX0_allVotes 12 = .ok (.getfield 16, 3) := by decide +kernel
theorem dX0_allVotes_15 : decode cX0_allVotes 15 = .ok (.iload_n 2, 1) := by decide +kernel
theorem dX0_allVotes_16 : decode cX0_allVotes 16 = .ok (.iaload, 1) := by decide +kernel
theorem dX0_allVotes_17 : decode cX0_allVotes 17 = .ok (.invokestatic 67, 3) := by decide +kernel
theorem dX0_allVotes_20 : decode cX0_allVotes 20 = .ok (.iadd, 1) := by decide +kernel
theorem dX0_allVotes_21 : decode cX0_allVotes 21 = .ok (.istore_n 1, 1) := by decide +kernel
theorem dX0_allVotes_22 : decode cX0_allVotes 22 = .ok (.iinc 2 1, 3) := by decide +kernel
theorem dX0_allVotes_25 : decode cX0_allVotes 25 = .ok (.goto (-21), 3) := by decide +kernel
theorem dX0_allVotes_28 : decode cX0_allVotes 28 = .ok (.iload_n 1, 1) := by decide +kernel
theorem dX0_allVotes_29 : decode cX0_allVotes 29 = .ok (.ireturn, 1) := by decide +kernel
theorem dX0_ballotsWithChosen_0 : decode cX0_ballotsWithChosen 0 = .ok (.iconst 0, 1) := by decide +kernel
theorem dX0_ballotsWithChosen_1 : decode cX0_ballotsWithChosen 1 = .ok (.istore_n 1, 1) := by decide +kernel
theorem dX0_ballotsWithChosen_2 : decode cX0_ballotsWithChosen 2 = .ok (.iconst 0, 1) := by decide +kernel
theorem dX0_ballotsWithChosen_3 : decode cX0_ballotsWithChosen 3 = .ok (.istore_n 2, 1) := by decide +kernel
theorem dX0_ballotsWithChosen_4 : decode cX0_ballotsWithChosen 4 = .ok (.iload_n 2, 1) := by decide +kernel
theorem dX0_ballotsWithChosen_5 : decode cX0_ballotsWithChosen 5 = .ok (.bipush 31, 2) := by decide +kernel
theorem dX0_ballotsWithChosen_7 : decode cX0_ballotsWithChosen 7 = .ok (.if_icmp .ge 21, 3) := by decide +kernel
theorem dX0_ballotsWithChosen_10 : decode cX0_ballotsWithChosen 10 = .ok (.aload_n 0, 1) := by decide +kernel
theorem dX0_ballotsWithChosen_11 : decode cX0_ballotsWithChosen 11 = .ok (.iload_n 2, 1) := by decide +kernel
theorem dX0_ballotsWithChosen_12 : decode cX0_ballotsWithChosen 12 = .ok (.invokevirtual 95, 3) := by decide +kernel
theorem dX0_ballotsWithChosen_15 : decode cX0_ballotsWithChosen 15 = .ok (.iconst (-1), 1) := by decide +kernel
theorem dX0_ballotsWithChosen_16 : decode cX0_ballotsWithChosen 16 = .ok (.if_icmp .eq 6, 3) := by decide +kernel
theorem dX0_ballotsWithChosen_19 : decode cX0_ballotsWithChosen 19 = .ok (.iinc 1 1, 3) := by decide +kernel
theorem dX0_ballotsWithChosen_22 : decode cX0_ballotsWithChosen 22 = .ok (.iinc 2 1, 3) := by decide +kernel
theorem dX0_ballotsWithChosen_25 : decode cX0_ballotsWithChosen 25 = .ok (.goto (-21), 3) := by decide +kernel
theorem dX0_ballotsWithChosen_28 : decode cX0_ballotsWithChosen 28 = .ok (.iload_n 1, 1) := by decide +kernel
theorem dX0_ballotsWithChosen_29 : decode cX0_ballotsWithChosen 29 = .ok (.ireturn, 1) := by decide +kernel
theorem dX0_differentChosen_0 : decode cX0_differentChosen 0 = .ok (.iconst 0, 1) := by decide +kernel
theorem dX0_differentChosen_1 : decode cX0_differentChosen 1 = .ok (.istore_n 1, 1) := by decide +kernel
theorem dX0_differentChosen_2 : decode cX0_differentChosen 2 = .ok (.iconst 0, 1) := by decide +kernel
theorem dX0_differentChosen_3 : decode cX0_differentChosen 3 = .ok (.istore_n 2, 1) := by decide +kernel
theorem dX0_differentChosen_4 : decode cX0_differentChosen 4 = .ok (.iload_n 2, 1) := by decide +kernel
theorem dX0_differentChosen_5 : decode cX0_differentChosen 5 = .ok (.bipush 31, 2) := by decide +kernel
theorem dX0_differentChosen_7 : decode cX0_differentChosen 7 = .ok (.if_icmp .ge 26, 3) := by decide +kernel
theorem dX0_differentChosen_10 : decode cX0_differentChosen 10 = .ok (.aload_n 0, 1) := by decide +kernel
theorem dX0_differentChosen_11 : decode cX0_differentChosen 11 = .ok (.iload_n 2, 1) := by decide +kernel
theorem dX0_differentChosen_12 : decode cX0_differentChosen 12 = .ok (.invokevirtual 95, 3) := by decide +kernel
theorem dX0_differentChosen_15 : decode cX0_differentChosen 15 = .ok (.istore_n 3, 1) := by decide +kernel
theorem dX0_differentChosen_16 : decode cX0_differentChosen 16 = .ok (.iload_n 3, 1) := by decide +kernel
theorem dX0_differentChosen_17 : decode cX0_differentChosen 17 = .ok (.iconst (-1), 1) := by decide +kernel
theorem dX0_differentChosen_18 : decode cX0_differentChosen 18 = .ok (.if_icmp .eq 9, 3) := by decide +kernel
theorem dX0_differentChosen_21 : decode cX0_differentChosen 21 = .ok (.iload_n 1, 1) := by decide +kernel
theorem dX0_differentChosen_22 : decode cX0_differentChosen 22 = .ok (.iconst 1, 1) := by decide +kernel
theorem dX0_differentChosen_23 : decode cX0_differentChosen 23 = .ok (.iload_n 3, 1) := by decide +kernel
theorem dX0_differentChosen_24 : decode cX0_differentChosen 24 = .ok (.ishl, 1) := by decide +kernel
theorem dX0_differentChosen_25 : decode cX0_differentChosen 25 = .ok (.ior, 1) := by decide +kernel
theorem dX0_differentChosen_26 : decode cX0_differentChosen 26 = .ok (.istore_n 1, 1) := by decide +kernel
theorem dX0_differentChosen_27 : decode cX0_differentChosen 27 = .ok (.iinc 2 1, 3) := by decide +kernel
theorem dX0_differentChosen_30 : decode cX0_differentChosen 30 = .ok (.goto (-26), 3) := by decide +kernel
theorem dX0_differentChosen_33 : decode cX0_differentChosen 33 = .ok (.iload_n 1, 1) := by decide +kernel
theorem dX0_differentChosen_34 : decode cX0_differentChosen 34 = .ok (.invokestatic 67, 3) := by decide +kernel
theorem dX0_differentChosen_37 : decode cX0_differentChosen 37 = .ok (.ireturn, 1) := by decide +kernel
theorem dJ_bitCount_0 : decode cJ_bitCount 0 = .ok (.iload_n 0, 1) := by decide +kernel
theorem dJ_bitCount_1 : decode cJ_bitCount 1 = .ok (.iload_n 0, 1) := by decide +kernel
theorem dJ_bitCount_2 : decode cJ_bitCount 2 = .ok (.iconst 1, 1) := by decide +kernel
theorem dJ_bitCount_3 : decode cJ_bitCount 3 = .ok (.iushr, 1) := by decide +kernel
theorem dJ_bitCount_4 : decode cJ_bitCount 4 = .ok (.ldc_w 265, 3) := by decide +kernel
theorem dJ_bitCount_7 : decode cJ_bitCount 7 = .ok (.iand, 1) := by decide +kernel
theorem dJ_bitCount_8 : decode cJ_bitCount 8 = .ok (.isub, 1) := by decide +kernel
theorem dJ_bitCount_9 : decode cJ_bitCount 9 = .ok (.istore_n 0, 1) := by decide +kernel
theorem dJ_bitCount_10 : decode cJ_bitCount 10 = .ok (.iload_n 0, 1) := by decide +kernel
theorem dJ_bitCount_11 : decode cJ_bitCount 11 = .ok (.ldc_w 266, 3) := by decide +kernel
theorem dJ_bitCount_14 : decode cJ_bitCount 14 = .ok (.iand, 1) := by decide +kernel
theorem dJ_bitCount_15 : decode cJ_bitCount 15 = .ok (.iload_n 0, 1) := by decide +kernel
theorem dJ_bitCount_16 : decode cJ_bitCount 16 = .ok (.iconst 2, 1) := by decide +kernel
theorem dJ_bitCount_17 : decode cJ_bitCount 17 = .ok (.iushr, 1) := by decide +kernel
theorem dJ_bitCount_18 : decode cJ_bitCount 18 = .ok (.ldc_w 266, 3) := by decide +kernel
theorem dJ_bitCount_21 : decode cJ_bitCount 21 = .ok (.iand, 1) := by decide +kernel
theorem dJ_bitCount_22 : decode cJ_bitCount 22 = .ok (.iadd, 1) := by decide +kernel
theorem dJ_bitCount_23 : decode cJ_bitCount 23 = .ok (.istore_n 0, 1) := by decide +kernel
theorem dJ_bitCount_24 : decode cJ_bitCount 24 = .ok (.iload_n 0, 1) := by decide +kernel
theorem dJ_bitCount_25 : decode cJ_bitCount 25 = .ok (.iload_n 0, 1) := by decide +kernel
theorem dJ_bitCount_26 : decode cJ_bitCount 26 = .ok (.iconst 4, 1) := by decide +kernel
theorem dJ_bitCount_27 : decode cJ_bitCount 27 = .ok (.iushr, 1) := by decide +kernel
theorem dJ_bitCount_28 : decode cJ_bitCount 28 = .ok (.iadd, 1) := by decide +kernel
theorem dJ_bitCount_29 : decode cJ_bitCount 29 = .ok (.ldc_w 267, 3) := by decide +kernel
theorem dJ_bitCount_32 : decode cJ_bitCount 32 = .ok (.iand, 1) := by decide +kernel
theorem dJ_bitCount_33 : decode cJ_bitCount 33 = .ok (.istore_n 0, 1) := by decide +kernel
theorem dJ_bitCount_34 : decode cJ_bitCount 34 = .ok (.iload_n 0, 1) := by decide +kernel
theorem dJ_bitCount_35 : decode cJ_bitCount 35 = .ok (.iload_n 0, 1) := by decide +kernel
theorem dJ_bitCount_36 : decode cJ_bitCount 36 = .ok (.bipush 8, 2) := by decide +kernel
theorem dJ_bitCount_38 : decode cJ_bitCount 38 = .ok (.iushr, 1) := by decide +kernel
theorem dJ_bitCount_39 : decode cJ_bitCount 39 = .ok (.iadd, 1) := by decide +kernel
theorem dJ_bitCount_40 : decode cJ_bitCount 40 = .ok (.istore_n 0, 1) := by decide +kernel
theorem dJ_bitCount_41 : decode cJ_bitCount 41 = .ok (.iload_n 0, 1) := by decide +kernel
theorem dJ_bitCount_42 : decode cJ_bitCount 42 = .ok (.iload_n 0, 1) := by decide +kernel
theorem dJ_bitCount_43 : decode cJ_bitCount 43 = .ok (.bipush 16, 2) := by decide +kernel
theorem dJ_bitCount_45 : decode cJ_bitCount 45 = .ok (.iushr, 1) := by decide +kernel
theorem dJ_bitCount_46 : decode cJ_bitCount 46 = .ok (.iadd, 1) := by decide +kernel
theorem dJ_bitCount_47 : decode cJ_bitCount 47 = .ok (.istore_n 0, 1) := by decide +kernel
theorem dJ_bitCount_48 : decode cJ_bitCount 48 = .ok (.iload_n 0, 1) := by decide +kernel
theorem dJ_bitCount_49 : decode cJ_bitCount 49 = .ok (.bipush 63, 2) := by decide +kernel
theorem dJ_bitCount_51 : decode cJ_bitCount 51 = .ok (.iand, 1) := by decide +kernel
theorem dJ_bitCount_52 : decode cJ_bitCount 52 = .ok (.ireturn, 1) := by decide +kernel
theorem dA_fill_0 : decode cA_fill 0 = .ok (.iconst 0, 1) := by decide +kernel
theorem dA_fill_1 : decode cA_fill 1 = .ok (.istore_n 2, 1) := by decide +kernel
theorem dA_fill_2 : decode cA_fill 2 = .ok (.aload_n 0, 1) := by decide +kernel
theorem dA_fill_3 : decode cA_fill 3 = .ok (.arraylength, 1) := by decide +kernel
theorem dA_fill_4 : decode cA_fill 4 = .ok (.istore_n 3, 1) := by decide +kernel
theorem dA_fill_5 : decode cA_fill 5 = .ok (.iload_n 2, 1) := by decide +kernel
theorem dA_fill_6 : decode cA_fill 6 = .ok (.iload_n 3, 1) := by decide +kernel
theorem dA_fill_7 : decode cA_fill 7 = .ok (.if_icmp .ge 13, 3) := by decide +kernel
theorem dA_fill_10 : decode cA_fill 10 = .ok (.aload_n 0, 1) := by decide +kernel
theorem dA_fill_11 : decode cA_fill 11 = .ok (.iload_n 2, 1) := by decide +kernel
theorem dA_fill_12 : decode cA_fill 12 = .ok (.iload_n 1, 1) := by decide +kernel
theorem dA_fill_13 : decode cA_fill 13 = .ok (.iastore, 1) := by decide +kernel
theorem dA_fill_14 : decode cA_fill 14 = .ok (.iinc 2 1, 3) := by decide +kernel
theorem dA_fill_17 : decode cA_fill 17 = .ok (.goto (-12), 3) := by decide +kernel
theorem dA_fill_20 : decode cA_fill 20 = .ok (.return_, 1) := by decide +kernel
end
section
theorem dX1_thrown_0 : decode cX1_thrown 0 = .ok (.aload_n 0, 1) := by decide +kernel
theorem dX1_thrown_1 : decode cX1_thrown 1 = .ok (.getfield 23, 3) := by decide +kernel
theorem dX1_thrown_4 : decode cX1_thrown 4 = .ok (.ireturn, 1) := by decide +kernel
theorem dX1_fail_0 : decode cX1_fail 0 = .ok (.aload_n 0, 1) := by decide +kernel
theorem dX1_fail_1 : decode cX1_fail 1 = .ok (.iload_n 1, 1) := by decide +kernel
theorem dX1_fail_2 : decode cX1_fail 2 = .ok (.putfield 23, 3) := by decide +kernel
theorem dX1_fail_5 : decode cX1_fail 5 = .ok (.iconst 0, 1) := by decide +kernel
theorem dX1_fail_6 : decode cX1_fail 6 = .ok (.ireturn, 1) := by decide +kernel
theorem dX1_out_0 : decode cX1_out 0 = .ok (.iload_n 0, 1) := by decide +kernel
theorem dX1_out_1 : decode cX1_out 1 = .ok (.ifCond .lt 8, 3) := by decide +kernel
theorem dX1_out_4 : decode cX1_out 4 = .ok (.iload_n 0, 1) := by decide +kernel
theorem dX1_out_5 : decode cX1_out 5 = .ok (.iload_n 1, 1) := by decide +kernel
theorem dX1_out_6 : decode cX1_out 6 = .ok (.if_icmp .lt 7, 3) := by decide +kernel
theorem dX1_out_9 : decode cX1_out 9 = .ok (.iconst 1, 1) := by decide +kernel
theorem dX1_out_10 : decode cX1_out 10 = .ok (.goto 4, 3) := by decide +kernel
theorem dX1_out_13 : decode cX1_out 13 = .ok (.iconst 0, 1) := by decide +kernel
theorem dX1_out_14 : decode cX1_out 14 = .ok (.ireturn, 1) := by decide +kernel
theorem dX1_weight_0 : decode cX1_weight 0 = .ok (.aload_n 0, 1) := by decide +kernel
theorem dX1_weight_1 : decode cX1_weight 1 = .ok (.iload_n 1, 1) := by decide +kernel
theorem dX1_weight_2 : decode cX1_weight 2 = .ok (.bipush 10, 2) := by decide +kernel
theorem dX1_weight_4 : decode cX1_weight 4 = .ok (.invokestatic 26, 3) := by decide +kernel
theorem dX1_weight_7 : decode cX1_weight 7 = .ok (.ifCond .eq 7, 3) := by decide +kernel
theorem dX1_weight_10 : decode cX1_weight 10 = .ok (.iconst 1, 1) := by decide +kernel
theorem dX1_weight_11 : decode cX1_weight 11 = .ok (.goto 18, 3) := by decide +kernel
theorem dX1_weight_14 : decode cX1_weight 14 = .ok (.iload_n 2, 1) := by decide +kernel
theorem dX1_weight_15 : decode cX1_weight 15 = .ok (.ifCond .lt 9, 3) := by decide +kernel
theorem dX1_weight_18 : decode cX1_weight 18 = .ok (.iload_n 2, 1) := by decide +kernel
theorem dX1_weight_19 : decode cX1_weight 19 = .ok (.bipush 50, 2) := by decide +kernel
theorem dX1_weight_21 : decode cX1_weight 21 = .ok (.if_icmp .le 7, 3) := by decide +kernel
theorem dX1_weight_24 : decode cX1_weight 24 = .ok (.iconst 2, 1) := by decide +kernel
theorem dX1_weight_25 : decode cX1_weight 25 = .ok (.goto 4, 3) := by decide +kernel
theorem dX1_weight_28 : decode cX1_weight 28 = .ok (.iconst 0, 1) := by decide +kernel
theorem dX1_weight_29 : decode cX1_weight 29 = .ok (.putfield 23, 3) := by decide +kernel
theorem dX1_weight_32 : decode cX1_weight 32 = .ok (.aload_n 0, 1) := by decide +kernel
theorem dX1_weight_33 : decode cX1_weight 33 = .ok (.getfield 23, 3) := by decide +kernel
theorem dX1_weight_36 : decode cX1_weight 36 = .ok (.ifCond .le 5, 3) := by decide +kernel
theorem dX1_weight_39 : decode cX1_weight 39 = .ok (.iconst 0, 1) := by decide +kernel
theorem dX1_weight_40 : decode cX1_weight 40 = .ok (.ireturn, 1) := by decide +kernel
theorem dX1_weight_41 : decode cX1_weight 41 = .ok (.aload_n 0, 1) := by decide +kernel
theorem dX1_weight_42 : decode cX1_weight 42 = .ok (.getfield 9, 3) := by decide +kernel
theorem dX1_weight_45 : decode cX1_weight 45 = .ok (.iload_n 1, 1) := by decide +kernel
theorem dX1_weight_46 : decode cX1_weight 46 = .ok (.iaload, 1) := by decide +kernel
theorem dX1_weight_47 : decode cX1_weight 47 = .ok (.istore_n 3, 1) := by decide +kernel
theorem dX1_weight_48 : decode cX1_weight 48 = .ok (.aload_n 0, 1) := by decide +kernel
theorem dX1_weight_49 : decode cX1_weight 49 = .ok (.getfield 9, 3) := by decide +kernel
theorem dX1_weight_52 : decode cX1_weight 52 = .ok (.iload_n 1, 1) := by decide +kernel
theorem dX1_weight_53 : decode cX1_weight 53 = .ok (.iload_n 2, 1) := by decide +kernel
theorem dX1_weight_54 : decode cX1_weight 54 = .ok (.iastore, 1) := by decide +kernel
theorem dX1_weight_55 : decode cX1_weight 55 = .ok (.iload_n 3, 1) := by decide +kernel
theorem dX1_weight_56 : decode cX1_weight 56 = .ok (.ireturn, 1) := by decide +kernel
theorem dX1_need_0 : decode cX1_need 0 = .ok (.aload_n 0, 1) := by decide +kernel
theorem dX1_need_1 : decode cX1_need 1 = .ok (.iload_n 1, 1) := by decide +kernel
theorem dX1_need_2 : decode cX1_need 2 = .ok (.iconst 1, 1) := by decide +kernel
theorem dX1_need_3 : decode cX1_need 3 = .ok (.if_icmp .lt 10, 3) := by decide +kernel
theorem dX1_need_6 : decode cX1_need 6 = .ok (.iload_n 1, 1) := by decide +kernel
theorem dX1_need_7 : decode cX1_need 7 = .ok (.sipush 500, 3) := by decide +kernel
theorem dX1_need_10 : decode cX1_need 10 = .ok (.if_icmp .le 7, 3) := by decide +kernel
theorem dX1_need_13 : decode cX1_need 13 = .ok (.iconst 1, 1) := by decide +kernel
theorem dX1_need_14 : decode cX1_need 14 = .ok (.goto 4, 3) := by decide +kernel
theorem dX1_need_17 : decode cX1_need 17 = .ok (.iconst 0, 1) := by decide +kernel
theorem dX1_need_18 : decode cX1_need 18 = .ok (.putfield 23, 3) := by decide +kernel
theorem dX1_need_21 : decode cX1_need 21 = .ok (.aload_n 0, 1) := by decide +kernel
theorem dX1_need_22 : decode cX1_need 22 = .ok (.getfield 23, 3) := by decide +kernel
theorem dX1_need_25 : decode cX1_need 25 = .ok (.ifCond .le 5, 3) := by decide +kernel
theorem dX1_need_28 : decode cX1_need 28 = .ok (.iconst 0, 1) := by decide +kernel
theorem dX1_need_29 : decode cX1_need 29 = .ok (.ireturn, 1) := by decide +kernel
theorem dX1_need_30 : decode cX1_need 30 = .ok (.aload_n 0, 1) := by decide +kernel
theorem dX1_need_31 : decode cX1_need 31 = .ok (.getfield 19, 3) := by decide +kernel
theorem dX1_need_34 : decode cX1_need 34 = .ok (.istore_n 2, 1) := by decide +kernel
theorem dX1_need_35 : decode cX1_need 35 = .ok (.aload_n 0, 1) := by decide +kernel
theorem dX1_need_36 : decode cX1_need 36 = .ok (.iload_n 1, 1) := by decide +kernel
theorem dX1_need_37 : decode cX1_need 37 = .ok (.putfield 19, 3) := by decide +kernel
theorem dX1_need_40 : decode cX1_need 40 = .ok (.iload_n 2, 1) := by decide +kernel
theorem dX1_need_41 : decode cX1_need 41 = .ok (.ireturn, 1) := by decide +kernel
theorem dX1_promise_0 : decode cX1_promise 0 = .ok (.aload_n 0, 1) := by decide +kernel
theorem dX1_promise_1 : decode cX1_promise 1 = .ok (.iload_n 1, 1) := by decide +kernel
theorem dX1_promise_2 : decode cX1_promise 2 = .ok (.bipush 10, 2) := by decide +kernel
theorem dX1_promise_4 : decode cX1_promise 4 = .ok (.invokestatic 26, 3) := by decide +kernel
theorem dX1_promise_7 : decode cX1_promise 7 = .ok (.ifCond .ne 12, 3) := by decide +kernel
theorem dX1_promise_10 : decode cX1_promise 10 = .ok (.iload_n 2, 1) := by decide +kernel
theorem dX1_promise_11 : decode cX1_promise 11 = .ok (.bipush 31, 2) := by decide +kernel
theorem dX1_promise_13 : decode cX1_promise 13 = .ok (.invokestatic 26, 3) := by decide +kernel
theorem dX1_promise_16 : decode cX1_promise 16 = .ok (.ifCond .eq 7, 3) := by decide +kernel
theorem dX1_promise_19 : decode cX1_promise 19 = .ok (.iconst 1, 1) := by decide +kernel
theorem dX1_promise_20 : decode cX1_promise 20 = .ok (.goto 4, 3) := by decide +kernel
theorem dX1_promise_23 : decode cX1_promise 23 = .ok (.iconst 0, 1) := by decide +kernel
theorem dX1_promise_24 : decode cX1_promise 24 = .ok (.putfield 23, 3) := by decide +kernel
theorem dX1_promise_27 : decode cX1_promise 27 = .ok (.aload_n 0, 1) := by decide +kernel
theorem dX1_promise_28 : decode cX1_promise 28 = .ok (.getfield 23, 3) := by decide +kernel
theorem dX1_promise_31 : decode cX1_promise 31 = .ok (.ifCond .le 5, 3) := by decide +kernel
theorem dX1_promise_34 : decode cX1_promise 34 = .ok (.iconst 0, 1) := by decide +kernel
theorem dX1_promise_35 : decode cX1_promise 35 = .ok (.ireturn, 1) := by decide +kernel
theorem dX1_promise_36 : decode cX1_promise 36 = .ok (.aload_n 0, 1) := by decide +kernel
theorem dX1_promise_37 : decode cX1_promise 37 = .ok (.getfield 13, 3) := by decide +kernel
theorem dX1_promise_40 : decode cX1_promise 40 = .ok (.iload_n 1, 1) := by decide +kernel
theorem dX1_promise_41 : decode cX1_promise 41 = .ok (.iaload, 1) := by decide +kernel
theorem dX1_promise_42 : decode cX1_promise 42 = .ok (.iload_n 2, 1) := by decide +kernel
theorem dX1_promise_43 : decode cX1_promise 43 = .ok (.if_icmp .le 9, 3) := by decide +kernel
theorem dX1_promise_46 : decode cX1_promise 46 = .ok (.aload_n 0, 1) := by decide +kernel
theorem dX1_promise_47 : decode cX1_promise 47 = .ok (.iconst 2, 1) := by decide +kernel
theorem dX1_promise_48 : decode cX1_promise 48 = .ok (.invokevirtual 30, 3) := by decide +kernel
theorem dX1_promise_51 : decode cX1_promise 51 = .ok (.ireturn, 1) := by decide +kernel
theorem dX1_promise_52 : decode cX1_promise 52 = .ok (.aload_n 0, 1) := by decide +kernel
theorem dX1_promise_53 : decode cX1_promise 53 = .ok (.getfield 13, 3) := by decide +kernel
theorem dX1_promise_56 : decode cX1_promise 56 = .ok (.iload_n 1, 1) := by decide +kernel
theorem dX1_promise_57 : decode cX1_promise 57 = .ok (.iaload, 1) := by decide +kernel
theorem dX1_promise_58 : decode cX1_promise 58 = .ok (.istore_n 3, 1) := by decide +kernel
theorem dX1_promise_59 : decode cX1_promise 59 = .ok (.aload_n 0, 1) := by decide +kernel
theorem dX1_promise_60 : decode cX1_promise 60 = .ok (.getfield 13, 3) := by decide +kernel
theorem dX1_promise_63 : decode cX1_promise 63 = .ok (.iload_n 1, 1) := by decide +kernel
theorem dX1_promise_64 : decode cX1_promise 64 = .ok (.iload_n 2, 1) := by decide +kernel
theorem dX1_promise_65 : decode cX1_promise 65 = .ok (.iastore, 1) := by decide +kernel
theorem dX1_promise_66 : decode cX1_promise 66 = .ok (.iload_n 3, 1) := by decide +kernel
theorem dX1_promise_67 : decode cX1_promise 67 = .ok (.ireturn, 1) := by decide +kernel
theorem dX1_voteOf_0 : decode cX1_voteOf 0 = .ok (.aload_n 0, 1) := by decide +kernel
theorem dX1_voteOf_1 : decode cX1_voteOf 1 = .ok (.getfield 16, 3) := by decide +kernel
theorem dX1_voteOf_4 : decode cX1_voteOf 4 = .ok (.bipush 31, 2) := by decide +kernel
theorem dX1_voteOf_6 : decode cX1_voteOf 6 = .ok (.iload_n 1, 1) := by decide +kernel
theorem dX1_voteOf_7 : decode cX1_voteOf 7 = .ok (.imul, 1) := by decide +kernel
theorem dX1_voteOf_8 : decode cX1_voteOf 8 = .ok (.iload_n 2, 1) := by decide +kernel
theorem dX1_voteOf_9 : decode cX1_voteOf 9 = .ok (.iadd, 1) := by decide +kernel
theorem dX1_voteOf_10 : decode cX1_voteOf 10 = .ok (.iaload, 1) := by decide +kernel
theorem dX1_voteOf_11 : decode cX1_voteOf 11 = .ok (.ireturn, 1) := by decide +kernel
theorem dX1_isOpen_0 : decode cX1_isOpen 0 = .ok (.aload_n 0, 1) := by decide +kernel
theorem dX1_isOpen_1 : decode cX1_isOpen 1 = .ok (.iload_n 1, 1) := by decide +kernel
theorem dX1_isOpen_2 : decode cX1_isOpen 2 = .ok (.iload_n 2, 1) := by decide +kernel
theorem dX1_isOpen_3 : decode cX1_isOpen 3 = .ok (.invokevirtual 34, 3) := by decide +kernel
theorem dX1_isOpen_6 : decode cX1_isOpen 6 = .ok (.iconst (-1), 1) := by decide +kernel
theorem dX1_isOpen_7 : decode cX1_isOpen 7 = .ok (.if_icmp .ne 17, 3) := by decide +kernel
theorem dX1_isOpen_10 : decode cX1_isOpen 10 = .ok (.aload_n 0, 1) := by decide +kernel
theorem dX1_isOpen_11 : decode cX1_isOpen 11 = .ok (.getfield 13, 3) := by decide +kernel
theorem dX1_isOpen_14 : decode cX1_isOpen 14 = .ok (.iload_n 1, 1) := by decide +kernel
theorem dX1_isOpen_15 : decode cX1_isOpen 15 = .ok (.iaload, 1) := by decide +kernel
theorem dX1_isOpen_16 : decode cX1_isOpen 16 = .ok (.iload_n 2, 1) := by decide +kernel
theorem dX1_isOpen_17 : decode cX1_isOpen 17 = .ok (.if_icmp .gt 7, 3) := by decide +kernel
theorem dX1_isOpen_20 : decode cX1_isOpen 20 = .ok (.iconst 1, 1) := by decide +kernel
theorem dX1_isOpen_21 : decode cX1_isOpen 21 = .ok (.goto 4, 3) := by decide +kernel
theorem dX1_isOpen_24 : decode cX1_isOpen 24 = .ok (.iconst 0, 1) := by decide +kernel
theorem dX1_isOpen_25 : decode cX1_isOpen 25 = .ok (.ireturn, 1) := by decide +kernel
theorem dX1_others_0 : decode cX1_others 0 = .ok (.iconst 0, 1) := by decide +kernel
theorem dX1_others_1 : decode cX1_others 1 = .ok (.istore_n 3, 1) := by decide +kernel
theorem dX1_others_2 : decode cX1_others 2 = .ok (.iload_n 3, 1) := by decide +kernel
theorem dX1_others_3 : decode cX1_others 3 = .ok (.bipush 10, 2) := by decide +kernel
theorem dX1_others_5 : decode cX1_others 5 = .ok (.if_icmp .ge 31, 3) := by decide +kernel
theorem dX1_others_8 : decode cX1_others 8 = .ok (.aload_n 0, 1) := by decide +kernel
theorem dX1_others_9 : decode cX1_others 9 = .ok (.iload_n 3, 1) := by decide +kernel
theorem dX1_others_10 : decode cX1_others 10 = .ok (.iload_n 1, 1) := by decide +kernel
theorem dX1_others_11 : decode cX1_others 11 = .ok (.invokevirtual 34, 3) := by decide +kernel
theorem dX1_others_14 : decode cX1_others 14 = .ok (.iconst (-1), 1) := by decide +kernel
theorem dX1_others_15 : decode cX1_others 15 = .ok (.if_icmp .eq 15, 3) := by decide +kernel
theorem dX1_others_18 : decode cX1_others 18 = .ok (.aload_n 0, 1) := by decide +kernel
theorem dX1_others_19 : decode cX1_others 19 = .ok (.iload_n 3, 1) := by decide +kernel
theorem dX1_others_20 : decode cX1_others 20 = .ok (.iload_n 1, 1) := by decide +kernel
theorem dX1_others_21 : decode cX1_others 21 = .ok (.invokevirtual 34, 3) := by decide +kernel
theorem dX1_others_24 : decode cX1_others 24 = .ok (.iload_n 2, 1) := by decide +kernel
theorem dX1_others_25 : decode cX1_others 25 = .ok (.if_icmp .eq 5, 3) := by decide +kernel
theorem dX1_others_28 : decode cX1_others 28 = .ok (.iconst 1, 1) := by decide +kernel
theorem dX1_others_29 : decode cX1_others 29 = .ok (.ireturn, 1) := by decide +kernel
theorem dX1_others_30 : decode cX1_others 30 = .ok (.iinc 3 1, 3) := by decide +kernel
theorem dX1_others_33 : decode cX1_others 33 = .ok (.goto (-31), 3) := by decide +kernel
theorem dX1_others_36 : decode cX1_others 36 = .ok (.iconst 0, 1) := by decide +kernel
theorem dX1_others_37 : decode cX1_others 37 = .ok (.ireturn, 1) := by decide +kernel
theorem dX1_vote_0 : decode cX1_vote 0 = .ok (.aload_n 0, 1) := by decide +kernel
theorem dX1_vote_1 : decode cX1_vote 1 = .ok (.iload_n 1, 1) := by decide +kernel
theorem dX1_vote_2 : decode cX1_vote 2 = .ok (.bipush 10, 2) := by decide +kernel
theorem dX1_vote_4 : decode cX1_vote 4 = .ok (.invokestatic 26, 3) := by decide +kernel
theorem dX1_vote_7 : decode cX1_vote 7 = .ok (.ifCond .ne 21, 3) := by decide +kernel
theorem dX1_vote_10 : decode cX1_vote 10 = .ok (.iload_n 2, 1) := by decide +kernel
theorem dX1_vote_11 : decode cX1_vote 11 = .ok (.bipush 31, 2) := by decide +kernel
theorem dX1_vote_13 : decode cX1_vote 13 = .ok (.invokestatic 26, 3) := by decide +kernel
theorem dX1_vote_16 : decode cX1_vote 16 = .ok (.ifCond .ne 12, 3) := by decide +kernel
theorem dX1_vote_19 : decode cX1_vote 19 = .ok (.iload_n 3, 1) := by decide +kernel
theorem dX1_vote_20 : decode cX1_vote 20 = .ok (.bipush 10, 2) := by decide +kernel
theorem dX1_vote_22 : decode cX1_vote 22 = .ok (.invokestatic 26, 3) := by decide +kernel
theorem dX1_vote_25 : decode cX1_vote 25 = .ok (.ifCond .eq 7, 3) := by decide +kernel
theorem dX1_vote_28 : decode cX1_vote 28 = .ok (.iconst 1, 1) := by decide +kernel
theorem dX1_vote_29 : decode cX1_vote 29 = .ok (.goto 4, 3) := by decide +kernel
theorem dX1_vote_32 : decode cX1_vote 32 = .ok (.iconst 0, 1) := by decide +kernel
theorem dX1_vote_33 : decode cX1_vote 33 = .ok (.putfield 23, 3) := by decide +kernel
theorem dX1_vote_36 : decode cX1_vote 36 = .ok (.aload_n 0, 1) := by decide +kernel
theorem dX1_vote_37 : decode cX1_vote 37 = .ok (.getfield 23, 3) := by decide +kernel
theorem dX1_vote_40 : decode cX1_vote 40 = .ok (.ifCond .le 5, 3) := by decide +kernel
theorem dX1_vote_43 : decode cX1_vote 43 = .ok (.iconst 0, 1) := by decide +kernel
theorem dX1_vote_44 : decode cX1_vote 44 = .ok (.ireturn, 1) := by decide +kernel
theorem dX1_vote_45 : decode cX1_vote 45 = .ok (.aload_n 0, 1) := by decide +kernel
theorem dX1_vote_46 : decode cX1_vote 46 = .ok (.iload_n 1, 1) := by decide +kernel
theorem dX1_vote_47 : decode cX1_vote 47 = .ok (.iload_n 2, 1) := by decide +kernel
theorem dX1_vote_48 : decode cX1_vote 48 = .ok (.invokevirtual 38, 3) := by decide +kernel
theorem dX1_vote_51 : decode cX1_vote 51 = .ok (.ifCond .eq 12, 3) := by decide +kernel
theorem dX1_vote_54 : decode cX1_vote 54 = .ok (.aload_n 0, 1) := by decide +kernel
theorem dX1_vote_55 : decode cX1_vote 55 = .ok (.iload_n 2, 1) := by decide +kernel
theorem dX1_vote_56 : decode cX1_vote 56 = .ok (.iload_n 3, 1) := by decide +kernel
theorem dX1_vote_57 : decode cX1_vote 57 = .ok (.invokevirtual 41, 3) := by decide +kernel
theorem dX1_vote_60 : decode cX1_vote 60 = .ok (.ifCond .eq 9, 3) := by decide +kernel
theorem dX1_vote_63 : decode cX1_vote 63 = .ok (.aload_n 0, 1) := by decide +kernel
theorem dX1_vote_64 : decode cX1_vote 64 = .ok (.iconst 2, 1) := by decide +kernel
theorem dX1_vote_65 : decode cX1_vote 65 = .ok (.invokevirtual 30, 3) := by decide +kernel
theorem dX1_vote_68 : decode cX1_vote 68 = .ok (.ireturn, 1) := by decide +kernel
theorem dX1_vote_69 : decode cX1_vote 69 = .ok (.aload_n 0, 1) := by decide +kernel
theorem dX1_vote_70 : decode cX1_vote 70 = .ok (.getfield 16, 3) := by decide +kernel
theorem dX1_vote_73 : decode cX1_vote 73 = .ok (.bipush 31, 2) := by decide +kernel
theorem dX1_vote_75 : decode cX1_vote 75 = .ok (.iload_n 1, 1) := by decide +kernel
theorem dX1_vote_76 : decode cX1_vote 76 = .ok (.imul, 1) := by decide +kernel
theorem dX1_vote_77 : decode cX1_vote 77 = .ok (.iload_n 2, 1) := by decide +kernel
theorem dX1_vote_78 : decode cX1_vote 78 = .ok (.iadd, 1) := by decide +kernel
theorem dX1_vote_79 : decode cX1_vote 79 = .ok (.iload_n 3, 1) := by decide +kernel
theorem dX1_vote_80 : decode cX1_vote 80 = .ok (.iastore, 1) := by decide +kernel
theorem dX1_vote_81 : decode cX1_vote 81 = .ok (.aload_n 0, 1) := by decide +kernel
theorem dX1_vote_82 : decode cX1_vote 82 = .ok (.getfield 13, 3) := by decide +kernel
theorem dX1_vote_85 : decode cX1_vote 85 = .ok (.iload_n 1, 1) := by decide +kernel
theorem dX1_vote_86 : decode cX1_vote 86 = .ok (.iload_n 2, 1) := by decide +kernel
theorem dX1_vote_87 : decode cX1_vote 87 = .ok (.iastore, 1) := by decide +kernel
theorem dX1_vote_88 : decode cX1_vote 88 = .ok (.iconst 0, 1) := by decide +kernel
theorem dX1_vote_89 : decode cX1_vote 89 = .ok (.istore 4, 2) := by decide +kernel
theorem dX1_vote_91 : decode cX1_vote 91 = .ok (.iconst 0, 1) := by decide +kernel
theorem dX1_vote_92 : decode cX1_vote 92 = .ok (.istore 5, 2) := by decide +kernel
theorem dX1_vote_94 : decode cX1_vote 94 = .ok (.iload 5, 2) := by decide +kernel
theorem dX1_vote_96 : decode cX1_vote 96 = .ok (.bipush 10, 2) := by decide +kernel
theorem dX1_vote_98 : decode cX1_vote 98 = .ok (.if_icmp .ge 23, 3) := by decide +kernel
theorem dX1_vote_101 : decode cX1_vote 101 = .ok (.aload_n 0, 1) := by decide +kernel
theorem dX1_vote_102 : decode cX1_vote 102 = .ok (.iload 5, 2) := by decide +kernel
theorem dX1_vote_104 : decode cX1_vote 104 = .ok (.iload_n 2, 1) := by decide +kernel
theorem dX1_vote_105 : decode cX1_vote 105 = .ok (.invokevirtual 34, 3) := by decide +kernel
theorem dX1_vote_108 : decode cX1_vote 108 = .ok (.iconst (-1), 1) := by decide +kernel
theorem dX1_vote_109 : decode cX1_vote 109 = .ok (.if_icmp .eq 6, 3) := by decide +kernel
theorem dX1_vote_112 : decode cX1_vote 112 = .ok (.iinc 4 1, 3) := by decide +kernel
theorem dX1_vote_115 : decode cX1_vote 115 = .ok (.iinc 5 1, 3) := by decide +kernel
theorem dX1_vote_118 : decode cX1_vote 118 = .ok (.goto (-24), 3) := by decide +kernel
theorem dX1_vote_121 : decode cX1_vote 121 = .ok (.iload 4, 2) := by decide +kernel
theorem dX1_vote_123 : decode cX1_vote 123 = .ok (.ireturn, 1) := by decide +kernel
theorem dX1_isEnough_0 : decode cX1_isEnough 0 = .ok (.iconst 0, 1) := by decide +kernel
theorem dX1_isEnough_1 : decode cX1_isEnough 1 = .ok (.istore_n 2, 1) := by decide +kernel
theorem dX1_isEnough_2 : decode cX1_isEnough 2 = .ok (.iconst 0, 1) := by decide +kernel
theorem dX1_isEnough_3 : decode cX1_isEnough 3 = .ok (.istore_n 3, 1) := by decide +kernel
theorem dX1_isEnough_4 : decode cX1_isEnough 4 = .ok (.iload_n 3, 1) := by decide +kernel
theorem dX1_isEnough_5 : decode cX1_isEnough 5 = .ok (.bipush 10, 2) := by decide +kernel
theorem dX1_isEnough_7 : decode cX1_isEnough 7 = .ok (.if_icmp .ge 27, 3) := by decide +kernel
theorem dX1_isEnough_10 : decode cX1_isEnough 10 = .ok (.iload_n 1, 1) := by decide +kernel
theorem dX1_isEnough_11 : decode cX1_isEnough 11 = .ok (.iload_n 3, 1) := by decide +kernel
theorem dX1_isEnough_12 : decode cX1_isEnough 12 = .ok (.ishr, 1) := by decide +kernel
theorem dX1_isEnough_13 : decode cX1_isEnough 13 = .ok (.iconst 1, 1) := by decide +kernel
theorem dX1_isEnough_14 : decode cX1_isEnough 14 = .ok (.iand, 1) := by decide +kernel
theorem dX1_isEnough_15 : decode cX1_isEnough 15 = .ok (.iconst 1, 1) := by decide +kernel
theorem dX1_isEnough_16 : decode cX1_isEnough 16 = .ok (.if_icmp .ne 12, 3) := by decide +kernel
theorem dX1_isEnough_19 : decode cX1_isEnough 19 = .ok (.iload_n 2, 1) := by decide +kernel
theorem dX1_isEnough_20 : decode cX1_isEnough 20 = .ok (.aload_n 0, 1) := by decide +kernel
theorem dX1_isEnough_21 : decode cX1_isEnough 21 = .ok (.getfield 9, 3) := by decide +kernel
theorem dX1_isEnough_24 : decode cX1_isEnough 24 = .ok (.iload_n 3, 1) := by decide +kernel
theorem dX1_isEnough_25 : decode cX1_isEnough 25 = .ok (.iaload, 1) := by decide +kernel
theorem dX1_isEnough_26 : decode cX1_isEnough 26 = .ok (.iadd, 1) := by decide +kernel
theorem dX1_isEnough_27 : decode cX1_isEnough 27 = .ok (.istore_n 2, 1) := by decide +kernel
theorem dX1_isEnough_28 : decode cX1_isEnough 28 = .ok (.iinc 3 1, 3) := by decide +kernel
theorem dX1_isEnough_31 : decode cX1_isEnough 31 = .ok (.goto (-27), 3) := by decide +kernel
theorem dX1_isEnough_34 : decode cX1_isEnough 34 = .ok (.iload_n 2, 1) := by decide +kernel
theorem dX1_isEnough_35 : decode cX1_isEnough 35 = .ok (.aload_n 0, 1) := by decide +kernel
theorem dX1_isEnough_36 : decode cX1_isEnough 36 = .ok (.getfield 19, 3) := by decide +kernel
theorem dX1_isEnough_39 : decode cX1_isEnough 39 = .ok (.if_icmp .lt 7, 3) := by decide +kernel
theorem dX1_isEnough_42 : decode cX1_isEnough 42 = .ok (.iconst 1, 1) := by decide +kernel
theorem dX1_isEnough_43 : decode cX1_isEnough 43 = .ok (.goto 4, 3) := by decide +kernel
theorem dX1_isEnough_46 : decode cX1_isEnough 46 = .ok (.iconst 0, 1) := by decide +kernel
theorem dX1_isEnough_47 : decode cX1_isEnough 47 = .ok (.ireturn, 1) := by decide +kernel
theorem dX1_ask_0 : decode cX1_ask 0 = .ok (.aload_n 0, 1) := by decide +kernel
theorem dX1_ask_1 : decode cX1_ask 1 = .ok (.iload_n 1, 1) := by decide +kernel
theorem dX1_ask_2 : decode cX1_ask 2 = .ok (.sipush 1024, 3) := by decide +kernel
theorem dX1_ask_5 : decode cX1_ask 5 = .ok (.invokestatic 26, 3) := by decide +kernel
theorem dX1_ask_8 : decode cX1_ask 8 = .ok (.ifCond .ne 12, 3) := by decide +kernel
theorem dX1_ask_11 : decode cX1_ask 11 = .ok (.iload_n 2, 1) := by decide +kernel
theorem dX1_ask_12 : decode cX1_ask 12 = .ok (.bipush 31, 2) := by decide +kernel
theorem dX1_ask_14 : decode cX1_ask 14 = .ok (.invokestatic 26, 3) := by decide +kernel
theorem dX1_ask_17 : decode cX1_ask 17 = .ok (.ifCond .eq 7, 3) := by decide +kernel
theorem dX1_ask_20 : decode cX1_ask 20 = .ok (.iconst 1, 1) := by decide +kernel
theorem dX1_ask_21 : decode cX1_ask 21 = .ok (.goto 4, 3) := by decide +kernel
theorem dX1_ask_24 : decode cX1_ask 24 = .ok (.iconst 0, 1) := by decide +kernel
theorem dX1_ask_25 : decode cX1_ask 25 = .ok (.putfield 23, 3) := by decide +kernel
theorem dX1_ask_28 : decode cX1_ask 28 = .ok (.aload_n 0, 1) := by decide +kernel
theorem dX1_ask_29 : decode cX1_ask 29 = .ok (.getfield 23, 3) := by decide +kernel
theorem dX1_ask_32 : decode cX1_ask 32 = .ok (.ifCond .le 5, 3) := by decide +kernel
theorem dX1_ask_35 : decode cX1_ask 35 = .ok (.iconst 0, 1) := by decide +kernel
theorem dX1_ask_36 : decode cX1_ask 36 = .ok (.ireturn, 1) := by decide +kernel
theorem dX1_ask_37 : decode cX1_ask 37 = .ok (.iconst 0, 1) := by decide +kernel
theorem dX1_ask_38 : decode cX1_ask 38 = .ok (.istore_n 3, 1) := by decide +kernel
theorem dX1_ask_39 : decode cX1_ask 39 = .ok (.iconst 0, 1) := by decide +kernel
theorem dX1_ask_40 : decode cX1_ask 40 = .ok (.istore 4, 2) := by decide +kernel
theorem dX1_ask_42 : decode cX1_ask 42 = .ok (.iload 4, 2) := by decide +kernel
theorem dX1_ask_44 : decode cX1_ask 44 = .ok (.bipush 10, 2) := by decide +kernel
theorem dX1_ask_46 : decode cX1_ask 46 = .ok (.if_icmp .ge 38, 3) := by decide +kernel
theorem dX1_ask_49 : decode cX1_ask 49 = .ok (.iload_n 3, 1) := by decide +kernel
theorem dX1_ask_50 : decode cX1_ask 50 = .ok (.iload_n 1, 1) := by decide +kernel
theorem dX1_ask_51 : decode cX1_ask 51 = .ok (.iload 4, 2) := by decide +kernel
theorem dX1_ask_53 : decode cX1_ask 53 = .ok (.ishr, 1) := by decide +kernel
theorem dX1_ask_54 : decode cX1_ask 54 = .ok (.iconst 1, 1) := by decide +kernel
theorem dX1_ask_55 : decode cX1_ask 55 = .ok (.iand, 1) := by decide +kernel
theorem dX1_ask_56 : decode cX1_ask 56 = .ok (.iconst 1, 1) := by decide +kernel
theorem dX1_ask_57 : decode cX1_ask 57 = .ok (.if_icmp .ne 18, 3) := by decide +kernel
theorem dX1_ask_60 : decode cX1_ask 60 = .ok (.aload_n 0, 1) := by decide +kernel
theorem dX1_ask_61 : decode cX1_ask 61 = .ok (.getfield 13, 3) := by decide +kernel
theorem dX1_ask_64 : decode cX1_ask 64 = .ok (.iload 4, 2) := by decide +kernel
theorem dX1_ask_66 : decode cX1_ask 66 = .ok (.iaload, 1) := by decide +kernel
theorem dX1_ask_67 : decode cX1_ask 67 = .ok (.iload_n 2, 1) := by decide +kernel
theorem dX1_ask_68 : decode cX1_ask 68 = .ok (.if_icmp .le 7, 3) := by decide +kernel
theorem dX1_ask_71 : decode cX1_ask 71 = .ok (.iconst 1, 1) := by decide +kernel
theorem dX1_ask_72 : decode cX1_ask 72 = .ok (.goto 4, 3) := by decide +kernel
theorem dX1_ask_75 : decode cX1_ask 75 = .ok (.iconst 0, 1) := by decide +kernel
theorem dX1_ask_76 : decode cX1_ask 76 = .ok (.ior, 1) := by decide +kernel
theorem dX1_ask_77 : decode cX1_ask 77 = .ok (.istore_n 3, 1) := by decide +kernel
theorem dX1_ask_78 : decode cX1_ask 78 = .ok (.iinc 4 1, 3) := by decide +kernel
theorem dX1_ask_81 : decode cX1_ask 81 = .ok (.goto (-39), 3) := by decide +kernel
theorem dX1_ask_84 : decode cX1_ask 84 = .ok (.aload_n 0, 1) := by decide +kernel
theorem dX1_ask_85 : decode cX1_ask 85 = .ok (.iload_n 1, 1) := by decide +kernel
theorem dX1_ask_86 : decode cX1_ask 86 = .ok (.invokevirtual 44, 3) := by decide +kernel
theorem dX1_ask_89 : decode cX1_ask 89 = .ok (.ifCond .eq 7, 3) := by decide +kernel
theorem dX1_ask_92 : decode cX1_ask 92 = .ok (.iload_n 3, 1) := by decide +kernel
theorem dX1_ask_93 : decode cX1_ask 93 = .ok (.ifCond .eq 9, 3) := by decide +kernel
theorem dX1_ask_96 : decode cX1_ask 96 = .ok (.aload_n 0, 1) := by decide +kernel
theorem dX1_ask_97 : decode cX1_ask 97 = .ok (.iconst 2, 1) := by decide +kernel
theorem dX1_ask_98 : decode cX1_ask 98 = .ok (.invokevirtual 30, 3) := by decide +kernel
theorem dX1_ask_101 : decode cX1_ask 101 = .ok (.ireturn, 1) := by decide +kernel
theorem dX1_ask_102 : decode cX1_ask 102 = .ok (.iconst (-1), 1) := by decide +kernel
theorem dX1_ask_103 : decode cX1_ask 103 = .ok (.istore 4, 2) := by decide +kernel
theorem dX1_ask_105 : decode cX1_ask 105 = .ok (.iconst 0, 1) := by decide +kernel
theorem dX1_ask_106 : decode cX1_ask 106 = .ok (.istore 5, 2) := by decide +kernel
theorem dX1_ask_108 : decode cX1_ask 108 = .ok (.iload 5, 2) := by decide +kernel
theorem dX1_ask_110 : decode cX1_ask 110 = .ok (.iload_n 2, 1) := by decide +kernel
theorem dX1_ask_111 : decode cX1_ask 111 = .ok (.if_icmp .ge 57, 3) := by decide +kernel
theorem dX1_ask_114 : decode cX1_ask 114 = .ok (.iconst 0, 1) := by decide +kernel
theorem dX1_ask_115 : decode cX1_ask 115 = .ok (.istore 6, 2) := by decide +kernel
theorem dX1_ask_117 : decode cX1_ask 117 = .ok (.iload 6, 2) := by decide +kernel
theorem dX1_ask_119 : decode cX1_ask 119 = .ok (.bipush 10, 2) := by decide +kernel
theorem dX1_ask_121 : decode cX1_ask 121 = .ok (.if_icmp .ge 41, 3) := by decide +kernel
theorem dX1_ask_124 : decode cX1_ask 124 = .ok (.iload_n 1, 1) := by decide +kernel
theorem dX1_ask_125 : decode cX1_ask 125 = .ok (.iload 6, 2) := by decide +kernel
theorem dX1_ask_127 : decode cX1_ask 127 = .ok (.ishr, 1) := by decide +kernel
theorem dX1_ask_128 : decode cX1_ask 128 = .ok (.iconst 1, 1) := by decide +kernel
theorem dX1_ask_129 : decode cX1_ask 129 = .ok (.iand, 1) := by decide +kernel
theorem dX1_ask_130 : decode cX1_ask 130 = .ok (.iconst 1, 1) := by decide +kernel
theorem dX1_ask_131 : decode cX1_ask 131 = .ok (.if_icmp .ne 25, 3) := by decide +kernel
theorem dX1_ask_134 : decode cX1_ask 134 = .ok (.aload_n 0, 1) := by decide +kernel
theorem dX1_ask_135 : decode cX1_ask 135 = .ok (.iload 6, 2) := by decide +kernel
theorem dX1_ask_137 : decode cX1_ask 137 = .ok (.iload 5, 2) := by decide +kernel
theorem dX1_ask_139 : decode cX1_ask 139 = .ok (.invokevirtual 34, 3) := by decide +kernel
theorem dX1_ask_142 : decode cX1_ask 142 = .ok (.iconst (-1), 1) := by decide +kernel
theorem dX1_ask_143 : decode cX1_ask 143 = .ok (.if_icmp .eq 13, 3) := by decide +kernel
theorem dX1_ask_146 : decode cX1_ask 146 = .ok (.aload_n 0, 1) := by decide +kernel
theorem dX1_ask_147 : decode cX1_ask 147 = .ok (.iload 6, 2) := by decide +kernel
theorem dX1_ask_149 : decode cX1_ask 149 = .ok (.iload 5, 2) := by decide +kernel
theorem dX1_ask_151 : decode cX1_ask 151 = .ok (.invokevirtual 34, 3) := by decide +kernel
theorem dX1_ask_154 : decode cX1_ask 154 = .ok (.istore 4, 2) := by decide +kernel
theorem dX1_ask_156 : decode cX1_ask 156 = .ok (.iinc 6 1, 3) := by decide +kernel
theorem dX1_ask_159 : decode cX1_ask 159 = .ok (.goto (-42), 3) := by decide +kernel
theorem dX1_ask_162 : decode cX1_ask 162 = .ok (.iinc 5 1, 3) := by decide +kernel
theorem dX1_ask_165 : decode cX1_ask 165 = .ok (.goto (-57), 3) := by decide +kernel
theorem dX1_ask_168 : decode cX1_ask 168 = .ok (.iconst 0, 1) := by decide +kernel
theorem dX1_ask_169 : decode cX1_ask 169 = .ok (.istore 5, 2) := by decide +kernel
theorem dX1_ask_171 : decode cX1_ask 171 = .ok (.iload 5, 2) := by decide +kernel
theorem dX1_ask_173 : decode cX1_ask 173 = .ok (.bipush 10, 2) := by decide +kernel
theorem dX1_ask_175 : decode cX1_ask 175 = .ok (.if_icmp .ge 27, 3) := by decide +kernel
theorem dX1_ask_178 : decode cX1_ask 178 = .ok (.iload_n 1, 1) := by decide +kernel
theorem dX1_ask_179 : decode cX1_ask 179 = .ok (.iload 5, 2) := by decide +kernel
theorem dX1_ask_181 : decode cX1_ask 181 = .ok (.ishr, 1) := by decide +kernel
theorem dX1_ask_182 : decode cX1_ask 182 = .ok (.iconst 1, 1) := by decide +kernel
theorem dX1_ask_183 : decode cX1_ask 183 = .ok (.iand, 1) := by decide +kernel
theorem dX1_ask_184 : decode cX1_ask 184 = .ok (.iconst 1, 1) := by decide +kernel
theorem dX1_ask_185 : decode cX1_ask 185 = .ok (.if_icmp .ne 11, 3) := by decide +kernel
theorem dX1_ask_188 : decode cX1_ask 188 = .ok (.aload_n 0, 1) := by decide +kernel
theorem dX1_ask_189 : decode cX1_ask 189 = .ok (.getfield 13, 3) := by decide +kernel
theorem dX1_ask_192 : decode cX1_ask 192 = .ok (.iload 5, 2) := by decide +kernel
theorem dX1_ask_194 : decode cX1_ask 194 = .ok (.iload_n 2, 1) := by decide +kernel
theorem dX1_ask_195 : decode cX1_ask 195 = .ok (.iastore, 1) := by decide +kernel
theorem dX1_ask_196 : decode cX1_ask 196 = .ok (.iinc 5 1, 3) := by decide +kernel
theorem dX1_ask_199 : decode cX1_ask 199 = .ok (.goto (-28), 3) := by decide +kernel
theorem dX1_ask_202 : decode cX1_ask 202 = .ok (.iload 4, 2) := by decide +kernel
theorem dX1_ask_204 : decode cX1_ask 204 = .ok (.ireturn, 1) := by decide +kernel
theorem dX1_isChosen_0 : decode cX1_isChosen 0 = .ok (.iconst 0, 1) := by decide +kernel
theorem dX1_isChosen_1 : decode cX1_isChosen 1 = .ok (.istore_n 2, 1) := by decide +kernel
theorem dX1_isChosen_2 : decode cX1_isChosen 2 = .ok (.iload_n 2, 1) := by decide +kernel
theorem dX1_isChosen_3 : decode cX1_isChosen 3 = .ok (.bipush 10, 2) := by decide +kernel
theorem dX1_isChosen_5 : decode cX1_isChosen 5 = .ok (.if_icmp .ge 55, 3) := by decide +kernel
theorem dX1_isChosen_8 : decode cX1_isChosen 8 = .ok (.iconst 0, 1) := by decide +kernel
theorem dX1_isChosen_9 : decode cX1_isChosen 9 = .ok (.istore_n 3, 1) := by decide +kernel
theorem dX1_isChosen_10 : decode cX1_isChosen 10 = .ok (.iconst 0, 1) := by decide +kernel
theorem dX1_isChosen_11 : decode cX1_isChosen 11 = .ok (.istore 4, 2) := by decide +kernel
theorem dX1_isChosen_13 : decode cX1_isChosen 13 = .ok (.iload 4, 2) := by decide +kernel
theorem dX1_isChosen_15 : decode cX1_isChosen 15 = .ok (.bipush 10, 2) := by decide +kernel
theorem dX1_isChosen_17 : decode cX1_isChosen 17 = .ok (.if_icmp .ge 27, 3) := by decide +kernel
theorem dX1_isChosen_20 : decode cX1_isChosen 20 = .ok (.aload_n 0, 1) := by decide +kernel
theorem dX1_isChosen_21 : decode cX1_isChosen 21 = .ok (.iload 4, 2) := by decide +kernel
theorem dX1_isChosen_23 : decode cX1_isChosen 23 = .ok (.iload_n 1, 1) := by decide +kernel
theorem dX1_isChosen_24 : decode cX1_isChosen 24 = .ok (.invokevirtual 34, 3) := by decide +kernel
theorem dX1_isChosen_27 : decode cX1_isChosen 27 = .ok (.iload_n 2, 1) := by decide +kernel
theorem dX1_isChosen_28 : decode cX1_isChosen 28 = .ok (.if_icmp .ne 10, 3) := by decide +kernel
theorem dX1_isChosen_31 : decode cX1_isChosen 31 = .ok (.iload_n 3, 1) := by decide +kernel
theorem dX1_isChosen_32 : decode cX1_isChosen 32 = .ok (.iconst 1, 1) := by decide +kernel
theorem dX1_isChosen_33 : decode cX1_isChosen 33 = .ok (.iload 4, 2) := by decide +kernel
theorem dX1_isChosen_35 : decode cX1_isChosen 35 = .ok (.ishl, 1) := by decide +kernel
theorem dX1_isChosen_36 : decode cX1_isChosen 36 = .ok (.ior, 1) := by decide +kernel
theorem dX1_isChosen_37 : decode cX1_isChosen 37 = .ok (.istore_n 3, 1) := by decide +kernel
theorem dX1_isChosen_38 : decode cX1_isChosen 38 = .ok (.iinc 4 1, 3) := by decide +kernel
theorem dX1_isChosen_41 : decode cX1_isChosen 41 = .ok (.goto (-28), 3) := by decide +kernel
theorem dX1_isChosen_44 : decode cX1_isChosen 44 = .ok (.aload_n 0, 1) := by decide +kernel
theorem dX1_isChosen_45 : decode cX1_isChosen 45 = .ok (.iload_n 3, 1) := by decide +kernel
theorem dX1_isChosen_46 : decode cX1_isChosen 46 = .ok (.invokevirtual 44, 3) := by decide +kernel
theorem dX1_isChosen_49 : decode cX1_isChosen 49 = .ok (.ifCond .eq 5, 3) := by decide +kernel
theorem dX1_isChosen_52 : decode cX1_isChosen 52 = .ok (.iload_n 2, 1) := by decide +kernel
theorem dX1_isChosen_53 : decode cX1_isChosen 53 = .ok (.ireturn, 1) := by decide +kernel
theorem dX1_isChosen_54 : decode cX1_isChosen 54 = .ok (.iinc 2 1, 3) := by decide +kernel
theorem dX1_isChosen_57 : decode cX1_isChosen 57 = .ok (.goto (-55), 3) := by decide +kernel
theorem dX1_isChosen_60 : decode cX1_isChosen 60 = .ok (.iconst (-1), 1) := by decide +kernel
theorem dX1_isChosen_61 : decode cX1_isChosen 61 = .ok (.ireturn, 1) := by decide +kernel
theorem dX1_chosen_0 : decode cX1_chosen 0 = .ok (.aload_n 0, 1) := by decide +kernel
theorem dX1_chosen_1 : decode cX1_chosen 1 = .ok (.iload_n 1, 1) := by decide +kernel
theorem dX1_chosen_2 : decode cX1_chosen 2 = .ok (.bipush 31, 2) := by decide +kernel
theorem dX1_chosen_4 : decode cX1_chosen 4 = .ok (.invokestatic 26, 3) := by decide +kernel
theorem dX1_chosen_7 : decode cX1_chosen 7 = .ok (.ifCond .eq 7, 3) := by decide +kernel
theorem dX1_chosen_10 : decode cX1_chosen 10 = .ok (.iconst 1, 1) := by decide +kernel
theorem dX1_chosen_11 : decode cX1_chosen 11 = .ok (.goto 4, 3) := by decide +kernel
theorem dX1_chosen_14 : decode cX1_chosen 14 = .ok (.iconst 0, 1) := by decide +kernel
theorem dX1_chosen_15 : decode cX1_chosen 15 = .ok (.putfield 23, 3) := by decide +kernel
theorem dX1_chosen_18 : decode cX1_chosen 18 = .ok (.aload_n 0, 1) := by decide +kernel
theorem dX1_chosen_19 : decode cX1_chosen 19 = .ok (.getfield 23, 3) := by decide +kernel
theorem dX1_chosen_22 : decode cX1_chosen 22 = .ok (.ifCond .le 7, 3) := by decide +kernel
theorem dX1_chosen_25 : decode cX1_chosen 25 = .ok (.iconst 0, 1) := by decide +kernel
theorem dX1_chosen_26 : decode cX1_chosen 26 = .ok (.goto 8, 3) := by decide +kernel
theorem dX1_chosen_29 : decode cX1_chosen 29 = .ok (.aload_n 0, 1) := by decide +kernel
theorem dX1_chosen_30 : decode cX1_chosen 30 = .ok (.iload_n 1, 1) := by decide +kernel
theorem dX1_chosen_31 : decode cX1_chosen 31 = .ok (.invokevirtual 48, 3) := by decide +kernel
theorem dX1_chosen_34 : decode cX1_chosen 34 = .ok (.ireturn, 1) := by decide +kernel
theorem dX1_canBe_0 : decode cX1_canBe 0 = .ok (.iconst 0, 1) := by decide +kernel
theorem dX1_canBe_1 : decode cX1_canBe 1 = .ok (.istore_n 3, 1) := by decide +kernel
theorem dX1_canBe_2 : decode cX1_canBe 2 = .ok (.iconst 0, 1) := by decide +kernel
theorem dX1_canBe_3 : decode cX1_canBe 3 = .ok (.istore 4, 2) := by decide +kernel
theorem dX1_canBe_5 : decode cX1_canBe 5 = .ok (.iload 4, 2) := by decide +kernel
theorem dX1_canBe_7 : decode cX1_canBe 7 = .ok (.bipush 10, 2) := by decide +kernel
theorem dX1_canBe_9 : decode cX1_canBe 9 = .ok (.if_icmp .ge 37, 3) := by decide +kernel
theorem dX1_canBe_12 : decode cX1_canBe 12 = .ok (.aload_n 0, 1) := by decide +kernel
theorem dX1_canBe_13 : decode cX1_canBe 13 = .ok (.iload 4, 2) := by decide +kernel
theorem dX1_canBe_15 : decode cX1_canBe 15 = .ok (.iload_n 1, 1) := by decide +kernel
theorem dX1_canBe_16 : decode cX1_canBe 16 = .ok (.invokevirtual 34, 3) := by decide +kernel
theorem dX1_canBe_19 : decode cX1_canBe 19 = .ok (.iload_n 2, 1) := by decide +kernel
theorem dX1_canBe_20 : decode cX1_canBe 20 = .ok (.if_icmp .eq 13, 3) := by decide +kernel
theorem dX1_canBe_23 : decode cX1_canBe 23 = .ok (.aload_n 0, 1) := by decide +kernel
theorem dX1_canBe_24 : decode cX1_canBe 24 = .ok (.iload 4, 2) := by decide +kernel
theorem dX1_canBe_26 : decode cX1_canBe 26 = .ok (.iload_n 1, 1) := by decide +kernel
theorem dX1_canBe_27 : decode cX1_canBe 27 = .ok (.invokevirtual 38, 3) := by decide +kernel
theorem dX1_canBe_30 : decode cX1_canBe 30 = .ok (.ifCond .eq 10, 3) := by decide +kernel
theorem dX1_canBe_33 : decode cX1_canBe 33 = .ok (.iload_n 3, 1) := by decide +kernel
theorem dX1_canBe_34 : decode cX1_canBe 34 = .ok (.iconst 1, 1) := by decide +kernel
theorem dX1_canBe_35 : decode cX1_canBe 35 = .ok (.iload 4, 2) := by decide +kernel
theorem dX1_canBe_37 : decode cX1_canBe 37 = .ok (.ishl, 1) := by decide +kernel
theorem dX1_canBe_38 : decode cX1_canBe 38 = .ok (.ior, 1) := by decide +kernel
theorem dX1_canBe_39 : decode cX1_canBe 39 = .ok (.istore_n 3, 1) := by decide +kernel
theorem dX1_canBe_40 : decode cX1_canBe 40 = .ok (.iinc 4 1, 3) := by decide +kernel
theorem dX1_canBe_43 : decode cX1_canBe 43 = .ok (.goto (-38), 3) := by decide +kernel
theorem dX1_canBe_46 : decode cX1_canBe 46 = .ok (.aload_n 0, 1) := by decide +kernel
theorem dX1_canBe_47 : decode cX1_canBe 47 = .ok (.iload_n 1, 1) := by decide +kernel
theorem dX1_canBe_48 : decode cX1_canBe 48 = .ok (.iload_n 2, 1) := by decide +kernel
theorem dX1_canBe_49 : decode cX1_canBe 49 = .ok (.invokevirtual 41, 3) := by decide +kernel
theorem dX1_canBe_52 : decode cX1_canBe 52 = .ok (.ifCond .ne 15, 3) := by decide +kernel
theorem dX1_canBe_55 : decode cX1_canBe 55 = .ok (.aload_n 0, 1) := by decide +kernel
theorem dX1_canBe_56 : decode cX1_canBe 56 = .ok (.iload_n 3, 1) := by decide +kernel
theorem dX1_canBe_57 : decode cX1_canBe 57 = .ok (.invokevirtual 44, 3) := by decide +kernel
theorem dX1_canBe_60 : decode cX1_canBe 60 = .ok (.ifCond .eq 7, 3) := by decide +kernel
theorem dX1_canBe_63 : decode cX1_canBe 63 = .ok (.iconst 1, 1) := by decide +kernel
theorem dX1_canBe_64 : decode cX1_canBe 64 = .ok (.goto 4, 3) := by decide +kernel
theorem dX1_canBe_67 : decode cX1_canBe 67 = .ok (.iconst 0, 1) := by decide +kernel
theorem dX1_canBe_68 : decode cX1_canBe 68 = .ok (.ireturn, 1) := by decide +kernel
theorem dX1_can_0 : decode cX1_can 0 = .ok (.aload_n 0, 1) := by decide +kernel
theorem dX1_can_1 : decode cX1_can 1 = .ok (.iload_n 1, 1) := by decide +kernel
theorem dX1_can_2 : decode cX1_can 2 = .ok (.bipush 31, 2) := by decide +kernel
theorem dX1_can_4 : decode cX1_can 4 = .ok (.invokestatic 26, 3) := by decide +kernel
theorem dX1_can_7 : decode cX1_can 7 = .ok (.ifCond .ne 12, 3) := by decide +kernel
theorem dX1_can_10 : decode cX1_can 10 = .ok (.iload_n 2, 1) := by decide +kernel
theorem dX1_can_11 : decode cX1_can 11 = .ok (.bipush 10, 2) := by decide +kernel
theorem dX1_can_13 : decode cX1_can 13 = .ok (.invokestatic 26, 3) := by decide +kernel
theorem dX1_can_16 : decode cX1_can 16 = .ok (.ifCond .eq 7, 3) := by decide +kernel
theorem dX1_can_19 : decode cX1_can 19 = .ok (.iconst 1, 1) := by decide +kernel
theorem dX1_can_20 : decode cX1_can 20 = .ok (.goto 4, 3) := by decide +kernel
theorem dX1_can_23 : decode cX1_can 23 = .ok (.iconst 0, 1) := by decide +kernel
theorem dX1_can_24 : decode cX1_can 24 = .ok (.putfield 23, 3) := by decide +kernel
theorem dX1_can_27 : decode cX1_can 27 = .ok (.aload_n 0, 1) := by decide +kernel
theorem dX1_can_28 : decode cX1_can 28 = .ok (.getfield 23, 3) := by decide +kernel
theorem dX1_can_31 : decode cX1_can 31 = .ok (.ifCond .ne 16, 3) := by decide +kernel
theorem dX1_can_34 : decode cX1_can 34 = .ok (.aload_n 0, 1) := by decide +kernel
theorem dX1_can_35 : decode cX1_can 35 = .ok (.iload_n 1, 1) := by decide +kernel
theorem dX1_can_36 : decode cX1_can 36 = .ok (.iload_n 2, 1) := by decide +kernel
theorem dX1_can_37 : decode cX1_can 37 = .ok (.invokevirtual 51, 3) := by decide +kernel
theorem dX1_can_40 : decode cX1_can 40 = .ok (.ifCond .eq 7, 3) := by decide +kernel
theorem dX1_can_43 : decode cX1_can 43 = .ok (.iconst 1, 1) := by decide +kernel
theorem dX1_can_44 : decode cX1_can 44 = .ok (.goto 4, 3) := by decide +kernel
theorem dX1_can_47 : decode cX1_can 47 = .ok (.iconst 0, 1) := by decide +kernel
theorem dX1_can_48 : decode cX1_can 48 = .ok (.ireturn, 1) := by decide +kernel
theorem dX1_isSafe_0 : decode cX1_isSafe 0 = .ok (.iconst 0, 1) := by decide +kernel
theorem dX1_isSafe_1 : decode cX1_isSafe 1 = .ok (.istore_n 3, 1) := by decide +kernel
theorem dX1_isSafe_2 : decode cX1_isSafe 2 = .ok (.iload_n 3, 1) := by decide +kernel
theorem dX1_isSafe_3 : decode cX1_isSafe 3 = .ok (.iload_n 1, 1) := by decide +kernel
theorem dX1_isSafe_4 : decode cX1_isSafe 4 = .ok (.if_icmp .ge 43, 3) := by decide +kernel
theorem dX1_isSafe_7 : decode cX1_isSafe 7 = .ok (.iconst 0, 1) := by decide +kernel
theorem dX1_isSafe_8 : decode cX1_isSafe 8 = .ok (.istore 4, 2) := by decide +kernel
theorem dX1_isSafe_10 : decode cX1_isSafe 10 = .ok (.iload 4, 2) := by decide +kernel
theorem dX1_isSafe_12 : decode cX1_isSafe 12 = .ok (.bipush 10, 2) := by decide +kernel
theorem dX1_isSafe_14 : decode cX1_isSafe 14 = .ok (.if_icmp .ge 27, 3) := by decide +kernel
theorem dX1_isSafe_17 : decode cX1_isSafe 17 = .ok (.iload 4, 2) := by decide +kernel
theorem dX1_isSafe_19 : decode cX1_isSafe 19 = .ok (.iload_n 2, 1) := by decide +kernel
theorem dX1_isSafe_20 : decode cX1_isSafe 20 = .ok (.if_icmp .eq 15, 3) := by decide +kernel
theorem dX1_isSafe_23 : decode cX1_isSafe 23 = .ok (.aload_n 0, 1) := by decide +kernel
theorem dX1_isSafe_24 : decode cX1_isSafe 24 = .ok (.iload_n 3, 1) := by decide +kernel
theorem dX1_isSafe_25 : decode cX1_isSafe 25 = .ok (.iload 4, 2) := by decide +kernel
theorem dX1_isSafe_27 : decode cX1_isSafe 27 = .ok (.invokevirtual 51, 3) := by decide +kernel
theorem dX1_isSafe_30 : decode cX1_isSafe 30 = .ok (.ifCond .eq 5, 3) := by decide +kernel
theorem dX1_isSafe_33 : decode cX1_isSafe 33 = .ok (.iconst 0, 1) := by decide +kernel
theorem dX1_isSafe_34 : decode cX1_isSafe 34 = .ok (.ireturn, 1) := by decide +kernel
theorem dX1_isSafe_35 : decode cX1_isSafe 35 = .ok (.iinc 4 1, 3) := by decide +kernel
theorem dX1_isSafe_38 : decode cX1_isSafe 38 = .ok (.goto (-28), 3) := by decide +kernel
theorem dX1_isSafe_41 : decode cX1_isSafe 41 = .ok (.iinc 3 1, 3) := by decide +kernel
theorem dX1_isSafe_44 : decode cX1_isSafe 44 = .ok (.goto (-42), 3) := by decide +kernel
theorem dX1_isSafe_47 : decode cX1_isSafe 47 = .ok (.iconst 1, 1) := by decide +kernel
theorem dX1_isSafe_48 : decode cX1_isSafe 48 = .ok (.ireturn, 1) := by decide +kernel
theorem dX1_safe_0 : decode cX1_safe 0 = .ok (.aload_n 0, 1) := by decide +kernel
theorem dX1_safe_1 : decode cX1_safe 1 = .ok (.iload_n 1, 1) := by decide +kernel
theorem dX1_safe_2 : decode cX1_safe 2 = .ok (.bipush 31, 2) := by decide +kernel
theorem dX1_safe_4 : decode cX1_safe 4 = .ok (.invokestatic 26, 3) := by decide +kernel
theorem dX1_safe_7 : decode cX1_safe 7 = .ok (.ifCond .ne 12, 3) := by decide +kernel
theorem dX1_safe_10 : decode cX1_safe 10 = .ok (.iload_n 2, 1) := by decide +kernel
theorem dX1_safe_11 : decode cX1_safe 11 = .ok (.bipush 10, 2) := by decide +kernel
theorem dX1_safe_13 : decode cX1_safe 13 = .ok (.invokestatic 26, 3) := by decide +kernel
theorem dX1_safe_16 : decode cX1_safe 16 = .ok (.ifCond .eq 7, 3) := by decide +kernel
theorem dX1_safe_19 : decode cX1_safe 19 = .ok (.iconst 1, 1) := by decide +kernel
theorem dX1_safe_20 : decode cX1_safe 20 = .ok (.goto 4, 3) := by decide +kernel
theorem dX1_safe_23 : decode cX1_safe 23 = .ok (.iconst 0, 1) := by decide +kernel
theorem dX1_safe_24 : decode cX1_safe 24 = .ok (.putfield 23, 3) := by decide +kernel
theorem dX1_safe_27 : decode cX1_safe 27 = .ok (.aload_n 0, 1) := by decide +kernel
theorem dX1_safe_28 : decode cX1_safe 28 = .ok (.getfield 23, 3) := by decide +kernel
theorem dX1_safe_31 : decode cX1_safe 31 = .ok (.ifCond .ne 16, 3) := by decide +kernel
theorem dX1_safe_34 : decode cX1_safe 34 = .ok (.aload_n 0, 1) := by decide +kernel
theorem dX1_safe_35 : decode cX1_safe 35 = .ok (.iload_n 1, 1) := by decide +kernel
theorem dX1_safe_36 : decode cX1_safe 36 = .ok (.iload_n 2, 1) := by decide +kernel
theorem dX1_safe_37 : decode cX1_safe 37 = .ok (.invokevirtual 54, 3) := by decide +kernel
theorem dX1_safe_40 : decode cX1_safe 40 = .ok (.ifCond .eq 7, 3) := by decide +kernel
theorem dX1_safe_43 : decode cX1_safe 43 = .ok (.iconst 1, 1) := by decide +kernel
theorem dX1_safe_44 : decode cX1_safe 44 = .ok (.goto 4, 3) := by decide +kernel
theorem dX1_safe_47 : decode cX1_safe 47 = .ok (.iconst 0, 1) := by decide +kernel
theorem dX1_safe_48 : decode cX1_safe 48 = .ok (.ireturn, 1) := by decide +kernel
theorem dX1_free_0 : decode cX1_free 0 = .ok (.aload_n 0, 1) := by decide +kernel
theorem dX1_free_1 : decode cX1_free 1 = .ok (.iload_n 1, 1) := by decide +kernel
theorem dX1_free_2 : decode cX1_free 2 = .ok (.bipush 31, 2) := by decide +kernel
theorem dX1_free_4 : decode cX1_free 4 = .ok (.invokestatic 26, 3) := by decide +kernel
theorem dX1_free_7 : decode cX1_free 7 = .ok (.ifCond .eq 7, 3) := by decide +kernel
theorem dX1_free_10 : decode cX1_free 10 = .ok (.iconst 1, 1) := by decide +kernel
theorem dX1_free_11 : decode cX1_free 11 = .ok (.goto 4, 3) := by decide +kernel
theorem dX1_free_14 : decode cX1_free 14 = .ok (.iconst 0, 1) := by decide +kernel
theorem dX1_free_15 : decode cX1_free 15 = .ok (.putfield 23, 3) := by decide +kernel
theorem dX1_free_18 : decode cX1_free 18 = .ok (.iconst 0, 1) := by decide +kernel
theorem dX1_free_19 : decode cX1_free 19 = .ok (.istore_n 2, 1) := by decide +kernel
theorem dX1_free_20 : decode cX1_free 20 = .ok (.iconst 0, 1) := by decide +kernel
theorem dX1_free_21 : decode cX1_free 21 = .ok (.istore_n 3, 1) := by decide +kernel
theorem dX1_free_22 : decode cX1_free 22 = .ok (.iload_n 3, 1) := by decide +kernel
theorem dX1_free_23 : decode cX1_free 23 = .ok (.bipush 10, 2) := by decide +kernel
theorem dX1_free_25 : decode cX1_free 25 = .ok (.if_icmp .ge 28, 3) := by decide +kernel
theorem dX1_free_28 : decode cX1_free 28 = .ok (.aload_n 0, 1) := by decide +kernel
theorem dX1_free_29 : decode cX1_free 29 = .ok (.getfield 23, 3) := by decide +kernel
theorem dX1_free_32 : decode cX1_free 32 = .ok (.ifCond .ne 21, 3) := by decide +kernel
theorem dX1_free_35 : decode cX1_free 35 = .ok (.aload_n 0, 1) := by decide +kernel
theorem dX1_free_36 : decode cX1_free 36 = .ok (.iload_n 1, 1) := by decide +kernel
theorem dX1_free_37 : decode cX1_free 37 = .ok (.iload_n 3, 1) := by decide +kernel
theorem dX1_free_38 : decode cX1_free 38 = .ok (.invokevirtual 54, 3) := by decide +kernel
theorem dX1_free_41 : decode cX1_free 41 = .ok (.ifCond .eq 6, 3) := by decide +kernel
theorem dX1_free_44 : decode cX1_free 44 = .ok (.iinc 2 1, 3) := by decide +kernel
theorem dX1_free_47 : decode cX1_free 47 = .ok (.iinc 3 1, 3) := by decide +kernel
theorem dX1_free_50 : decode cX1_free 50 = .ok (.goto (-28), 3) := by decide +kernel
theorem dX1_free_53 : decode cX1_free 53 = .ok (.iload_n 2, 1) := by decide +kernel
theorem dX1_free_54 : decode cX1_free 54 = .ok (.ireturn, 1) := by decide +kernel
theorem dX1_enough_0 : decode cX1_enough 0 = .ok (.aload_n 0, 1) := by decide +kernel
theorem dX1_enough_1 : decode cX1_enough 1 = .ok (.iload_n 1, 1) := by decide +kernel
theorem dX1_enough_2 : decode cX1_enough 2 = .ok (.sipush 1024, 3) := by decide +kernel
theorem dX1_enough_5 : decode cX1_enough 5 = .ok (.invokestatic 26, 3) := by decide +kernel
theorem dX1_enough_8 : decode cX1_enough 8 = .ok (.ifCond .eq 7, 3) := by decide +kernel
theorem dX1_enough_11 : decode cX1_enough 11 = .ok (.iconst 1, 1) := by decide +kernel
theorem dX1_enough_12 : decode cX1_enough 12 = .ok (.goto 4, 3) := by decide +kernel
theorem dX1_enough_15 : decode cX1_enough 15 = .ok (.iconst 0, 1) := by decide +kernel
theorem dX1_enough_16 : decode cX1_enough 16 = .ok (.putfield 23, 3) := by decide +kernel
theorem dX1_enough_19 : decode cX1_enough 19 = .ok (.aload_n 0, 1) := by decide +kernel
theorem dX1_enough_20 : decode cX1_enough 20 = .ok (.getfield 23, 3) := by decide +kernel
theorem dX1_enough_23 : decode cX1_enough 23 = .ok (.ifCond .ne 15, 3) := by decide +kernel
theorem dX1_enough_26 : decode cX1_enough 26 = .ok (.aload_n 0, 1) := by decide +kernel
theorem dX1_enough_27 : decode cX1_enough 27 = .ok (.iload_n 1, 1) := by decide +kernel
theorem dX1_enough_28 : decode cX1_enough 28 = .ok (.invokevirtual 44, 3) := by decide +kernel
theorem dX1_enough_31 : decode cX1_enough 31 = .ok (.ifCond .eq 7, 3) := by decide +kernel
theorem dX1_enough_34 : decode cX1_enough 34 = .ok (.iconst 1, 1) := by decide +kernel
theorem dX1_enough_35 : decode cX1_enough 35 = .ok (.goto 4, 3) := by decide +kernel
theorem dX1_enough_38 : decode cX1_enough 38 = .ok (.iconst 0, 1) := by decide +kernel
theorem dX1_enough_39 : decode cX1_enough 39 = .ok (.ireturn, 1) := by decide +kernel
theorem dX1_blocks_0 : decode cX1_blocks 0 = .ok (.aload_n 0, 1) := by decide +kernel
theorem dX1_blocks_1 : decode cX1_blocks 1 = .ok (.iload_n 1, 1) := by decide +kernel
theorem dX1_blocks_2 : decode cX1_blocks 2 = .ok (.sipush 1024, 3) := by decide +kernel
theorem dX1_blocks_5 : decode cX1_blocks 5 = .ok (.invokestatic 26, 3) := by decide +kernel
theorem dX1_blocks_8 : decode cX1_blocks 8 = .ok (.ifCond .eq 7, 3) := by decide +kernel
theorem dX1_blocks_11 : decode cX1_blocks 11 = .ok (.iconst 1, 1) := by decide +kernel
theorem dX1_blocks_12 : decode cX1_blocks 12 = .ok (.goto 4, 3) := by decide +kernel
theorem dX1_blocks_15 : decode cX1_blocks 15 = .ok (.iconst 0, 1) := by decide +kernel
theorem dX1_blocks_16 : decode cX1_blocks 16 = .ok (.putfield 23, 3) := by decide +kernel
theorem dX1_blocks_19 : decode cX1_blocks 19 = .ok (.aload_n 0, 1) := by decide +kernel
theorem dX1_blocks_20 : decode cX1_blocks 20 = .ok (.getfield 23, 3) := by decide +kernel
theorem dX1_blocks_23 : decode cX1_blocks 23 = .ok (.ifCond .le 5, 3) := by decide +kernel
theorem dX1_blocks_26 : decode cX1_blocks 26 = .ok (.iconst 0, 1) := by decide +kernel
theorem dX1_blocks_27 : decode cX1_blocks 27 = .ok (.ireturn, 1) := by decide +kernel
theorem dX1_blocks_28 : decode cX1_blocks 28 = .ok (.iconst 0, 1) := by decide +kernel
theorem dX1_blocks_29 : decode cX1_blocks 29 = .ok (.istore_n 2, 1) := by decide +kernel
theorem dX1_blocks_30 : decode cX1_blocks 30 = .ok (.iload_n 2, 1) := by decide +kernel
theorem dX1_blocks_31 : decode cX1_blocks 31 = .ok (.sipush 1024, 3) := by decide +kernel
theorem dX1_blocks_34 : decode cX1_blocks 34 = .ok (.if_icmp .ge 25, 3) := by decide +kernel
theorem dX1_blocks_37 : decode cX1_blocks 37 = .ok (.aload_n 0, 1) := by decide +kernel
theorem dX1_blocks_38 : decode cX1_blocks 38 = .ok (.iload_n 2, 1) := by decide +kernel
theorem dX1_blocks_39 : decode cX1_blocks 39 = .ok (.invokevirtual 44, 3) := by decide +kernel
theorem dX1_blocks_42 : decode cX1_blocks 42 = .ok (.ifCond .eq 11, 3) := by decide +kernel
theorem dX1_blocks_45 : decode cX1_blocks 45 = .ok (.iload_n 2, 1) := by decide +kernel
theorem dX1_blocks_46 : decode cX1_blocks 46 = .ok (.iload_n 1, 1) := by decide +kernel
theorem dX1_blocks_47 : decode cX1_blocks 47 = .ok (.iand, 1) := by decide +kernel
theorem dX1_blocks_48 : decode cX1_blocks 48 = .ok (.ifCond .ne 5, 3) := by decide +kernel
theorem dX1_blocks_51 : decode cX1_blocks 51 = .ok (.iconst 0, 1) := by decide +kernel
theorem dX1_blocks_52 : decode cX1_blocks 52 = .ok (.ireturn, 1) := by decide +kernel
theorem dX1_blocks_53 : decode cX1_blocks 53 = .ok (.iinc 2 1, 3) := by decide +kernel
theorem dX1_blocks_56 : decode cX1_blocks 56 = .ok (.goto (-26), 3) := by decide +kernel
theorem dX1_blocks_59 : decode cX1_blocks 59 = .ok (.iconst 1, 1) := by decide +kernel
theorem dX1_blocks_60 : decode cX1_blocks 60 = .ok (.ireturn, 1) := by decide +kernel
theorem dX1_sets_0 : decode cX1_sets 0 = .ok (.aload_n 0, 1) := by decide +kernel
theorem dX1_sets_1 : decode cX1_sets 1 = .ok (.iconst 0, 1) := by decide +kernel
theorem dX1_sets_2 : decode cX1_sets 2 = .ok (.putfield 23, 3) := by decide +kernel
theorem dX1_sets_5 : decode cX1_sets 5 = .ok (.iconst 0, 1) := by decide +kernel
theorem dX1_sets_6 : decode cX1_sets 6 = .ok (.istore_n 1, 1) := by decide +kernel
theorem dX1_sets_7 : decode cX1_sets 7 = .ok (.iconst 0, 1) := by decide +kernel
theorem dX1_sets_8 : decode cX1_sets 8 = .ok (.istore_n 2, 1) := by decide +kernel
theorem dX1_sets_9 : decode cX1_sets 9 = .ok (.iload_n 2, 1) := by decide +kernel
theorem dX1_sets_10 : decode cX1_sets 10 = .ok (.sipush 1024, 3) := by decide +kernel
theorem dX1_sets_13 : decode cX1_sets 13 = .ok (.if_icmp .ge 20, 3) := by decide +kernel
theorem dX1_sets_16 : decode cX1_sets 16 = .ok (.aload_n 0, 1) := by decide +kernel
theorem dX1_sets_17 : decode cX1_sets 17 = .ok (.iload_n 2, 1) := by decide +kernel
theorem dX1_sets_18 : decode cX1_sets 18 = .ok (.invokevirtual 44, 3) := by decide +kernel
theorem dX1_sets_21 : decode cX1_sets 21 = .ok (.ifCond .eq 6, 3) := by decide +kernel
theorem dX1_sets_24 : decode cX1_sets 24 = .ok (.iinc 1 1, 3) := by decide +kernel
theorem dX1_sets_27 : decode cX1_sets 27 = .ok (.iinc 2 1, 3) := by decide +kernel
theorem dX1_sets_30 : decode cX1_sets 30 = .ok (.goto (-21), 3) := by decide +kernel
theorem dX1_sets_33 : decode cX1_sets 33 = .ok (.iload_n 1, 1) := by decide +kernel
theorem dX1_sets_34 : decode cX1_sets 34 = .ok (.ireturn, 1) := by decide +kernel
theorem dX1_size_0 : decode cX1_size 0 = .ok (.iconst 0, 1) := by decide +kernel
theorem dX1_size_1 : decode cX1_size 1 = .ok (.istore_n 1, 1) := by decide +kernel
theorem dX1_size_2 : decode cX1_size 2 = .ok (.iconst 0, 1) := by decide +kernel
theorem dX1_size_3 : decode cX1_size 3 = .ok (.istore_n 2, 1) := by decide +kernel
theorem dX1_size_4 : decode cX1_size 4 = .ok (.iload_n 2, 1) := by decide +kernel
theorem dX1_size_5 : decode cX1_size 5 = .ok (.bipush 10, 2) := by decide +kernel
theorem dX1_size_7 : decode cX1_size 7 = .ok (.if_icmp .ge 17, 3) := by decide +kernel
theorem dX1_size_10 : decode cX1_size 10 = .ok (.iload_n 1, 1) := by decide +kernel
theorem dX1_size_11 : decode cX1_size 11 = .ok (.iload_n 0, 1) := by decide +kernel
theorem dX1_size_12 : decode cX1_size 12 = .ok (.iload_n 2, 1) := by decide +kernel
theorem dX1_size_13 : decode cX1_size 13 = .ok (.ishr, 1) := by decide +kernel
theorem dX1_size_14 : decode cX1_size 14 = .ok (.iconst 1, 1) := by decide +kernel
theorem dX1_size_15 : decode cX1_size 15 = .ok (.iand, 1) := by decide +kernel
theorem dX1_size_16 : decode cX1_size 16 = .ok (.iadd, 1) := by decide +kernel
theorem dX1_size_17 : decode cX1_size 17 = .ok (.istore_n 1, 1) := by decide +kernel
theorem dX1_size_18 : decode cX1_size 18 = .ok (.iinc 2 1, 3) := by decide +kernel
theorem dX1_size_21 : decode cX1_size 21 = .ok (.goto (-17), 3) := by decide +kernel
theorem dX1_size_24 : decode cX1_size 24 = .ok (.iload_n 1, 1) := by decide +kernel
theorem dX1_size_25 : decode cX1_size 25 = .ok (.ireturn, 1) := by decide +kernel
theorem dX1_least_0 : decode cX1_least 0 = .ok (.aload_n 0, 1) := by decide +kernel
theorem dX1_least_1 : decode cX1_least 1 = .ok (.iconst 0, 1) := by decide +kernel
theorem dX1_least_2 : decode cX1_least 2 = .ok (.putfield 23, 3) := by decide +kernel
theorem dX1_least_5 : decode cX1_least 5 = .ok (.iconst (-1), 1) := by decide +kernel
theorem dX1_least_6 : decode cX1_least 6 = .ok (.istore_n 1, 1) := by decide +kernel
theorem dX1_least_7 : decode cX1_least 7 = .ok (.iconst 0, 1) := by decide +kernel
theorem dX1_least_8 : decode cX1_least 8 = .ok (.istore_n 2, 1) := by decide +kernel
theorem dX1_least_9 : decode cX1_least 9 = .ok (.iload_n 2, 1) := by decide +kernel
theorem dX1_least_10 : decode cX1_least 10 = .ok (.sipush 1024, 3) := by decide +kernel
theorem dX1_least_13 : decode cX1_least 13 = .ok (.if_icmp .ge 35, 3) := by decide +kernel
theorem dX1_least_16 : decode cX1_least 16 = .ok (.aload_n 0, 1) := by decide +kernel
theorem dX1_least_17 : decode cX1_least 17 = .ok (.iload_n 2, 1) := by decide +kernel
theorem dX1_least_18 : decode cX1_least 18 = .ok (.invokevirtual 44, 3) := by decide +kernel
theorem dX1_least_21 : decode cX1_least 21 = .ok (.ifCond .eq 21, 3) := by decide +kernel
theorem dX1_least_24 : decode cX1_least 24 = .ok (.iload_n 1, 1) := by decide +kernel
theorem dX1_least_25 : decode cX1_least 25 = .ok (.iconst (-1), 1) := by decide +kernel
theorem dX1_least_26 : decode cX1_least 26 = .ok (.if_icmp .eq 11, 3) := by decide +kernel
theorem dX1_least_29 : decode cX1_least 29 = .ok (.iload_n 2, 1) := by decide +kernel
theorem dX1_least_30 : decode cX1_least 30 = .ok (.invokestatic 57, 3) := by decide +kernel
theorem dX1_least_33 : decode cX1_least 33 = .ok (.iload_n 1, 1) := by decide +kernel
theorem dX1_least_34 : decode cX1_least 34 = .ok (.if_icmp .ge 8, 3) := by decide +kernel
theorem dX1_least_37 : decode cX1_least 37 = .ok (.iload_n 2, 1) := by decide +kernel
theorem dX1_least_38 : decode cX1_least 38 = .ok (.invokestatic 57, 3) := by decide +kernel
theorem dX1_least_41 : decode cX1_least 41 = .ok (.istore_n 1, 1) := by decide +kernel
theorem dX1_least_42 : decode cX1_least 42 = .ok (.iinc 2 1, 3) := by decide +kernel
theorem dX1_least_45 : decode cX1_least 45 = .ok (.goto (-36), 3) := by decide +kernel
theorem dX1_least_48 : decode cX1_least 48 = .ok (.iload_n 1, 1) := by decide +kernel
theorem dX1_least_49 : decode cX1_least 49 = .ok (.ireturn, 1) := by decide +kernel
theorem dX1_meet_0 : decode cX1_meet 0 = .ok (.aload_n 0, 1) := by decide +kernel
theorem dX1_meet_1 : decode cX1_meet 1 = .ok (.iconst 0, 1) := by decide +kernel
theorem dX1_meet_2 : decode cX1_meet 2 = .ok (.putfield 23, 3) := by decide +kernel
theorem dX1_meet_5 : decode cX1_meet 5 = .ok (.iconst 0, 1) := by decide +kernel
theorem dX1_meet_6 : decode cX1_meet 6 = .ok (.istore_n 1, 1) := by decide +kernel
theorem dX1_meet_7 : decode cX1_meet 7 = .ok (.iload_n 1, 1) := by decide +kernel
theorem dX1_meet_8 : decode cX1_meet 8 = .ok (.sipush 1024, 3) := by decide +kernel
theorem dX1_meet_11 : decode cX1_meet 11 = .ok (.if_icmp .ge 33, 3) := by decide +kernel
theorem dX1_meet_14 : decode cX1_meet 14 = .ok (.aload_n 0, 1) := by decide +kernel
theorem dX1_meet_15 : decode cX1_meet 15 = .ok (.iload_n 1, 1) := by decide +kernel
theorem dX1_meet_16 : decode cX1_meet 16 = .ok (.invokevirtual 44, 3) := by decide +kernel
theorem dX1_meet_19 : decode cX1_meet 19 = .ok (.ifCond .eq 19, 3) := by decide +kernel
theorem dX1_meet_22 : decode cX1_meet 22 = .ok (.aload_n 0, 1) := by decide +kernel
theorem dX1_meet_23 : decode cX1_meet 23 = .ok (.iload_n 1, 1) := by decide +kernel
theorem dX1_meet_24 : decode cX1_meet 24 = .ok (.iconst (-1), 1) := by decide +kernel
theorem dX1_meet_25 : decode cX1_meet 25 = .ok (.ixor, 1) := by decide +kernel
theorem dX1_meet_26 : decode cX1_meet 26 = .ok (.sipush 1023, 3) := by decide +kernel
theorem dX1_meet_29 : decode cX1_meet 29 = .ok (.iand, 1) := by decide +kernel
theorem dX1_meet_30 : decode cX1_meet 30 = .ok (.invokevirtual 44, 3) := by decide +kernel
theorem dX1_meet_33 : decode cX1_meet 33 = .ok (.ifCond .eq 5, 3) := by decide +kernel
theorem dX1_meet_36 : decode cX1_meet 36 = .ok (.iconst 0, 1) := by decide +kernel
theorem dX1_meet_37 : decode cX1_meet 37 = .ok (.ireturn, 1) := by decide +kernel
theorem dX1_meet_38 : decode cX1_meet 38 = .ok (.iinc 1 1, 3) := by decide +kernel
theorem dX1_meet_41 : decode cX1_meet 41 = .ok (.goto (-34), 3) := by decide +kernel
theorem dX1_meet_44 : decode cX1_meet 44 = .ok (.iconst 1, 1) := by decide +kernel
theorem dX1_meet_45 : decode cX1_meet 45 = .ok (.ireturn, 1) := by decide +kernel
theorem dX1_bare_0 : decode cX1_bare 0 = .ok (.aload_n 0, 1) := by decide +kernel
theorem dX1_bare_1 : decode cX1_bare 1 = .ok (.iconst 0, 1) := by decide +kernel
theorem dX1_bare_2 : decode cX1_bare 2 = .ok (.putfield 23, 3) := by decide +kernel
theorem dX1_bare_5 : decode cX1_bare 5 = .ok (.iconst 0, 1) := by decide +kernel
theorem dX1_bare_6 : decode cX1_bare 6 = .ok (.istore_n 1, 1) := by decide +kernel
theorem dX1_bare_7 : decode cX1_bare 7 = .ok (.iconst 0, 1) := by decide +kernel
theorem dX1_bare_8 : decode cX1_bare 8 = .ok (.istore_n 2, 1) := by decide +kernel
theorem dX1_bare_9 : decode cX1_bare 9 = .ok (.iload_n 2, 1) := by decide +kernel
theorem dX1_bare_10 : decode cX1_bare 10 = .ok (.sipush 1024, 3) := by decide +kernel
theorem dX1_bare_13 : decode cX1_bare 13 = .ok (.if_icmp .ge 72, 3) := by decide +kernel
theorem dX1_bare_16 : decode cX1_bare 16 = .ok (.aload_n 0, 1) := by decide +kernel
theorem dX1_bare_17 : decode cX1_bare 17 = .ok (.iload_n 2, 1) := by decide +kernel
theorem dX1_bare_18 : decode cX1_bare 18 = .ok (.invokevirtual 44, 3) := by decide +kernel
theorem dX1_bare_21 : decode cX1_bare 21 = .ok (.istore_n 3, 1) := by decide +kernel
theorem dX1_bare_22 : decode cX1_bare 22 = .ok (.iconst 0, 1) := by decide +kernel
theorem dX1_bare_23 : decode cX1_bare 23 = .ok (.istore 4, 2) := by decide +kernel
theorem dX1_bare_25 : decode cX1_bare 25 = .ok (.iload 4, 2) := by decide +kernel
theorem dX1_bare_27 : decode cX1_bare 27 = .ok (.bipush 10, 2) := by decide +kernel
theorem dX1_bare_29 : decode cX1_bare 29 = .ok (.if_icmp .ge 43, 3) := by decide +kernel
theorem dX1_bare_32 : decode cX1_bare 32 = .ok (.iload_n 3, 1) := by decide +kernel
theorem dX1_bare_33 : decode cX1_bare 33 = .ok (.ifCond .eq 39, 3) := by decide +kernel
theorem dX1_bare_36 : decode cX1_bare 36 = .ok (.iload_n 2, 1) := by decide +kernel
theorem dX1_bare_37 : decode cX1_bare 37 = .ok (.iload 4, 2) := by decide +kernel
theorem dX1_bare_39 : decode cX1_bare 39 = .ok (.ishr, 1) := by decide +kernel
theorem dX1_bare_40 : decode cX1_bare 40 = .ok (.iconst 1, 1) := by decide +kernel
theorem dX1_bare_41 : decode cX1_bare 41 = .ok (.iand, 1) := by decide +kernel
theorem dX1_bare_42 : decode cX1_bare 42 = .ok (.ifCond .eq 18, 3) := by decide +kernel
theorem dX1_bare_45 : decode cX1_bare 45 = .ok (.aload_n 0, 1) := by decide +kernel
theorem dX1_bare_46 : decode cX1_bare 46 = .ok (.iload_n 2, 1) := by decide +kernel
theorem dX1_bare_47 : decode cX1_bare 47 = .ok (.iconst 1, 1) := by decide +kernel
theorem dX1_bare_48 : decode cX1_bare 48 = .ok (.iload 4, 2) := by decide +kernel
theorem dX1_bare_50 : decode cX1_bare 50 = .ok (.ishl, 1) := by decide +kernel
theorem dX1_bare_51 : decode cX1_bare 51 = .ok (.iconst (-1), 1) := by decide +kernel
theorem dX1_bare_52 : decode cX1_bare 52 = .ok (.ixor, 1) := by decide +kernel
theorem dX1_bare_53 : decode cX1_bare 53 = .ok (.iand, 1) := by decide +kernel
theorem dX1_bare_54 : decode cX1_bare 54 = .ok (.invokevirtual 44, 3) := by decide +kernel
theorem dX1_bare_57 : decode cX1_bare 57 = .ok (.ifCond .ne 7, 3) := by decide +kernel
theorem dX1_bare_60 : decode cX1_bare 60 = .ok (.iconst 1, 1) := by decide +kernel
theorem dX1_bare_61 : decode cX1_bare 61 = .ok (.goto 4, 3) := by decide +kernel
theorem dX1_bare_64 : decode cX1_bare 64 = .ok (.iconst 0, 1) := by decide +kernel
theorem dX1_bare_65 : decode cX1_bare 65 = .ok (.istore_n 3, 1) := by decide +kernel
theorem dX1_bare_66 : decode cX1_bare 66 = .ok (.iinc 4 1, 3) := by decide +kernel
theorem dX1_bare_69 : decode cX1_bare 69 = .ok (.goto (-44), 3) := by decide +kernel
theorem dX1_bare_72 : decode cX1_bare 72 = .ok (.iload_n 3, 1) := by decide +kernel
theorem dX1_bare_73 : decode cX1_bare 73 = .ok (.ifCond .eq 6, 3) := by decide +kernel
theorem dX1_bare_76 : decode cX1_bare 76 = .ok (.iinc 1 1, 3) := by decide +kernel
theorem dX1_bare_79 : decode cX1_bare 79 = .ok (.iinc 2 1, 3) := by decide +kernel
theorem dX1_bare_82 : decode cX1_bare 82 = .ok (.goto (-73), 3) := by decide +kernel
theorem dX1_bare_85 : decode cX1_bare 85 = .ok (.iload_n 1, 1) := by decide +kernel
theorem dX1_bare_86 : decode cX1_bare 86 = .ok (.ireturn, 1) := by decide +kernel
theorem dX1_about_0 : decode cX1_about 0 = .ok (.aload_n 0, 1) := by decide +kernel
theorem dX1_about_1 : decode cX1_about 1 = .ok (.iload_n 1, 1) := by decide +kernel
theorem dX1_about_2 : decode cX1_about 2 = .ok (.bipush 10, 2) := by decide +kernel
theorem dX1_about_4 : decode cX1_about 4 = .ok (.invokestatic 26, 3) := by decide +kernel
theorem dX1_about_7 : decode cX1_about 7 = .ok (.ifCond .eq 7, 3) := by decide +kernel
theorem dX1_about_10 : decode cX1_about 10 = .ok (.iconst 1, 1) := by decide +kernel
theorem dX1_about_11 : decode cX1_about 11 = .ok (.goto 17, 3) := by decide +kernel
theorem dX1_about_14 : decode cX1_about 14 = .ok (.iload_n 2, 1) := by decide +kernel
theorem dX1_about_15 : decode cX1_about 15 = .ok (.ifCond .lt 8, 3) := by decide +kernel
theorem dX1_about_18 : decode cX1_about 18 = .ok (.iload_n 2, 1) := by decide +kernel
theorem dX1_about_19 : decode cX1_about 19 = .ok (.iconst 3, 1) := by decide +kernel
theorem dX1_about_20 : decode cX1_about 20 = .ok (.if_icmp .le 7, 3) := by decide +kernel
theorem dX1_about_23 : decode cX1_about 23 = .ok (.iconst 2, 1) := by decide +kernel
theorem dX1_about_24 : decode cX1_about 24 = .ok (.goto 4, 3) := by decide +kernel
theorem dX1_about_27 : decode cX1_about 27 = .ok (.iconst 0, 1) := by decide +kernel
theorem dX1_about_28 : decode cX1_about 28 = .ok (.putfield 23, 3) := by decide +kernel
theorem dX1_about_31 : decode cX1_about 31 = .ok (.aload_n 0, 1) := by decide +kernel
theorem dX1_about_32 : decode cX1_about 32 = .ok (.getfield 23, 3) := by decide +kernel
theorem dX1_about_35 : decode cX1_about 35 = .ok (.ifCond .le 5, 3) := by decide +kernel
theorem dX1_about_38 : decode cX1_about 38 = .ok (.iconst 0, 1) := by decide +kernel
theorem dX1_about_39 : decode cX1_about 39 = .ok (.ireturn, 1) := by decide +kernel
theorem dX1_about_40 : decode cX1_about 40 = .ok (.iload_n 2, 1) := by decide +kernel
theorem dX1_about_41 : decode cX1_about 41 = .ok (.ifCond .ne 10, 3) := by decide +kernel
theorem dX1_about_44 : decode cX1_about 44 = .ok (.aload_n 0, 1) := by decide +kernel
theorem dX1_about_45 : decode cX1_about 45 = .ok (.getfield 9, 3) := by decide +kernel
theorem dX1_about_48 : decode cX1_about 48 = .ok (.iload_n 1, 1) := by decide +kernel
theorem dX1_about_49 : decode cX1_about 49 = .ok (.iaload, 1) := by decide +kernel
theorem dX1_about_50 : decode cX1_about 50 = .ok (.ireturn, 1) := by decide +kernel
theorem dX1_about_51 : decode cX1_about 51 = .ok (.iload_n 2, 1) := by decide +kernel
theorem dX1_about_52 : decode cX1_about 52 = .ok (.iconst 1, 1) := by decide +kernel
theorem dX1_about_53 : decode cX1_about 53 = .ok (.if_icmp .ne 10, 3) := by decide +kernel
theorem dX1_about_56 : decode cX1_about 56 = .ok (.aload_n 0, 1) := by decide +kernel
theorem dX1_about_57 : decode cX1_about 57 = .ok (.getfield 13, 3) := by decide +kernel
theorem dX1_about_60 : decode cX1_about 60 = .ok (.iload_n 1, 1) := by decide +kernel
theorem dX1_about_61 : decode cX1_about 61 = .ok (.iaload, 1) := by decide +kernel
theorem dX1_about_62 : decode cX1_about 62 = .ok (.ireturn, 1) := by decide +kernel
theorem dX1_about_63 : decode cX1_about 63 = .ok (.iconst 0, 1) := by decide +kernel
theorem dX1_about_64 : decode cX1_about 64 = .ok (.istore_n 3, 1) := by decide +kernel
theorem dX1_about_65 : decode cX1_about 65 = .ok (.iconst (-1), 1) := by decide +kernel
theorem dX1_about_66 : decode cX1_about 66 = .ok (.istore 4, 2) := by decide +kernel
theorem dX1_about_68 : decode cX1_about 68 = .ok (.iconst 0, 1) := by decide +kernel
theorem dX1_about_69 : decode cX1_about 69 = .ok (.istore 5, 2) := by decide +kernel
theorem dX1_about_71 : decode cX1_about 71 = .ok (.iload 5, 2) := by decide +kernel
theorem dX1_about_73 : decode cX1_about 73 = .ok (.bipush 31, 2) := by decide +kernel
theorem dX1_about_75 : decode cX1_about 75 = .ok (.if_icmp .ge 30, 3) := by decide +kernel
theorem dX1_about_78 : decode cX1_about 78 = .ok (.aload_n 0, 1) := by decide +kernel
theorem dX1_about_79 : decode cX1_about 79 = .ok (.iload_n 1, 1) := by decide +kernel
theorem dX1_about_80 : decode cX1_about 80 = .ok (.iload 5, 2) := by decide +kernel
theorem dX1_about_82 : decode cX1_about 82 = .ok (.invokevirtual 34, 3) := by decide +kernel
theorem dX1_about_85 : decode cX1_about 85 = .ok (.iconst (-1), 1) := by decide +kernel
theorem dX1_about_86 : decode cX1_about 86 = .ok (.if_icmp .ne 6, 3) := by decide +kernel
theorem dX1_about_89 : decode cX1_about 89 = .ok (.goto 10, 3) := by decide +kernel
theorem dX1_about_92 : decode cX1_about 92 = .ok (.iinc 3 1, 3) := by decide +kernel
theorem dX1_about_95 : decode cX1_about 95 = .ok (.iload 5, 2) := by decide +kernel
theorem dX1_about_97 : decode cX1_about 97 = .ok (.istore 4, 2) := by decide +kernel
theorem dX1_about_99 : decode cX1_about 99 = .ok (.iinc 5 1, 3) := by decide +kernel
theorem dX1_about_102 : decode cX1_about 102 = .ok (.goto (-31), 3) := by decide +kernel
theorem dX1_about_105 : decode cX1_about 105 = .ok (.iload_n 2, 1) := by decide +kernel
theorem dX1_about_106 : decode cX1_about 106 = .ok (.iconst 2, 1) := by decide +kernel
theorem dX1_about_107 : decode cX1_about 107 = .ok (.if_icmp .ne 7, 3) := by decide +kernel
theorem dX1_about_110 : decode cX1_about 110 = .ok (.iload_n 3, 1) := by decide +kernel
theorem dX1_about_111 : decode cX1_about 111 = .ok (.goto 5, 3) := by decide +kernel
theorem dX1_about_114 : decode cX1_about 114 = .ok (.iload 4, 2) := by decide +kernel
theorem dX1_about_116 : decode cX1_about 116 = .ok (.ireturn, 1) := by decide +kernel
theorem dX1_count_0 : decode cX1_count 0 = .ok (.aload_n 0, 1) := by decide +kernel
theorem dX1_count_1 : decode cX1_count 1 = .ok (.iconst 0, 1) := by decide +kernel
theorem dX1_count_2 : decode cX1_count 2 = .ok (.putfield 23, 3) := by decide +kernel
theorem dX1_count_5 : decode cX1_count 5 = .ok (.iconst 0, 1) := by decide +kernel
theorem dX1_count_6 : decode cX1_count 6 = .ok (.istore_n 2, 1) := by decide +kernel
theorem dX1_count_7 : decode cX1_count 7 = .ok (.iload_n 1, 1) := by decide +kernel
theorem dX1_count_8 : decode cX1_count 8 = .ok (.tableswitch 187 0 4 #[36, 41, 66, 96, 124], 36) := by decide +kernel
theorem dX1_count_44 : decode cX1_count 44 = .ok (.aload_n 0, 1) := by decide +kernel
theorem dX1_count_45 : decode cX1_count 45 = .ok (.getfield 19, 3) := by decide +kernel
theorem dX1_count_48 : decode cX1_count 48 = .ok (.ireturn, 1) := by decide +kernel
theorem dX1_count_49 : decode cX1_count 49 = .ok (.iconst 0, 1) := by decide +kernel
theorem dX1_count_50 : decode cX1_count 50 = .ok (.istore_n 3, 1) := by decide +kernel
theorem dX1_count_51 : decode cX1_count 51 = .ok (.iload_n 3, 1) := by decide +kernel
theorem dX1_count_52 : decode cX1_count 52 = .ok (.bipush 10, 2) := by decide +kernel
theorem dX1_count_54 : decode cX1_count 54 = .ok (.if_icmp .ge 18, 3) := by decide +kernel
theorem dX1_count_57 : decode cX1_count 57 = .ok (.iload_n 2, 1) := by decide +kernel
theorem dX1_count_58 : decode cX1_count 58 = .ok (.aload_n 0, 1) := by decide +kernel
theorem dX1_count_59 : decode cX1_count 59 = .ok (.getfield 9, 3) := by decide +kernel
theorem dX1_count_62 : decode cX1_count 62 = .ok (.iload_n 3, 1) := by decide +kernel
theorem dX1_count_63 : decode cX1_count 63 = .ok (.iaload, 1) := by decide +kernel
theorem dX1_count_64 : decode cX1_count 64 = .ok (.iadd, 1) := by decide +kernel
theorem dX1_count_65 : decode cX1_count 65 = .ok (.istore_n 2, 1) := by decide +kernel
theorem dX1_count_66 : decode cX1_count 66 = .ok (.iinc 3 1, 3) := by decide +kernel
theorem dX1_count_69 : decode cX1_count 69 = .ok (.goto (-18), 3) := by decide +kernel
theorem dX1_count_72 : decode cX1_count 72 = .ok (.iload_n 2, 1) := by decide +kernel
theorem dX1_count_73 : decode cX1_count 73 = .ok (.ireturn, 1) := by decide +kernel
theorem dX1_count_74 : decode cX1_count 74 = .ok (.iconst 0, 1) := by decide +kernel
theorem dX1_count_75 : decode cX1_count 75 = .ok (.istore_n 3, 1) := by decide +kernel
theorem dX1_count_76 : decode cX1_count 76 = .ok (.iload_n 3, 1) := by decide +kernel
theorem dX1_count_77 : decode cX1_count 77 = .ok (.sipush 310, 3) := by decide +kernel
theorem dX1_count_80 : decode cX1_count 80 = .ok (.if_icmp .ge 22, 3) := by decide +kernel
theorem dX1_count_83 : decode cX1_count 83 = .ok (.aload_n 0, 1) := by decide +kernel
theorem dX1_count_84 : decode cX1_count 84 = .ok (.getfield 16, 3) := by decide +kernel
theorem dX1_count_87 : decode cX1_count 87 = .ok (.iload_n 3, 1) := by decide +kernel
theorem dX1_count_88 : decode cX1_count 88 = .ok (.iaload, 1) := by decide +kernel
theorem dX1_count_89 : decode cX1_count 89 = .ok (.iconst (-1), 1) := by decide +kernel
theorem dX1_count_90 : decode cX1_count 90 = .ok (.if_icmp .eq 6, 3) := by decide +kernel
theorem dX1_count_93 : decode cX1_count 93 = .ok (.iinc 2 1, 3) := by decide +kernel
theorem dX1_count_96 : decode cX1_count 96 = .ok (.iinc 3 1, 3) := by decide +kernel
theorem dX1_count_99 : decode cX1_count 99 = .ok (.goto (-23), 3) := by decide +kernel
theorem dX1_count_102 : decode cX1_count 102 = .ok (.iload_n 2, 1) := by decide +kernel
theorem dX1_count_103 : decode cX1_count 103 = .ok (.ireturn, 1) := by decide +kernel
theorem dX1_count_104 : decode cX1_count 104 = .ok (.iconst 0, 1) := by decide +kernel
theorem dX1_count_105 : decode cX1_count 105 = .ok (.istore_n 3, 1) := by decide +kernel
theorem dX1_count_106 : decode cX1_count 106 = .ok (.iload_n 3, 1) := by decide +kernel
theorem dX1_count_107 : decode cX1_count 107 = .ok (.bipush 31, 2) := by decide +kernel
theorem dX1_count_109 : decode cX1_count 109 = .ok (.if_icmp .ge 21, 3) := by decide +kernel
theorem dX1_count_112 : decode cX1_count 112 = .ok (.aload_n 0, 1) := by decide +kernel
theorem dX1_count_113 : decode cX1_count 113 = .ok (.iload_n 3, 1) := by decide +kernel
theorem dX1_count_114 : decode cX1_count 114 = .ok (.invokevirtual 48, 3) := by decide +kernel
theorem dX1_count_117 : decode cX1_count 117 = .ok (.iconst (-1), 1) := by decide +kernel
theorem dX1_count_118 : decode cX1_count 118 = .ok (.if_icmp .eq 6, 3) := by decide +kernel
theorem dX1_count_121 : decode cX1_count 121 = .ok (.iinc 2 1, 3) := by decide +kernel
theorem dX1_count_124 : decode cX1_count 124 = .ok (.iinc 3 1, 3) := by decide +kernel
theorem dX1_count_127 : decode cX1_count 127 = .ok (.goto (-21), 3) := by decide +kernel
theorem dX1_count_130 : decode cX1_count 130 = .ok (.iload_n 2, 1) := by decide +kernel
theorem dX1_count_131 : decode cX1_count 131 = .ok (.ireturn, 1) := by decide +kernel
theorem dX1_count_132 : decode cX1_count 132 = .ok (.iconst 0, 1) := by decide +kernel
theorem dX1_count_133 : decode cX1_count 133 = .ok (.istore_n 3, 1) := by decide +kernel
theorem dX1_count_134 : decode cX1_count 134 = .ok (.iload_n 3, 1) := by decide +kernel
theorem dX1_count_135 : decode cX1_count 135 = .ok (.bipush 10, 2) := by decide +kernel
theorem dX1_count_137 : decode cX1_count 137 = .ok (.if_icmp .ge 56, 3) := by decide +kernel
theorem dX1_count_140 : decode cX1_count 140 = .ok (.iconst 0, 1) := by decide +kernel
theorem dX1_count_141 : decode cX1_count 141 = .ok (.istore 4, 2) := by decide +kernel
theorem dX1_count_143 : decode cX1_count 143 = .ok (.iconst 0, 1) := by decide +kernel
theorem dX1_count_144 : decode cX1_count 144 = .ok (.istore 5, 2) := by decide +kernel
theorem dX1_count_146 : decode cX1_count 146 = .ok (.iload 5, 2) := by decide +kernel
theorem dX1_count_148 : decode cX1_count 148 = .ok (.bipush 31, 2) := by decide +kernel
theorem dX1_count_150 : decode cX1_count 150 = .ok (.if_icmp .ge 29, 3) := by decide +kernel
theorem dX1_count_153 : decode cX1_count 153 = .ok (.iload 4, 2) := by decide +kernel
theorem dX1_count_155 : decode cX1_count 155 = .ok (.aload_n 0, 1) := by decide +kernel
theorem dX1_count_156 : decode cX1_count 156 = .ok (.iload 5, 2) := by decide +kernel
theorem dX1_count_158 : decode cX1_count 158 = .ok (.invokevirtual 48, 3) := by decide +kernel
theorem dX1_count_161 : decode cX1_count 161 = .ok (.iload_n 3, 1) := by decide +kernel
theorem dX1_count_162 : decode cX1_count 162 = .ok (.if_icmp .ne 7, 3) := by decide +kernel
theorem dX1_count_165 : decode cX1_count 165 = .ok (.iconst 1, 1) := by decide +kernel
theorem dX1_count_166 : decode cX1_count 166 = .ok (.goto 4, 3) := by decide +kernel
theorem dX1_count_169 : decode cX1_count 169 = .ok (.iconst 0, 1) := by decide +kernel
theorem dX1_count_170 : decode cX1_count 170 = .ok (.ior, 1) := by decide +kernel
theorem dX1_count_171 : decode cX1_count 171 = .ok (.istore 4, 2) := by decide +kernel
theorem dX1_count_173 : decode cX1_count 173 = .ok (.iinc 5 1, 3) := by decide +kernel
theorem dX1_count_176 : decode cX1_count 176 = .ok (.goto (-30), 3) := by decide +kernel
theorem dX1_count_179 : decode cX1_count 179 = .ok (.iload 4, 2) := by decide +kernel
theorem dX1_count_181 : decode cX1_count 181 = .ok (.ifCond .eq 6, 3) := by decide +kernel
theorem dX1_count_184 : decode cX1_count 184 = .ok (.iinc 2 1, 3) := by decide +kernel
theorem dX1_count_187 : decode cX1_count 187 = .ok (.iinc 3 1, 3) := by decide +kernel
theorem dX1_count_190 : decode cX1_count 190 = .ok (.goto (-56), 3) := by decide +kernel
theorem dX1_count_193 : decode cX1_count 193 = .ok (.iload_n 2, 1) := by decide +kernel
theorem dX1_count_194 : decode cX1_count 194 = .ok (.ireturn, 1) := by decide +kernel
theorem dX1_count_195 : decode cX1_count 195 = .ok (.iconst (-1), 1) := by decide +kernel
theorem dX1_count_196 : decode cX1_count 196 = .ok (.ireturn, 1) := by decide +kernel
end
section
theorem bb_t115 : Cond.code yX0_requireNode prog_1_method_19_code 1 none ∈ bb_T := bb_tb 115 (by decide +kernel) (by decide +kernel)
theorem bb_t113 : Cond.methodLink "BallotBox" 32 yX0_requireNode ∈ bb_T := bb_tb 113 (by decide +kernel) (by decide +kernel)
theorem bb_t114 : Cond.static yX0_requireNode ∈ bb_T := bb_tb 114 (by decide +kernel) (by decide +kernel)
theorem bb_t1 : Cond.initialized "BallotBox" ∈ bb_T := bb_tb 1 (by decide +kernel) (by decide +kernel)
theorem gX0_weight_X0_requireNode : GoodIn wsX0_weight (wsS RX0 32 yX0_requireNode wsX0_requireNode) := bb_gS bb_t113 bb_t114 bb_t1 bb_t115
theorem gX0_promise_X0_requireNode : GoodIn wsX0_promise (wsS RX0 32 yX0_requireNode wsX0_requireNode) := bb_gS bb_t113 bb_t114 bb_t1 bb_t115
theorem bb_t218 : Cond.code yX0_requireBallot prog_1_method_21_code 1 none ∈ bb_T := bb_tb 218 (by decide +kernel) (by decide +kernel)
theorem bb_t216 : Cond.methodLink "BallotBox" 45 yX0_requireBallot ∈ bb_T := bb_tb 216 (by decide +kernel) (by decide +kernel)
theorem bb_t217 : Cond.static yX0_requireBallot ∈ bb_T := bb_tb 217 (by decide +kernel) (by decide +kernel)
theorem gX0_promise_X0_requireBallot : GoodIn wsX0_promise (wsS RX0 45 yX0_requireBallot wsX0_requireBallot) := bb_gS bb_t216 bb_t217 bb_t1 bb_t218
theorem gX0_vote_X0_requireNode : GoodIn wsX0_vote (wsS RX0 32 yX0_requireNode wsX0_requireNode) := bb_gS bb_t113 bb_t114 bb_t1 bb_t115
theorem gX0_vote_X0_requireBallot : GoodIn wsX0_vote (wsS RX0 45 yX0_requireBallot wsX0_requireBallot) := bb_gS bb_t216 bb_t217 bb_t1 bb_t218
theorem bb_t245 : Cond.code yX0_requireValue prog_1_method_22_code 1 none ∈ bb_T := bb_tb 245 (by decide +kernel) (by decide +kernel)
theorem bb_t243 : Cond.methodLink "BallotBox" 53 yX0_requireValue ∈ bb_T := bb_tb 243 (by decide +kernel) (by decide +kernel)
theorem bb_t244 : Cond.static yX0_requireValue ∈ bb_T := bb_tb 244 (by decide +kernel) (by decide +kernel)
theorem gX0_vote_X0_requireValue : GoodIn wsX0_vote (wsS RX0 53 yX0_requireValue wsX0_requireValue) := bb_gS bb_t243 bb_t244 bb_t1 bb_t245
theorem bb_t250 : Cond.code yX0_isOpen prog_1_method_28_code 3 (some .boolean) ∈ bb_T := bb_tb 250 (by decide +kernel) (by decide +kernel)
theorem bb_t247 : Cond.methodLink "BallotBox" 56 yX0_isOpen ∈ bb_T := bb_tb 247 (by decide +kernel) (by decide +kernel)
theorem bb_t249 : Cond.instanceMethod yX0_isOpen ∈ bb_T := bb_tb 249 (by decide +kernel) (by decide +kernel)
theorem bb_sX0_isOpen : Cond.selects RX0 yX0_isOpen yX0_isOpen ∈ bb_T := bb_ts (q := (yX0_isOpen, 5)) (List.mem_of_getElem? (i := 9) (by decide +kernel))
theorem gX0_vote_X0_isOpen : GoodIn wsX0_vote (wsV RX0 56 RX0 yX0_isOpen wsX0_isOpen) := bb_gV bb_t247 bb_t249 bb_sX0_isOpen bb_t1 bb_t250
theorem bb_t255 : Cond.code yX0_isOnlyValue prog_1_method_30_code 3 (some .boolean) ∈ bb_T := bb_tb 255 (by decide +kernel) (by decide +kernel)
theorem bb_t252 : Cond.methodLink "BallotBox" 62 yX0_isOnlyValue ∈ bb_T := bb_tb 252 (by decide +kernel) (by decide +kernel)
theorem bb_t254 : Cond.instanceMethod yX0_isOnlyValue ∈ bb_T := bb_tb 254 (by decide +kernel) (by decide +kernel)
theorem bb_sX0_isOnlyValue : Cond.selects RX0 yX0_isOnlyValue yX0_isOnlyValue ∈ bb_T := bb_ts (q := (yX0_isOnlyValue, 5)) (List.mem_of_getElem? (i := 10) (by decide +kernel))
theorem gX0_vote_X0_isOnlyValue : GoodIn wsX0_vote (wsV RX0 62 RX0 yX0_isOnlyValue wsX0_isOnlyValue) := bb_gV bb_t252 bb_t254 bb_sX0_isOnlyValue bb_t1 bb_t255
theorem bb_t61 : Cond.code yJ_bitCount prog_7_method_49_code 1 (some .int) ∈ bb_T := bb_tb 61 (by decide +kernel) (by decide +kernel)
theorem bb_t59 : Cond.methodLink "BallotBox" 67 yJ_bitCount ∈ bb_T := bb_tb 59 (by decide +kernel) (by decide +kernel)
theorem bb_t60 : Cond.static yJ_bitCount ∈ bb_T := bb_tb 60 (by decide +kernel) (by decide +kernel)
theorem bb_t10 : Cond.initialized "java/lang/Integer" ∈ bb_T := bb_tb 10 (by decide +kernel) (by decide +kernel)
theorem gX0_vote_J_bitCount : GoodIn wsX0_vote (va_wsS RX0 67 yJ_bitCount wsJ_bitCount) := bb_gA bb_t59 bb_t60 bb_t10 bb_t61
theorem bb_t266 : Cond.code yX0_requireSet prog_1_method_20_code 1 none ∈ bb_T := bb_tb 266 (by decide +kernel) (by decide +kernel)
theorem bb_t264 : Cond.methodLink "BallotBox" 73 yX0_requireSet ∈ bb_T := bb_tb 264 (by decide +kernel) (by decide +kernel)
theorem bb_t265 : Cond.static yX0_requireSet ∈ bb_T := bb_tb 265 (by decide +kernel) (by decide +kernel)
theorem gX0_ask_X0_requireSet : GoodIn wsX0_ask (wsS RX0 73 yX0_requireSet wsX0_requireSet) := bb_gS bb_t264 bb_t265 bb_t1 bb_t266
theorem gX0_ask_X0_requireBallot : GoodIn wsX0_ask (wsS RX0 45 yX0_requireBallot wsX0_requireBallot) := bb_gS bb_t216 bb_t217 bb_t1 bb_t218
theorem bb_t47 : Cond.code yX0_isEnough prog_1_method_25_code 2 (some .boolean) ∈ bb_T := bb_tb 47 (by decide +kernel) (by decide +kernel)
theorem bb_t44 : Cond.methodLink "BallotBox" 76 yX0_isEnough ∈ bb_T := bb_tb 44 (by decide +kernel) (by decide +kernel)
theorem bb_t46 : Cond.instanceMethod yX0_isEnough ∈ bb_T := bb_tb 46 (by decide +kernel) (by decide +kernel)
theorem bb_sX0_isEnough : Cond.selects RX0 yX0_isEnough yX0_isEnough ∈ bb_T := bb_ts (q := (yX0_isEnough, 5)) (List.mem_of_getElem? (i := 0) (by decide +kernel))
theorem gX0_ask_X0_isEnough : GoodIn wsX0_ask (wsV RX0 76 RX0 yX0_isEnough wsX0_isEnough) := bb_gV bb_t44 bb_t46 bb_sX0_isEnough bb_t1 bb_t47
theorem bb_t272 : Cond.code yX0_highestPromise prog_1_method_34_code 4 (some .int) ∈ bb_T := bb_tb 272 (by decide +kernel) (by decide +kernel)
theorem bb_t269 : Cond.methodLink "BallotBox" 82 yX0_highestPromise ∈ bb_T := bb_tb 269 (by decide +kernel) (by decide +kernel)
theorem bb_t271 : Cond.instanceMethod yX0_highestPromise ∈ bb_T := bb_tb 271 (by decide +kernel) (by decide +kernel)
theorem bb_sX0_highestPromise : Cond.selects RX0 yX0_highestPromise yX0_highestPromise ∈ bb_T := bb_ts (q := (yX0_highestPromise, 5)) (List.mem_of_getElem? (i := 11) (by decide +kernel))
theorem gX0_ask_X0_highestPromise : GoodIn wsX0_ask (wsV RX0 82 RX0 yX0_highestPromise wsX0_highestPromise) := bb_gV bb_t269 bb_t271 bb_sX0_highestPromise bb_t1 bb_t272
theorem bb_t280 : Cond.code yX0_promiseAll prog_1_method_35_code 4 none ∈ bb_T := bb_tb 280 (by decide +kernel) (by decide +kernel)
theorem bb_t277 : Cond.methodLink "BallotBox" 87 yX0_promiseAll ∈ bb_T := bb_tb 277 (by decide +kernel) (by decide +kernel)
theorem bb_t279 : Cond.instanceMethod yX0_promiseAll ∈ bb_T := bb_tb 279 (by decide +kernel) (by decide +kernel)
theorem bb_sX0_promiseAll : Cond.selects RX0 yX0_promiseAll yX0_promiseAll ∈ bb_T := bb_ts (q := (yX0_promiseAll, 5)) (List.mem_of_getElem? (i := 12) (by decide +kernel))
theorem gX0_ask_X0_promiseAll : GoodIn wsX0_ask (wsV RX0 87 RX0 yX0_promiseAll wsX0_promiseAll) := bb_gV bb_t277 bb_t279 bb_sX0_promiseAll bb_t1 bb_t280
theorem bb_t284 : Cond.code yX0_lastBallotBelow prog_1_method_36_code 4 (some .int) ∈ bb_T := bb_tb 284 (by decide +kernel) (by decide +kernel)
theorem bb_t281 : Cond.methodLink "BallotBox" 91 yX0_lastBallotBelow ∈ bb_T := bb_tb 281 (by decide +kernel) (by decide +kernel)
theorem bb_t283 : Cond.instanceMethod yX0_lastBallotBelow ∈ bb_T := bb_tb 283 (by decide +kernel) (by decide +kernel)
theorem bb_sX0_lastBallotBelow : Cond.selects RX0 yX0_lastBallotBelow yX0_lastBallotBelow ∈ bb_T := bb_ts (q := (yX0_lastBallotBelow, 5)) (List.mem_of_getElem? (i := 13) (by decide +kernel))
theorem gX0_ask_X0_lastBallotBelow : GoodIn wsX0_ask (wsV RX0 91 RX0 yX0_lastBallotBelow wsX0_lastBallotBelow) := bb_gV bb_t281 bb_t283 bb_sX0_lastBallotBelow bb_t1 bb_t284
theorem gX0_chosen_X0_requireBallot : GoodIn wsX0_chosen (wsS RX0 45 yX0_requireBallot wsX0_requireBallot) := bb_gS bb_t216 bb_t217 bb_t1 bb_t218
theorem bb_t99 : Cond.code yX0_chosenValue prog_1_method_33_code 2 (some .int) ∈ bb_T := bb_tb 99 (by decide +kernel) (by decide +kernel)
theorem bb_t96 : Cond.methodLink "BallotBox" 95 yX0_chosenValue ∈ bb_T := bb_tb 96 (by decide +kernel) (by decide +kernel)
theorem bb_t98 : Cond.instanceMethod yX0_chosenValue ∈ bb_T := bb_tb 98 (by decide +kernel) (by decide +kernel)
theorem bb_sX0_chosenValue : Cond.selects RX0 yX0_chosenValue yX0_chosenValue ∈ bb_T := bb_ts (q := (yX0_chosenValue, 5)) (List.mem_of_getElem? (i := 6) (by decide +kernel))
theorem gX0_chosen_X0_chosenValue : GoodIn wsX0_chosen (wsV RX0 95 RX0 yX0_chosenValue wsX0_chosenValue) := bb_gV bb_t96 bb_t98 bb_sX0_chosenValue bb_t1 bb_t99
theorem gX0_can_X0_requireBallot : GoodIn wsX0_can (wsS RX0 45 yX0_requireBallot wsX0_requireBallot) := bb_gS bb_t216 bb_t217 bb_t1 bb_t218
theorem gX0_can_X0_requireValue : GoodIn wsX0_can (wsS RX0 53 yX0_requireValue wsX0_requireValue) := bb_gS bb_t243 bb_t244 bb_t1 bb_t245
theorem gX0_can_X0_isOnlyValue : GoodIn wsX0_can (wsV RX0 62 RX0 yX0_isOnlyValue wsX0_isOnlyValue) := bb_gV bb_t252 bb_t254 bb_sX0_isOnlyValue bb_t1 bb_t255
theorem bb_t302 : Cond.code yX0_hasWayToChoose prog_1_method_31_code 2 (some .boolean) ∈ bb_T := bb_tb 302 (by decide +kernel) (by decide +kernel)
theorem bb_t299 : Cond.methodLink "BallotBox" 98 yX0_hasWayToChoose ∈ bb_T := bb_tb 299 (by decide +kernel) (by decide +kernel)
theorem bb_t301 : Cond.instanceMethod yX0_hasWayToChoose ∈ bb_T := bb_tb 301 (by decide +kernel) (by decide +kernel)
theorem bb_sX0_hasWayToChoose : Cond.selects RX0 yX0_hasWayToChoose yX0_hasWayToChoose ∈ bb_T := bb_ts (q := (yX0_hasWayToChoose, 5)) (List.mem_of_getElem? (i := 14) (by decide +kernel))
theorem gX0_can_X0_hasWayToChoose : GoodIn wsX0_can (wsV RX0 98 RX0 yX0_hasWayToChoose wsX0_hasWayToChoose) := bb_gV bb_t299 bb_t301 bb_sX0_hasWayToChoose bb_t1 bb_t302
theorem gX0_safe_X0_requireBallot : GoodIn wsX0_safe (wsS RX0 45 yX0_requireBallot wsX0_requireBallot) := bb_gS bb_t216 bb_t217 bb_t1 bb_t218
theorem gX0_safe_X0_requireValue : GoodIn wsX0_safe (wsS RX0 53 yX0_requireValue wsX0_requireValue) := bb_gS bb_t243 bb_t244 bb_t1 bb_t245
theorem bb_t317 : Cond.code yX0_isSafe prog_1_method_32_code 4 (some .boolean) ∈ bb_T := bb_tb 317 (by decide +kernel) (by decide +kernel)
theorem bb_t314 : Cond.methodLink "BallotBox" 101 yX0_isSafe ∈ bb_T := bb_tb 314 (by decide +kernel) (by decide +kernel)
theorem bb_t316 : Cond.instanceMethod yX0_isSafe ∈ bb_T := bb_tb 316 (by decide +kernel) (by decide +kernel)
theorem bb_sX0_isSafe : Cond.selects RX0 yX0_isSafe yX0_isSafe ∈ bb_T := bb_ts (q := (yX0_isSafe, 5)) (List.mem_of_getElem? (i := 16) (by decide +kernel))
theorem gX0_safe_X0_isSafe : GoodIn wsX0_safe (wsV RX0 101 RX0 yX0_isSafe wsX0_isSafe) := bb_gV bb_t314 bb_t316 bb_sX0_isSafe bb_t1 bb_t317
theorem gX0_free_X0_requireBallot : GoodIn wsX0_free (wsS RX0 45 yX0_requireBallot wsX0_requireBallot) := bb_gS bb_t216 bb_t217 bb_t1 bb_t218
theorem gX0_free_X0_isSafe : GoodIn wsX0_free (wsV RX0 101 RX0 yX0_isSafe wsX0_isSafe) := bb_gV bb_t314 bb_t316 bb_sX0_isSafe bb_t1 bb_t317
theorem gX0_enough_X0_requireSet : GoodIn wsX0_enough (wsS RX0 73 yX0_requireSet wsX0_requireSet) := bb_gS bb_t264 bb_t265 bb_t1 bb_t266
theorem gX0_enough_X0_isEnough : GoodIn wsX0_enough (wsV RX0 76 RX0 yX0_isEnough wsX0_isEnough) := bb_gV bb_t44 bb_t46 bb_sX0_isEnough bb_t1 bb_t47
theorem gX0_blocks_X0_requireSet : GoodIn wsX0_blocks (wsS RX0 73 yX0_requireSet wsX0_requireSet) := bb_gS bb_t264 bb_t265 bb_t1 bb_t266
theorem gX0_blocks_X0_isEnough : GoodIn wsX0_blocks (wsV RX0 76 RX0 yX0_isEnough wsX0_isEnough) := bb_gV bb_t44 bb_t46 bb_sX0_isEnough bb_t1 bb_t47
theorem gX0_sets_X0_isEnough : GoodIn wsX0_sets (wsV RX0 76 RX0 yX0_isEnough wsX0_isEnough) := bb_gV bb_t44 bb_t46 bb_sX0_isEnough bb_t1 bb_t47
theorem gX0_least_J_bitCount : GoodIn wsX0_least (va_wsS RX0 67 yJ_bitCount wsJ_bitCount) := bb_gA bb_t59 bb_t60 bb_t10 bb_t61
theorem gX0_least_X0_isEnough : GoodIn wsX0_least (wsV RX0 76 RX0 yX0_isEnough wsX0_isEnough) := bb_gV bb_t44 bb_t46 bb_sX0_isEnough bb_t1 bb_t47
theorem gX0_meet_X0_isEnough : GoodIn wsX0_meet (wsV RX0 76 RX0 yX0_isEnough wsX0_isEnough) := bb_gV bb_t44 bb_t46 bb_sX0_isEnough bb_t1 bb_t47
theorem bb_t76 : Cond.code yX0_isBare prog_1_method_26_code 3 (some .boolean) ∈ bb_T := bb_tb 76 (by decide +kernel) (by decide +kernel)
theorem bb_t73 : Cond.methodLink "BallotBox" 104 yX0_isBare ∈ bb_T := bb_tb 73 (by decide +kernel) (by decide +kernel)
theorem bb_t75 : Cond.instanceMethod yX0_isBare ∈ bb_T := bb_tb 75 (by decide +kernel) (by decide +kernel)
theorem bb_sX0_isBare : Cond.selects RX0 yX0_isBare yX0_isBare ∈ bb_T := bb_ts (q := (yX0_isBare, 5)) (List.mem_of_getElem? (i := 2) (by decide +kernel))
theorem gX0_bare_X0_isBare : GoodIn wsX0_bare (wsV RX0 104 RX0 yX0_isBare wsX0_isBare) := bb_gV bb_t73 bb_t75 bb_sX0_isBare bb_t1 bb_t76
theorem gX0_about_X0_requireNode : GoodIn wsX0_about (wsS RX0 32 yX0_requireNode wsX0_requireNode) := bb_gS bb_t113 bb_t114 bb_t1 bb_t115
theorem bb_t349 : Cond.code yX0_ballotsVotedIn prog_1_method_37_code 4 (some .int) ∈ bb_T := bb_tb 349 (by decide +kernel) (by decide +kernel)
theorem bb_t346 : Cond.methodLink "BallotBox" 107 yX0_ballotsVotedIn ∈ bb_T := bb_tb 346 (by decide +kernel) (by decide +kernel)
theorem bb_t348 : Cond.instanceMethod yX0_ballotsVotedIn ∈ bb_T := bb_tb 348 (by decide +kernel) (by decide +kernel)
theorem bb_sX0_ballotsVotedIn : Cond.selects RX0 yX0_ballotsVotedIn yX0_ballotsVotedIn ∈ bb_T := bb_ts (q := (yX0_ballotsVotedIn, 5)) (List.mem_of_getElem? (i := 17) (by decide +kernel))
theorem gX0_about_X0_ballotsVotedIn : GoodIn wsX0_about (wsV RX0 107 RX0 yX0_ballotsVotedIn wsX0_ballotsVotedIn) := bb_gV bb_t346 bb_t348 bb_sX0_ballotsVotedIn bb_t1 bb_t349
theorem gX0_about_X0_lastBallotBelow : GoodIn wsX0_about (wsV RX0 91 RX0 yX0_lastBallotBelow wsX0_lastBallotBelow) := bb_gV bb_t281 bb_t283 bb_sX0_lastBallotBelow bb_t1 bb_t284
theorem bb_t51 : Cond.code yX0_weightOf prog_1_method_24_code 4 (some .int) ∈ bb_T := bb_tb 51 (by decide +kernel) (by decide +kernel)
theorem bb_t48 : Cond.methodLink "BallotBox" 112 yX0_weightOf ∈ bb_T := bb_tb 48 (by decide +kernel) (by decide +kernel)
theorem bb_t50 : Cond.instanceMethod yX0_weightOf ∈ bb_T := bb_tb 50 (by decide +kernel) (by decide +kernel)
theorem bb_sX0_weightOf : Cond.selects RX0 yX0_weightOf yX0_weightOf ∈ bb_T := bb_ts (q := (yX0_weightOf, 5)) (List.mem_of_getElem? (i := 1) (by decide +kernel))
theorem gX0_count_X0_weightOf : GoodIn wsX0_count (wsV RX0 112 RX0 yX0_weightOf wsX0_weightOf) := bb_gV bb_t48 bb_t50 bb_sX0_weightOf bb_t1 bb_t51
theorem bb_t91 : Cond.code yX0_allVotes prog_1_method_38_code 3 (some .int) ∈ bb_T := bb_tb 91 (by decide +kernel) (by decide +kernel)
theorem bb_t88 : Cond.methodLink "BallotBox" 115 yX0_allVotes ∈ bb_T := bb_tb 88 (by decide +kernel) (by decide +kernel)
theorem bb_t90 : Cond.instanceMethod yX0_allVotes ∈ bb_T := bb_tb 90 (by decide +kernel) (by decide +kernel)
theorem bb_sX0_allVotes : Cond.selects RX0 yX0_allVotes yX0_allVotes ∈ bb_T := bb_ts (q := (yX0_allVotes, 5)) (List.mem_of_getElem? (i := 4) (by decide +kernel))
theorem gX0_count_X0_allVotes : GoodIn wsX0_count (wsV RX0 115 RX0 yX0_allVotes wsX0_allVotes) := bb_gV bb_t88 bb_t90 bb_sX0_allVotes bb_t1 bb_t91
theorem bb_t95 : Cond.code yX0_ballotsWithChosen prog_1_method_39_code 3 (some .int) ∈ bb_T := bb_tb 95 (by decide +kernel) (by decide +kernel)
theorem bb_t92 : Cond.methodLink "BallotBox" 119 yX0_ballotsWithChosen ∈ bb_T := bb_tb 92 (by decide +kernel) (by decide +kernel)
theorem bb_t94 : Cond.instanceMethod yX0_ballotsWithChosen ∈ bb_T := bb_tb 94 (by decide +kernel) (by decide +kernel)
theorem bb_sX0_ballotsWithChosen : Cond.selects RX0 yX0_ballotsWithChosen yX0_ballotsWithChosen ∈ bb_T := bb_ts (q := (yX0_ballotsWithChosen, 5)) (List.mem_of_getElem? (i := 5) (by decide +kernel))
theorem gX0_count_X0_ballotsWithChosen : GoodIn wsX0_count (wsV RX0 119 RX0 yX0_ballotsWithChosen wsX0_ballotsWithChosen) := bb_gV bb_t92 bb_t94 bb_sX0_ballotsWithChosen bb_t1 bb_t95
theorem bb_t103 : Cond.code yX0_differentChosen prog_1_method_40_code 4 (some .int) ∈ bb_T := bb_tb 103 (by decide +kernel) (by decide +kernel)
theorem bb_t100 : Cond.methodLink "BallotBox" 122 yX0_differentChosen ∈ bb_T := bb_tb 100 (by decide +kernel) (by decide +kernel)
theorem bb_t102 : Cond.instanceMethod yX0_differentChosen ∈ bb_T := bb_tb 102 (by decide +kernel) (by decide +kernel)
theorem bb_sX0_differentChosen : Cond.selects RX0 yX0_differentChosen yX0_differentChosen ∈ bb_T := bb_ts (q := (yX0_differentChosen, 5)) (List.mem_of_getElem? (i := 7) (by decide +kernel))
theorem gX0_count_X0_differentChosen : GoodIn wsX0_count (wsV RX0 122 RX0 yX0_differentChosen wsX0_differentChosen) := bb_gV bb_t100 bb_t102 bb_sX0_differentChosen bb_t1 bb_t103
theorem bb_t54 : Cond.code yX0_holds prog_1_method_23_code 2 (some .boolean) ∈ bb_T := bb_tb 54 (by decide +kernel) (by decide +kernel)
theorem bb_t52 : Cond.methodLink "BallotBox" 136 yX0_holds ∈ bb_T := bb_tb 52 (by decide +kernel) (by decide +kernel)
theorem bb_t53 : Cond.static yX0_holds ∈ bb_T := bb_tb 53 (by decide +kernel) (by decide +kernel)
theorem gX0_weightOf_X0_holds : GoodIn wsX0_weightOf (wsS RX0 136 yX0_holds wsX0_holds) := bb_gS bb_t52 bb_t53 bb_t1 bb_t54
theorem gX0_isEnough_X0_weightOf : GoodIn wsX0_isEnough (wsV RX0 112 RX0 yX0_weightOf wsX0_weightOf) := bb_gV bb_t48 bb_t50 bb_sX0_weightOf bb_t1 bb_t51
theorem gX0_isBare_X0_weightOf : GoodIn wsX0_isBare (wsV RX0 112 RX0 yX0_weightOf wsX0_weightOf) := bb_gV bb_t48 bb_t50 bb_sX0_weightOf bb_t1 bb_t51
theorem bb_t80 : Cond.code yX0_lightestOf prog_1_method_27_code 4 (some .int) ∈ bb_T := bb_tb 80 (by decide +kernel) (by decide +kernel)
theorem bb_t77 : Cond.methodLink "BallotBox" 139 yX0_lightestOf ∈ bb_T := bb_tb 77 (by decide +kernel) (by decide +kernel)
theorem bb_t79 : Cond.instanceMethod yX0_lightestOf ∈ bb_T := bb_tb 79 (by decide +kernel) (by decide +kernel)
theorem bb_sX0_lightestOf : Cond.selects RX0 yX0_lightestOf yX0_lightestOf ∈ bb_T := bb_ts (q := (yX0_lightestOf, 5)) (List.mem_of_getElem? (i := 3) (by decide +kernel))
theorem gX0_isBare_X0_lightestOf : GoodIn wsX0_isBare (wsV RX0 139 RX0 yX0_lightestOf wsX0_lightestOf) := bb_gV bb_t77 bb_t79 bb_sX0_lightestOf bb_t1 bb_t80
theorem gX0_lightestOf_X0_holds : GoodIn wsX0_lightestOf (wsS RX0 136 yX0_holds wsX0_holds) := bb_gS bb_t52 bb_t53 bb_t1 bb_t54
theorem gX0_isOpen_X0_holds : GoodIn wsX0_isOpen (wsS RX0 136 yX0_holds wsX0_holds) := bb_gS bb_t52 bb_t53 bb_t1 bb_t54
theorem gX0_openNodes_X0_isOpen : GoodIn wsX0_openNodes (wsV RX0 56 RX0 yX0_isOpen wsX0_isOpen) := bb_gV bb_t247 bb_t249 bb_sX0_isOpen bb_t1 bb_t250
theorem bb_t306 : Cond.code yX0_openNodes prog_1_method_29_code 4 (some .int) ∈ bb_T := bb_tb 306 (by decide +kernel) (by decide +kernel)
theorem bb_t303 : Cond.methodLink "BallotBox" 147 yX0_openNodes ∈ bb_T := bb_tb 303 (by decide +kernel) (by decide +kernel)
theorem bb_t305 : Cond.instanceMethod yX0_openNodes ∈ bb_T := bb_tb 305 (by decide +kernel) (by decide +kernel)
theorem bb_sX0_openNodes : Cond.selects RX0 yX0_openNodes yX0_openNodes ∈ bb_T := bb_ts (q := (yX0_openNodes, 5)) (List.mem_of_getElem? (i := 15) (by decide +kernel))
theorem gX0_hasWayToChoose_X0_openNodes : GoodIn wsX0_hasWayToChoose (wsV RX0 147 RX0 yX0_openNodes wsX0_openNodes) := bb_gV bb_t303 bb_t305 bb_sX0_openNodes bb_t1 bb_t306
theorem gX0_hasWayToChoose_X0_isEnough : GoodIn wsX0_hasWayToChoose (wsV RX0 76 RX0 yX0_isEnough wsX0_isEnough) := bb_gV bb_t44 bb_t46 bb_sX0_isEnough bb_t1 bb_t47
theorem gX0_isSafe_X0_hasWayToChoose : GoodIn wsX0_isSafe (wsV RX0 98 RX0 yX0_hasWayToChoose wsX0_hasWayToChoose) := bb_gV bb_t299 bb_t301 bb_sX0_hasWayToChoose bb_t1 bb_t302
theorem gX0_chosenValue_X0_isEnough : GoodIn wsX0_chosenValue (wsV RX0 76 RX0 yX0_isEnough wsX0_isEnough) := bb_gV bb_t44 bb_t46 bb_sX0_isEnough bb_t1 bb_t47
theorem gX0_highestPromise_X0_holds : GoodIn wsX0_highestPromise (wsS RX0 136 yX0_holds wsX0_holds) := bb_gS bb_t52 bb_t53 bb_t1 bb_t54
theorem gX0_promiseAll_X0_holds : GoodIn wsX0_promiseAll (wsS RX0 136 yX0_holds wsX0_holds) := bb_gS bb_t52 bb_t53 bb_t1 bb_t54
theorem gX0_ballotsVotedIn_X0_holds : GoodIn wsX0_ballotsVotedIn (wsS RX0 136 yX0_holds wsX0_holds) := bb_gS bb_t52 bb_t53 bb_t1 bb_t54
theorem gX0_allVotes_J_bitCount : GoodIn wsX0_allVotes (va_wsS RX0 67 yJ_bitCount wsJ_bitCount) := bb_gA bb_t59 bb_t60 bb_t10 bb_t61
theorem gX0_ballotsWithChosen_X0_chosenValue : GoodIn wsX0_ballotsWithChosen (wsV RX0 95 RX0 yX0_chosenValue wsX0_chosenValue) := bb_gV bb_t96 bb_t98 bb_sX0_chosenValue bb_t1 bb_t99
theorem gX0_differentChosen_X0_chosenValue : GoodIn wsX0_differentChosen (wsV RX0 95 RX0 yX0_chosenValue wsX0_chosenValue) := bb_gV bb_t96 bb_t98 bb_sX0_chosenValue bb_t1 bb_t99
theorem gX0_differentChosen_J_bitCount : GoodIn wsX0_differentChosen (va_wsS RX0 67 yJ_bitCount wsJ_bitCount) := bb_gA bb_t59 bb_t60 bb_t10 bb_t61
theorem bb_t383 : Cond.code yX1_out prog_3_method_4_code 2 (some .boolean) ∈ bb_T := bb_tb 383 (by decide +kernel) (by decide +kernel)
theorem bb_t381 : Cond.methodLink "BallotBoxModel" 26 yX1_out ∈ bb_T := bb_tb 381 (by decide +kernel) (by decide +kernel)
theorem bb_t382 : Cond.static yX1_out ∈ bb_T := bb_tb 382 (by decide +kernel) (by decide +kernel)
theorem bb_t3 : Cond.initialized "BallotBoxModel" ∈ bb_T := bb_tb 3 (by decide +kernel) (by decide +kernel)
theorem gX1_weight_X1_out : GoodIn wsX1_weight (wsS RX1 26 yX1_out wsX1_out) := bb_gS bb_t381 bb_t382 bb_t3 bb_t383
theorem gX1_promise_X1_out : GoodIn wsX1_promise (wsS RX1 26 yX1_out wsX1_out) := bb_gS bb_t381 bb_t382 bb_t3 bb_t383
theorem bb_t395 : Cond.code yX1_fail prog_3_method_3_code 2 (some .int) ∈ bb_T := bb_tb 395 (by decide +kernel) (by decide +kernel)
theorem bb_t392 : Cond.methodLink "BallotBoxModel" 30 yX1_fail ∈ bb_T := bb_tb 392 (by decide +kernel) (by decide +kernel)
theorem bb_t394 : Cond.instanceMethod yX1_fail ∈ bb_T := bb_tb 394 (by decide +kernel) (by decide +kernel)
theorem bb_sX1_fail : Cond.selects RX1 yX1_fail yX1_fail ∈ bb_T := bb_ts (q := (yX1_fail, 5)) (List.mem_of_getElem? (i := 18) (by decide +kernel))
theorem gX1_promise_X1_fail : GoodIn wsX1_promise (wsV RX1 30 RX1 yX1_fail wsX1_fail) := bb_gV bb_t392 bb_t394 bb_sX1_fail bb_t3 bb_t395
theorem bb_t407 : Cond.code yX1_voteOf prog_3_method_8_code 3 (some .int) ∈ bb_T := bb_tb 407 (by decide +kernel) (by decide +kernel)
theorem bb_t404 : Cond.methodLink "BallotBoxModel" 34 yX1_voteOf ∈ bb_T := bb_tb 404 (by decide +kernel) (by decide +kernel)
theorem bb_t406 : Cond.instanceMethod yX1_voteOf ∈ bb_T := bb_tb 406 (by decide +kernel) (by decide +kernel)
theorem bb_sX1_voteOf : Cond.selects RX1 yX1_voteOf yX1_voteOf ∈ bb_T := bb_ts (q := (yX1_voteOf, 5)) (List.mem_of_getElem? (i := 20) (by decide +kernel))
theorem gX1_isOpen_X1_voteOf : GoodIn wsX1_isOpen (wsV RX1 34 RX1 yX1_voteOf wsX1_voteOf) := bb_gV bb_t404 bb_t406 bb_sX1_voteOf bb_t3 bb_t407
theorem gX1_others_X1_voteOf : GoodIn wsX1_others (wsV RX1 34 RX1 yX1_voteOf wsX1_voteOf) := bb_gV bb_t404 bb_t406 bb_sX1_voteOf bb_t3 bb_t407
theorem gX1_vote_X1_out : GoodIn wsX1_vote (wsS RX1 26 yX1_out wsX1_out) := bb_gS bb_t381 bb_t382 bb_t3 bb_t383
theorem bb_t403 : Cond.code yX1_isOpen prog_3_method_9_code 3 (some .boolean) ∈ bb_T := bb_tb 403 (by decide +kernel) (by decide +kernel)
theorem bb_t400 : Cond.methodLink "BallotBoxModel" 38 yX1_isOpen ∈ bb_T := bb_tb 400 (by decide +kernel) (by decide +kernel)
theorem bb_t402 : Cond.instanceMethod yX1_isOpen ∈ bb_T := bb_tb 402 (by decide +kernel) (by decide +kernel)
theorem bb_sX1_isOpen : Cond.selects RX1 yX1_isOpen yX1_isOpen ∈ bb_T := bb_ts (q := (yX1_isOpen, 5)) (List.mem_of_getElem? (i := 19) (by decide +kernel))
theorem gX1_vote_X1_isOpen : GoodIn wsX1_vote (wsV RX1 38 RX1 yX1_isOpen wsX1_isOpen) := bb_gV bb_t400 bb_t402 bb_sX1_isOpen bb_t3 bb_t403
theorem bb_t411 : Cond.code yX1_others prog_3_method_10_code 4 (some .boolean) ∈ bb_T := bb_tb 411 (by decide +kernel) (by decide +kernel)
theorem bb_t408 : Cond.methodLink "BallotBoxModel" 41 yX1_others ∈ bb_T := bb_tb 408 (by decide +kernel) (by decide +kernel)
theorem bb_t410 : Cond.instanceMethod yX1_others ∈ bb_T := bb_tb 410 (by decide +kernel) (by decide +kernel)
theorem bb_sX1_others : Cond.selects RX1 yX1_others yX1_others ∈ bb_T := bb_ts (q := (yX1_others, 5)) (List.mem_of_getElem? (i := 21) (by decide +kernel))
theorem gX1_vote_X1_others : GoodIn wsX1_vote (wsV RX1 41 RX1 yX1_others wsX1_others) := bb_gV bb_t408 bb_t410 bb_sX1_others bb_t3 bb_t411
theorem gX1_vote_X1_fail : GoodIn wsX1_vote (wsV RX1 30 RX1 yX1_fail wsX1_fail) := bb_gV bb_t392 bb_t394 bb_sX1_fail bb_t3 bb_t395
theorem gX1_vote_X1_voteOf : GoodIn wsX1_vote (wsV RX1 34 RX1 yX1_voteOf wsX1_voteOf) := bb_gV bb_t404 bb_t406 bb_sX1_voteOf bb_t3 bb_t407
theorem gX1_ask_X1_out : GoodIn wsX1_ask (wsS RX1 26 yX1_out wsX1_out) := bb_gS bb_t381 bb_t382 bb_t3 bb_t383
theorem bb_t419 : Cond.code yX1_isEnough prog_3_method_12_code 4 (some .boolean) ∈ bb_T := bb_tb 419 (by decide +kernel) (by decide +kernel)
theorem bb_t416 : Cond.methodLink "BallotBoxModel" 44 yX1_isEnough ∈ bb_T := bb_tb 416 (by decide +kernel) (by decide +kernel)
theorem bb_t418 : Cond.instanceMethod yX1_isEnough ∈ bb_T := bb_tb 418 (by decide +kernel) (by decide +kernel)
theorem bb_sX1_isEnough : Cond.selects RX1 yX1_isEnough yX1_isEnough ∈ bb_T := bb_ts (q := (yX1_isEnough, 5)) (List.mem_of_getElem? (i := 22) (by decide +kernel))
theorem gX1_ask_X1_isEnough : GoodIn wsX1_ask (wsV RX1 44 RX1 yX1_isEnough wsX1_isEnough) := bb_gV bb_t416 bb_t418 bb_sX1_isEnough bb_t3 bb_t419
theorem gX1_ask_X1_fail : GoodIn wsX1_ask (wsV RX1 30 RX1 yX1_fail wsX1_fail) := bb_gV bb_t392 bb_t394 bb_sX1_fail bb_t3 bb_t395
theorem gX1_ask_X1_voteOf : GoodIn wsX1_ask (wsV RX1 34 RX1 yX1_voteOf wsX1_voteOf) := bb_gV bb_t404 bb_t406 bb_sX1_voteOf bb_t3 bb_t407
theorem gX1_isChosen_X1_voteOf : GoodIn wsX1_isChosen (wsV RX1 34 RX1 yX1_voteOf wsX1_voteOf) := bb_gV bb_t404 bb_t406 bb_sX1_voteOf bb_t3 bb_t407
theorem gX1_isChosen_X1_isEnough : GoodIn wsX1_isChosen (wsV RX1 44 RX1 yX1_isEnough wsX1_isEnough) := bb_gV bb_t416 bb_t418 bb_sX1_isEnough bb_t3 bb_t419
theorem gX1_chosen_X1_out : GoodIn wsX1_chosen (wsS RX1 26 yX1_out wsX1_out) := bb_gS bb_t381 bb_t382 bb_t3 bb_t383
theorem bb_t427 : Cond.code yX1_isChosen prog_3_method_14_code 5 (some .int) ∈ bb_T := bb_tb 427 (by decide +kernel) (by decide +kernel)
theorem bb_t424 : Cond.methodLink "BallotBoxModel" 48 yX1_isChosen ∈ bb_T := bb_tb 424 (by decide +kernel) (by decide +kernel)
theorem bb_t426 : Cond.instanceMethod yX1_isChosen ∈ bb_T := bb_tb 426 (by decide +kernel) (by decide +kernel)
theorem bb_sX1_isChosen : Cond.selects RX1 yX1_isChosen yX1_isChosen ∈ bb_T := bb_ts (q := (yX1_isChosen, 5)) (List.mem_of_getElem? (i := 23) (by decide +kernel))
theorem gX1_chosen_X1_isChosen : GoodIn wsX1_chosen (wsV RX1 48 RX1 yX1_isChosen wsX1_isChosen) := bb_gV bb_t424 bb_t426 bb_sX1_isChosen bb_t3 bb_t427
theorem gX1_canBe_X1_voteOf : GoodIn wsX1_canBe (wsV RX1 34 RX1 yX1_voteOf wsX1_voteOf) := bb_gV bb_t404 bb_t406 bb_sX1_voteOf bb_t3 bb_t407
theorem gX1_canBe_X1_isOpen : GoodIn wsX1_canBe (wsV RX1 38 RX1 yX1_isOpen wsX1_isOpen) := bb_gV bb_t400 bb_t402 bb_sX1_isOpen bb_t3 bb_t403
theorem gX1_canBe_X1_others : GoodIn wsX1_canBe (wsV RX1 41 RX1 yX1_others wsX1_others) := bb_gV bb_t408 bb_t410 bb_sX1_others bb_t3 bb_t411
theorem gX1_canBe_X1_isEnough : GoodIn wsX1_canBe (wsV RX1 44 RX1 yX1_isEnough wsX1_isEnough) := bb_gV bb_t416 bb_t418 bb_sX1_isEnough bb_t3 bb_t419
theorem gX1_can_X1_out : GoodIn wsX1_can (wsS RX1 26 yX1_out wsX1_out) := bb_gS bb_t381 bb_t382 bb_t3 bb_t383
theorem bb_t435 : Cond.code yX1_canBe prog_3_method_16_code 5 (some .boolean) ∈ bb_T := bb_tb 435 (by decide +kernel) (by decide +kernel)
theorem bb_t432 : Cond.methodLink "BallotBoxModel" 51 yX1_canBe ∈ bb_T := bb_tb 432 (by decide +kernel) (by decide +kernel)
theorem bb_t434 : Cond.instanceMethod yX1_canBe ∈ bb_T := bb_tb 434 (by decide +kernel) (by decide +kernel)
theorem bb_sX1_canBe : Cond.selects RX1 yX1_canBe yX1_canBe ∈ bb_T := bb_ts (q := (yX1_canBe, 5)) (List.mem_of_getElem? (i := 24) (by decide +kernel))
theorem gX1_can_X1_canBe : GoodIn wsX1_can (wsV RX1 51 RX1 yX1_canBe wsX1_canBe) := bb_gV bb_t432 bb_t434 bb_sX1_canBe bb_t3 bb_t435
theorem gX1_isSafe_X1_canBe : GoodIn wsX1_isSafe (wsV RX1 51 RX1 yX1_canBe wsX1_canBe) := bb_gV bb_t432 bb_t434 bb_sX1_canBe bb_t3 bb_t435
theorem gX1_safe_X1_out : GoodIn wsX1_safe (wsS RX1 26 yX1_out wsX1_out) := bb_gS bb_t381 bb_t382 bb_t3 bb_t383
theorem bb_t443 : Cond.code yX1_isSafe prog_3_method_18_code 5 (some .boolean) ∈ bb_T := bb_tb 443 (by decide +kernel) (by decide +kernel)
theorem bb_t440 : Cond.methodLink "BallotBoxModel" 54 yX1_isSafe ∈ bb_T := bb_tb 440 (by decide +kernel) (by decide +kernel)
theorem bb_t442 : Cond.instanceMethod yX1_isSafe ∈ bb_T := bb_tb 442 (by decide +kernel) (by decide +kernel)
theorem bb_sX1_isSafe : Cond.selects RX1 yX1_isSafe yX1_isSafe ∈ bb_T := bb_ts (q := (yX1_isSafe, 5)) (List.mem_of_getElem? (i := 25) (by decide +kernel))
theorem gX1_safe_X1_isSafe : GoodIn wsX1_safe (wsV RX1 54 RX1 yX1_isSafe wsX1_isSafe) := bb_gV bb_t440 bb_t442 bb_sX1_isSafe bb_t3 bb_t443
theorem gX1_free_X1_out : GoodIn wsX1_free (wsS RX1 26 yX1_out wsX1_out) := bb_gS bb_t381 bb_t382 bb_t3 bb_t383
theorem gX1_free_X1_isSafe : GoodIn wsX1_free (wsV RX1 54 RX1 yX1_isSafe wsX1_isSafe) := bb_gV bb_t440 bb_t442 bb_sX1_isSafe bb_t3 bb_t443
theorem gX1_enough_X1_out : GoodIn wsX1_enough (wsS RX1 26 yX1_out wsX1_out) := bb_gS bb_t381 bb_t382 bb_t3 bb_t383
theorem gX1_enough_X1_isEnough : GoodIn wsX1_enough (wsV RX1 44 RX1 yX1_isEnough wsX1_isEnough) := bb_gV bb_t416 bb_t418 bb_sX1_isEnough bb_t3 bb_t419
theorem gX1_blocks_X1_out : GoodIn wsX1_blocks (wsS RX1 26 yX1_out wsX1_out) := bb_gS bb_t381 bb_t382 bb_t3 bb_t383
theorem gX1_blocks_X1_isEnough : GoodIn wsX1_blocks (wsV RX1 44 RX1 yX1_isEnough wsX1_isEnough) := bb_gV bb_t416 bb_t418 bb_sX1_isEnough bb_t3 bb_t419
theorem gX1_sets_X1_isEnough : GoodIn wsX1_sets (wsV RX1 44 RX1 yX1_isEnough wsX1_isEnough) := bb_gV bb_t416 bb_t418 bb_sX1_isEnough bb_t3 bb_t419
theorem gX1_least_X1_isEnough : GoodIn wsX1_least (wsV RX1 44 RX1 yX1_isEnough wsX1_isEnough) := bb_gV bb_t416 bb_t418 bb_sX1_isEnough bb_t3 bb_t419
theorem bb_t466 : Cond.code yX1_size prog_3_method_24_code 3 (some .int) ∈ bb_T := bb_tb 466 (by decide +kernel) (by decide +kernel)
theorem bb_t464 : Cond.methodLink "BallotBoxModel" 57 yX1_size ∈ bb_T := bb_tb 464 (by decide +kernel) (by decide +kernel)
theorem bb_t465 : Cond.static yX1_size ∈ bb_T := bb_tb 465 (by decide +kernel) (by decide +kernel)
theorem gX1_least_X1_size : GoodIn wsX1_least (wsS RX1 57 yX1_size wsX1_size) := bb_gS bb_t464 bb_t465 bb_t3 bb_t466
theorem gX1_meet_X1_isEnough : GoodIn wsX1_meet (wsV RX1 44 RX1 yX1_isEnough wsX1_isEnough) := bb_gV bb_t416 bb_t418 bb_sX1_isEnough bb_t3 bb_t419
theorem gX1_bare_X1_isEnough : GoodIn wsX1_bare (wsV RX1 44 RX1 yX1_isEnough wsX1_isEnough) := bb_gV bb_t416 bb_t418 bb_sX1_isEnough bb_t3 bb_t419
theorem gX1_about_X1_out : GoodIn wsX1_about (wsS RX1 26 yX1_out wsX1_out) := bb_gS bb_t381 bb_t382 bb_t3 bb_t383
theorem gX1_about_X1_voteOf : GoodIn wsX1_about (wsV RX1 34 RX1 yX1_voteOf wsX1_voteOf) := bb_gV bb_t404 bb_t406 bb_sX1_voteOf bb_t3 bb_t407
theorem gX1_count_X1_isChosen : GoodIn wsX1_count (wsV RX1 48 RX1 yX1_isChosen wsX1_isChosen) := bb_gV bb_t424 bb_t426 bb_sX1_isChosen bb_t3 bb_t427
theorem bb_t112 : Cond.code yX0_weight prog_1_method_2_code 4 (some .int) ∈ bb_T := bb_tb 112 (by decide +kernel) (by decide +kernel)
theorem bb_t109 : Cond.methodLink "BallotBoxLaw" 7 yX0_weight ∈ bb_T := bb_tb 109 (by decide +kernel) (by decide +kernel)
theorem bb_t110 : Cond.instanceMethod yX0_weight ∈ bb_T := bb_tb 110 (by decide +kernel) (by decide +kernel)
theorem bb_t111 : Cond.selects "BallotBox" yX0_weight yX0_weight ∈ bb_T := bb_tb 111 (by decide +kernel) (by decide +kernel)
theorem gL_weight_X0_weight : GoodIn wsL_weight (wsV RL 7 RX0 yX0_weight wsX0_weight) := bb_gV bb_t109 bb_t110 bb_t111 bb_t1 bb_t112
theorem bb_t206 : Cond.code yX0_need prog_1_method_3_code 3 (some .int) ∈ bb_T := bb_tb 206 (by decide +kernel) (by decide +kernel)
theorem bb_t203 : Cond.methodLink "BallotBoxLaw" 17 yX0_need ∈ bb_T := bb_tb 203 (by decide +kernel) (by decide +kernel)
theorem bb_t204 : Cond.instanceMethod yX0_need ∈ bb_T := bb_tb 204 (by decide +kernel) (by decide +kernel)
theorem bb_t205 : Cond.selects "BallotBox" yX0_need yX0_need ∈ bb_T := bb_tb 205 (by decide +kernel) (by decide +kernel)
theorem gL_need_X0_need : GoodIn wsL_need (wsV RL 17 RX0 yX0_need wsX0_need) := bb_gV bb_t203 bb_t204 bb_t205 bb_t1 bb_t206
theorem bb_t215 : Cond.code yX0_promise prog_1_method_4_code 4 (some .int) ∈ bb_T := bb_tb 215 (by decide +kernel) (by decide +kernel)
theorem bb_t212 : Cond.methodLink "BallotBoxLaw" 21 yX0_promise ∈ bb_T := bb_tb 212 (by decide +kernel) (by decide +kernel)
theorem bb_t213 : Cond.instanceMethod yX0_promise ∈ bb_T := bb_tb 213 (by decide +kernel) (by decide +kernel)
theorem bb_t214 : Cond.selects "BallotBox" yX0_promise yX0_promise ∈ bb_T := bb_tb 214 (by decide +kernel) (by decide +kernel)
theorem gL_promise_X0_promise : GoodIn wsL_promise (wsV RL 21 RX0 yX0_promise wsX0_promise) := bb_gV bb_t212 bb_t213 bb_t214 bb_t1 bb_t215
theorem bb_t242 : Cond.code yX0_vote prog_1_method_5_code 4 (some .int) ∈ bb_T := bb_tb 242 (by decide +kernel) (by decide +kernel)
theorem bb_t239 : Cond.methodLink "BallotBoxLaw" 26 yX0_vote ∈ bb_T := bb_tb 239 (by decide +kernel) (by decide +kernel)
theorem bb_t240 : Cond.instanceMethod yX0_vote ∈ bb_T := bb_tb 240 (by decide +kernel) (by decide +kernel)
theorem bb_t241 : Cond.selects "BallotBox" yX0_vote yX0_vote ∈ bb_T := bb_tb 241 (by decide +kernel) (by decide +kernel)
theorem gL_vote_X0_vote : GoodIn wsL_vote (wsV RL 26 RX0 yX0_vote wsX0_vote) := bb_gV bb_t239 bb_t240 bb_t241 bb_t1 bb_t242
theorem bb_t263 : Cond.code yX0_ask prog_1_method_6_code 4 (some .int) ∈ bb_T := bb_tb 263 (by decide +kernel) (by decide +kernel)
theorem bb_t260 : Cond.methodLink "BallotBoxLaw" 30 yX0_ask ∈ bb_T := bb_tb 260 (by decide +kernel) (by decide +kernel)
theorem bb_t261 : Cond.instanceMethod yX0_ask ∈ bb_T := bb_tb 261 (by decide +kernel) (by decide +kernel)
theorem bb_t262 : Cond.selects "BallotBox" yX0_ask yX0_ask ∈ bb_T := bb_tb 262 (by decide +kernel) (by decide +kernel)
theorem gL_ask_X0_ask : GoodIn wsL_ask (wsV RL 30 RX0 yX0_ask wsX0_ask) := bb_gV bb_t260 bb_t261 bb_t262 bb_t1 bb_t263
theorem bb_t291 : Cond.code yX0_chosen prog_1_method_7_code 2 (some .int) ∈ bb_T := bb_tb 291 (by decide +kernel) (by decide +kernel)
theorem bb_t288 : Cond.methodLink "BallotBoxLaw" 33 yX0_chosen ∈ bb_T := bb_tb 288 (by decide +kernel) (by decide +kernel)
theorem bb_t289 : Cond.instanceMethod yX0_chosen ∈ bb_T := bb_tb 289 (by decide +kernel) (by decide +kernel)
theorem bb_t290 : Cond.selects "BallotBox" yX0_chosen yX0_chosen ∈ bb_T := bb_tb 290 (by decide +kernel) (by decide +kernel)
theorem gL_chosen_X0_chosen : GoodIn wsL_chosen (wsV RL 33 RX0 yX0_chosen wsX0_chosen) := bb_gV bb_t288 bb_t289 bb_t290 bb_t1 bb_t291
theorem bb_t298 : Cond.code yX0_can prog_1_method_8_code 3 (some .boolean) ∈ bb_T := bb_tb 298 (by decide +kernel) (by decide +kernel)
theorem bb_t295 : Cond.methodLink "BallotBoxLaw" 36 yX0_can ∈ bb_T := bb_tb 295 (by decide +kernel) (by decide +kernel)
theorem bb_t296 : Cond.instanceMethod yX0_can ∈ bb_T := bb_tb 296 (by decide +kernel) (by decide +kernel)
theorem bb_t297 : Cond.selects "BallotBox" yX0_can yX0_can ∈ bb_T := bb_tb 297 (by decide +kernel) (by decide +kernel)
theorem gL_can_X0_can : GoodIn wsL_can (wsV RL 36 RX0 yX0_can wsX0_can) := bb_gV bb_t295 bb_t296 bb_t297 bb_t1 bb_t298
theorem bb_t313 : Cond.code yX0_safe prog_1_method_9_code 3 (some .boolean) ∈ bb_T := bb_tb 313 (by decide +kernel) (by decide +kernel)
theorem bb_t310 : Cond.methodLink "BallotBoxLaw" 40 yX0_safe ∈ bb_T := bb_tb 310 (by decide +kernel) (by decide +kernel)
theorem bb_t311 : Cond.instanceMethod yX0_safe ∈ bb_T := bb_tb 311 (by decide +kernel) (by decide +kernel)
theorem bb_t312 : Cond.selects "BallotBox" yX0_safe yX0_safe ∈ bb_T := bb_tb 312 (by decide +kernel) (by decide +kernel)
theorem gL_safe_X0_safe : GoodIn wsL_safe (wsV RL 40 RX0 yX0_safe wsX0_safe) := bb_gV bb_t310 bb_t311 bb_t312 bb_t1 bb_t313
theorem bb_t324 : Cond.code yX0_free prog_1_method_10_code 4 (some .int) ∈ bb_T := bb_tb 324 (by decide +kernel) (by decide +kernel)
theorem bb_t321 : Cond.methodLink "BallotBoxLaw" 43 yX0_free ∈ bb_T := bb_tb 321 (by decide +kernel) (by decide +kernel)
theorem bb_t322 : Cond.instanceMethod yX0_free ∈ bb_T := bb_tb 322 (by decide +kernel) (by decide +kernel)
theorem bb_t323 : Cond.selects "BallotBox" yX0_free yX0_free ∈ bb_T := bb_tb 323 (by decide +kernel) (by decide +kernel)
theorem gL_free_X0_free : GoodIn wsL_free (wsV RL 43 RX0 yX0_free wsX0_free) := bb_gV bb_t321 bb_t322 bb_t323 bb_t1 bb_t324
theorem bb_t331 : Cond.code yX0_enough prog_1_method_11_code 2 (some .boolean) ∈ bb_T := bb_tb 331 (by decide +kernel) (by decide +kernel)
theorem bb_t328 : Cond.methodLink "BallotBoxLaw" 46 yX0_enough ∈ bb_T := bb_tb 328 (by decide +kernel) (by decide +kernel)
theorem bb_t329 : Cond.instanceMethod yX0_enough ∈ bb_T := bb_tb 329 (by decide +kernel) (by decide +kernel)
theorem bb_t330 : Cond.selects "BallotBox" yX0_enough yX0_enough ∈ bb_T := bb_tb 330 (by decide +kernel) (by decide +kernel)
theorem gL_enough_X0_enough : GoodIn wsL_enough (wsV RL 46 RX0 yX0_enough wsX0_enough) := bb_gV bb_t328 bb_t329 bb_t330 bb_t1 bb_t331
theorem bb_t338 : Cond.code yX0_blocks prog_1_method_12_code 2 (some .boolean) ∈ bb_T := bb_tb 338 (by decide +kernel) (by decide +kernel)
theorem bb_t335 : Cond.methodLink "BallotBoxLaw" 50 yX0_blocks ∈ bb_T := bb_tb 335 (by decide +kernel) (by decide +kernel)
theorem bb_t336 : Cond.instanceMethod yX0_blocks ∈ bb_T := bb_tb 336 (by decide +kernel) (by decide +kernel)
theorem bb_t337 : Cond.selects "BallotBox" yX0_blocks yX0_blocks ∈ bb_T := bb_tb 337 (by decide +kernel) (by decide +kernel)
theorem gL_blocks_X0_blocks : GoodIn wsL_blocks (wsV RL 50 RX0 yX0_blocks wsX0_blocks) := bb_gV bb_t335 bb_t336 bb_t337 bb_t1 bb_t338
theorem bb_t345 : Cond.code yX0_about prog_1_method_17_code 3 (some .int) ∈ bb_T := bb_tb 345 (by decide +kernel) (by decide +kernel)
theorem bb_t342 : Cond.methodLink "BallotBoxLaw" 53 yX0_about ∈ bb_T := bb_tb 342 (by decide +kernel) (by decide +kernel)
theorem bb_t343 : Cond.instanceMethod yX0_about ∈ bb_T := bb_tb 343 (by decide +kernel) (by decide +kernel)
theorem bb_t344 : Cond.selects "BallotBox" yX0_about yX0_about ∈ bb_T := bb_tb 344 (by decide +kernel) (by decide +kernel)
theorem gL_about_X0_about : GoodIn wsL_about (wsV RL 53 RX0 yX0_about wsX0_about) := bb_gV bb_t342 bb_t343 bb_t344 bb_t1 bb_t345
theorem bb_fX0_9 : Cond.fieldLink RX0 9 "BallotBox" "weights" "[I" ∈ bb_T := bb_tb 23 (by decide +kernel) (by decide +kernel)
theorem bb_fX0_13 : Cond.fieldLink RX0 13 "BallotBox" "promised" "[I" ∈ bb_T := bb_tb 24 (by decide +kernel) (by decide +kernel)
theorem bb_fX0_16 : Cond.fieldLink RX0 16 "BallotBox" "voters" "[I" ∈ bb_T := bb_tb 25 (by decide +kernel) (by decide +kernel)
theorem bb_fX0_19 : Cond.fieldLink RX0 19 "BallotBox" "votedFor" "[I" ∈ bb_T := bb_tb 26 (by decide +kernel) (by decide +kernel)
theorem bb_fX0_22 : Cond.fieldLink RX0 22 "BallotBox" "needed" "I" ∈ bb_T := bb_tb 27 (by decide +kernel) (by decide +kernel)
theorem bb_inX0 : ∀ w ∈ u_ws RX0 TX0 5, w ∈ bb_T := by
  intro w hw
  obtain ⟨k, hk, rfl⟩ := List.mem_map.mp hw
  have hk := List.mem_range.mp hk
  rcases (show k = 0 ∨ k = 1 ∨ k = 2 ∨ k = 3 ∨ k = 4 by omega) with rfl | rfl | rfl | rfl | rfl
  · exact bb_tb 28 (by decide +kernel) (by decide +kernel)
  · exact bb_tb 30 (by decide +kernel) (by decide +kernel)
  · exact bb_tb 32 (by decide +kernel) (by decide +kernel)
  · exact bb_tb 34 (by decide +kernel) (by decide +kernel)
  · exact bb_tb 36 (by decide +kernel) (by decide +kernel)
theorem bb_fX1_9 : Cond.fieldLink RX1 9 "BallotBoxModel" "weight" "[I" ∈ bb_T := bb_tb 357 (by decide +kernel) (by decide +kernel)
theorem bb_fX1_13 : Cond.fieldLink RX1 13 "BallotBoxModel" "promised" "[I" ∈ bb_T := bb_tb 358 (by decide +kernel) (by decide +kernel)
theorem bb_fX1_16 : Cond.fieldLink RX1 16 "BallotBoxModel" "vote" "[I" ∈ bb_T := bb_tb 359 (by decide +kernel) (by decide +kernel)
theorem bb_fX1_19 : Cond.fieldLink RX1 19 "BallotBoxModel" "need" "I" ∈ bb_T := bb_tb 360 (by decide +kernel) (by decide +kernel)
theorem bb_fX1_23 : Cond.fieldLink RX1 23 "BallotBoxModel" "thrown" "I" ∈ bb_T := bb_tb 361 (by decide +kernel) (by decide +kernel)
theorem bb_inX1 : ∀ w ∈ u_ws RX1 TX1 5, w ∈ bb_T := by
  intro w hw
  obtain ⟨k, hk, rfl⟩ := List.mem_map.mp hw
  have hk := List.mem_range.mp hk
  rcases (show k = 0 ∨ k = 1 ∨ k = 2 ∨ k = 3 ∨ k = 4 by omega) with rfl | rfl | rfl | rfl | rfl
  · exact bb_tb 362 (by decide +kernel) (by decide +kernel)
  · exact bb_tb 364 (by decide +kernel) (by decide +kernel)
  · exact bb_tb 366 (by decide +kernel) (by decide +kernel)
  · exact bb_tb 368 (by decide +kernel) (by decide +kernel)
  · exact bb_tb 370 (by decide +kernel) (by decide +kernel)
theorem bb_mmin_l : Cond.methodLink RX0 142 Lib.Math.min.name ∈ bb_T := bb_tb 81 (by decide +kernel) (by decide +kernel)
theorem bb_mmin_s : Cond.static Lib.Math.min.name ∈ bb_T := bb_tb 82 (by decide +kernel) (by decide +kernel)
theorem bb_mmin_c : Cond.code Lib.Math.min.name Lib.Math.min.code 2 (some .int) ∈ bb_T := bb_tb 83 (by decide +kernel) (by decide +kernel)
theorem bb_mmax_l : Cond.methodLink RX0 150 Lib.Math.max.name ∈ bb_T := bb_tb 273 (by decide +kernel) (by decide +kernel)
theorem bb_mmax_s : Cond.static Lib.Math.max.name ∈ bb_T := bb_tb 274 (by decide +kernel) (by decide +kernel)
theorem bb_mmax_c : Cond.code Lib.Math.max.name Lib.Math.max.code 2 (some .int) ∈ bb_T := bb_tb 275 (by decide +kernel) (by decide +kernel)
theorem bb_mini : Cond.initialized "java/lang/Math" ∈ bb_T := bb_tb 11 (by decide +kernel) (by decide +kernel)
theorem bb_cst265 : Cond.constant RJ 265 (1431655765 : Int32) ∈ bb_T := bb_tb 62 (by decide +kernel) (by decide +kernel)
theorem bb_cst266 : Cond.constant RJ 266 (858993459 : Int32) ∈ bb_T := bb_tb 63 (by decide +kernel) (by decide +kernel)
theorem bb_cst267 : Cond.constant RJ 267 (252645135 : Int32) ∈ bb_T := bb_tb 64 (by decide +kernel) (by decide +kernel)
end
section
/-! pure words: sets as ints, counts, and their laws; the family 'Int32 by its bits' of kit/laws is pasted ahead -/
def bt (x : Int32) (i : Nat) : Bool := x.toBitVec.getLsbD i
theorem b_ext {x y : Int32} (h : ∀ i, i < 32 → bt x i = bt y i) : x = y := Int32.toBitVec_inj.mp (BitVec.eq_of_getLsbD_eq (fun i hi => h i hi))
theorem b_or (x y : Int32) (i : Nat) : bt (x ||| y) i = (bt x i || bt y i) := by unfold bt; rw [Int32.toBitVec_or, BitVec.getLsbD_or]
theorem b_and (x y : Int32) (i : Nat) : bt (x &&& y) i = (bt x i && bt y i) := by unfold bt; rw [Int32.toBitVec_and, BitVec.getLsbD_and]
theorem b_xor (x y : Int32) (i : Nat) : bt (x ^^^ y) i = (bt x i ^^ bt y i) := by unfold bt; rw [Int32.toBitVec_xor, BitVec.getLsbD_xor]
theorem b_big {x : Int32} {i : Nat} (h : 32 ≤ i) : bt x i = false := BitVec.getLsbD_of_ge _ _ h
theorem b_m1 : ∀ i, i < 32 → bt (-1) i = true := by decide +kernel
theorem b_0 (i : Nat) : bt 0 i = false := BitVec.getLsbD_zero
theorem s_l : ∀ n, n < 32 → ((nI n &&& 31).toBitVec.smod 32).toNat = n := by decide +kernel
theorem b_shl (n : Nat) (hn : n < 32) (x : Int32) {i : Nat} (hi : i < 32) : bt (x <<< (nI n &&& 31)) i = (decide (n ≤ i) && bt x (i - n)) := by
  unfold bt
  rw [Int32.toBitVec_shiftLeft]
  show (x.toBitVec <<< ((nI n &&& 31).toBitVec.smod 32).toNat).getLsbD i = _
  rw [s_l n hn, BitVec.getLsbD_shiftLeft]
  rcases Nat.lt_or_ge i n with h | h
  · simp [h, Nat.not_le.mpr h]
  · simp [hi, h, Nat.not_lt.mpr h]
theorem b_sshr (n : Nat) (hn : n < 32) (x : Int32) {i : Nat} (hi : i < 32) : bt (x >>> (nI n &&& 31)) i = if n + i < 32 then bt x (n + i) else bt x 31 := by
  unfold bt
  rw [Int32.toBitVec_shiftRight]
  show (x.toBitVec.sshiftRight ((nI n &&& 31).toBitVec.smod 32).toNat).getLsbD i = _
  rw [s_l n hn, BitVec.getLsbD_sshiftRight, BitVec.msb_eq_getLsbD_last]
  simp [hi]
/-! the words -/
def bb_hb (s : Int32) (j : Nat) : Bool := decide ((s >>> (nI j &&& 31)) &&& 1 = 1)
def bb_I (b : Bool) : Int32 := if b = true then 1 else 0
def bb_ws (w : Nat → Int32) (s : Int32) : Nat → Int32
  | 0 => 0
  | j + 1 => if bb_hb s j = true then bb_ws w s j + w j else bb_ws w s j
def bb_en (w : Nat → Int32) (k s : Int32) : Bool := decide (k ≤ bb_ws w s 10)
def bb_cn (p : Nat → Bool) : Nat → Nat
  | 0 => 0
  | j + 1 => if p j = true then bb_cn p j + 1 else bb_cn p j
def bb_al (p : Nat → Bool) : Nat → Bool
  | 0 => true
  | j + 1 => bb_al p j && p j
def bb_bl (p : Nat → Bool) : Nat → Int32
  | 0 => 0
  | j + 1 => if p j = true then bb_bl p j ||| ((1 : Int32) <<< (nI j &&& 31)) else bb_bl p j
def bb_la (p : Nat → Bool) : Nat → Int32
  | 0 => -1
  | j + 1 => if p j = true then nI j else bb_la p j
def bb_fi (p : Nat → Bool) : Nat → Int32
  | 0 => -1
  | j + 1 => if (bb_al (fun i => !p i) j && p j) = true then nI j else bb_fi p j
def bb_sm (f : Nat → Nat) : Nat → Nat
  | 0 => 0
  | j + 1 => bb_sm f j + f j
theorem bb_I_t : bb_I true = 1 := rfl
theorem bb_I_f : bb_I false = 0 := rfl
theorem bb_I_0 {b : Bool} : bb_I b = 0 ↔ b = false := by cases b <;> simp [bb_I] <;> decide
theorem bb_I_1 {b : Bool} : bb_I b = 1 ↔ b = true := by cases b <;> simp [bb_I] <;> decide
theorem bb_I_or (a b : Bool) : bb_I a ||| bb_I b = bb_I (a || b) := by cases a <;> cases b <;> decide
theorem bb_al_iff {p : Nat → Bool} {n : Nat} : bb_al p n = true ↔ ∀ i, i < n → p i = true := by
  induction n with
  | zero => simp [bb_al]
  | succ n ih =>
    simp only [bb_al, Bool.and_eq_true, ih]
    constructor
    · intro ⟨h1, h2⟩ i hi
      rcases Nat.lt_or_ge i n with h | h
      · exact h1 i h
      · have : i = n := by omega
        subst this; exact h2
    · intro h
      exact ⟨fun i hi => h i (by omega), h n (by omega)⟩
theorem bb_al_no {p : Nat → Bool} {n j : Nat} (h : p j = false) (hj : j < n) : bb_al p n = false := by
  cases hh : bb_al p n with
  | false => rfl
  | true => rw [bb_al_iff] at hh; rw [hh j hj] at h; cases h
theorem bb_al_mono {p : Nat → Bool} {n j : Nat} (h : bb_al p j = false) (hj : j ≤ n) : bb_al p n = false := by
  cases hh : bb_al p n with
  | false => rfl
  | true =>
    rw [bb_al_iff] at hh
    have : bb_al p j = true := bb_al_iff.mpr (fun i hi => hh i (by omega))
    rw [this] at h; cases h
theorem bb_al_congr {p q : Nat → Bool} {n : Nat} (h : ∀ i, i < n → p i = q i) : bb_al p n = bb_al q n := by
  induction n with
  | zero => rfl
  | succ n ih => simp only [bb_al]; rw [ih (fun i hi => h i (by omega)), h n (by omega)]
theorem bb_fi_hit {p : Nat → Bool} {n j : Nat} (h0 : bb_al (fun i => !p i) j = true) (h : p j = true) (hj : j < n) : bb_fi p n = nI j := by
  induction n with
  | zero => omega
  | succ n ih =>
    rcases Nat.lt_or_ge j n with h1 | h1
    · have : bb_al (fun i => !p i) n = false := bb_al_no (j := j) (by simp [h]) h1
      simp only [bb_fi, this, Bool.false_and]
      simpa using ih h1
    · have : j = n := by omega
      subst this
      simp only [bb_fi, h0, h, Bool.and_self, if_true]
theorem bb_fi_none {p : Nat → Bool} {n : Nat} (h0 : bb_al (fun i => !p i) n = true) : bb_fi p n = -1 := by
  induction n with
  | zero => rfl
  | succ n ih =>
    simp only [bb_al, Bool.and_eq_true, Bool.not_eq_true'] at h0
    simp only [bb_fi, h0.2, Bool.and_false]
    simpa using ih h0.1
theorem bb_fi_congr {p q : Nat → Bool} {n : Nat} (h : ∀ i, i < n → p i = q i) : bb_fi p n = bb_fi q n := by
  induction n with
  | zero => rfl
  | succ n ih =>
    have h1 : bb_al (fun i => !p i) n = bb_al (fun i => !q i) n := bb_al_congr (fun i hi => by rw [h i (by omega)])
    simp only [bb_fi]
    rw [ih (fun i hi => h i (by omega)), h n (by omega), h1]
theorem bb_cn_congr {p q : Nat → Bool} {n : Nat} (h : ∀ i, i < n → p i = q i) : bb_cn p n = bb_cn q n := by
  induction n with
  | zero => rfl
  | succ n ih => simp only [bb_cn]; rw [ih (fun i hi => h i (by omega)), h n (by omega)]
theorem bb_cn_le (p : Nat → Bool) (n : Nat) : bb_cn p n ≤ n := by
  induction n with
  | zero => exact Nat.le_refl _
  | succ n ih => simp only [bb_cn]; split <;> omega
theorem bb_bl_congr {p q : Nat → Bool} {n : Nat} (h : ∀ i, i < n → p i = q i) : bb_bl p n = bb_bl q n := by
  induction n with
  | zero => rfl
  | succ n ih => simp only [bb_bl]; rw [ih (fun i hi => h i (by omega)), h n (by omega)]
theorem bb_la_congr {p q : Nat → Bool} {n : Nat} (h : ∀ i, i < n → p i = q i) : bb_la p n = bb_la q n := by
  induction n with
  | zero => rfl
  | succ n ih => simp only [bb_la]; rw [ih (fun i hi => h i (by omega)), h n (by omega)]
theorem bb_ws_congr {w : Nat → Int32} {s t : Int32} {n : Nat} (h : ∀ i, i < n → bb_hb s i = bb_hb t i) : bb_ws w s n = bb_ws w t n := by
  induction n with
  | zero => rfl
  | succ n ih => simp only [bb_ws]; rw [ih (fun i hi => h i (by omega)), h n (by omega)]
theorem bb_en_congr {w : Nat → Int32} {k s t : Int32} (h : ∀ i, i < 10 → bb_hb s i = bb_hb t i) : bb_en w k s = bb_en w k t := by
  unfold bb_en; rw [bb_ws_congr h]
theorem bb_sm_congr {f g : Nat → Nat} {n : Nat} (h : ∀ i, i < n → f i = g i) : bb_sm f n = bb_sm g n := by
  induction n with
  | zero => rfl
  | succ n ih => simp only [bb_sm]; rw [ih (fun i hi => h i (by omega)), h n (by omega)]
theorem bb_sm_0 (n : Nat) : bb_sm (fun _ => 0) n = 0 := by
  induction n with
  | zero => rfl
  | succ n ih => simp only [bb_sm, ih]
theorem bb_sm_add (f g : Nat → Nat) (n : Nat) : bb_sm (fun i => f i + g i) n = bb_sm f n + bb_sm g n := by
  induction n with
  | zero => rfl
  | succ n ih => simp only [bb_sm, ih]; omega
theorem bb_sm_swap (f : Nat → Nat → Nat) (a b : Nat) : bb_sm (fun i => bb_sm (fun j => f i j) b) a = bb_sm (fun j => bb_sm (fun i => f i j) a) b := by
  induction a with
  | zero => simp only [bb_sm, bb_sm_0]
  | succ a ih => simp only [bb_sm, ih]; rw [← bb_sm_add]
theorem bb_cn_sm (p : Nat → Bool) (n : Nat) : bb_cn p n = bb_sm (fun i => if p i = true then 1 else 0) n := by
  induction n with
  | zero => rfl
  | succ n ih => simp only [bb_cn, bb_sm, ih]; split <;> omega
theorem bb_cn_add (p : Nat → Bool) (a b : Nat) : bb_cn p (a + b) = bb_cn p a + bb_cn (fun i => p (a + i)) b := by
  induction b with
  | zero => rfl
  | succ b ih => rw [← Nat.add_assoc]; simp only [bb_cn, ih]; split <;> omega
theorem bb_cn_block (p : Nat → Bool) (n : Nat) : bb_cn p (31 * n) = bb_sm (fun i => bb_cn (fun b => p (31 * i + b)) 31) n := by
  induction n with
  | zero => rfl
  | succ n ih => rw [show 31 * (n + 1) = 31 * n + 31 by omega, bb_cn_add, ih]; rfl
/-! bits -/
theorem bb_b1 : ∀ i, i < 32 → bt 1 i = decide (i = 0) := by decide +kernel
theorem bb_and1 {x : Int32} : x &&& 1 = 1 ↔ bt x 0 = true := by
  constructor
  · intro h
    have h1 := congrArg (fun z => bt z 0) h
    simp only [b_and, bb_b1 0 (by omega)] at h1
    simpa using h1
  · intro h
    apply b_ext
    intro i hi
    rw [b_and, bb_b1 i hi]
    by_cases h0 : i = 0
    · subst h0; simp [h]
    · simp [h0]
theorem bb_hb_bt {s : Int32} {j : Nat} (hj : j < 32) : bb_hb s j = bt s j := by
  unfold bb_hb
  have h : ((s >>> (nI j &&& 31)) &&& 1 = 1) ↔ bt s j = true := by
    rw [bb_and1, b_sshr j hj s (by omega)]
    simp [hj]
  by_cases hb : bt s j = true
  · rw [decide_eq_true (h.mpr hb), hb]
  · rw [decide_eq_false (fun z => hb (h.mp z))]
    simpa using hb
theorem bb_hb_or {x y : Int32} {j : Nat} (hj : j < 32) : bb_hb (x ||| y) j = (bb_hb x j || bb_hb y j) := by
  rw [bb_hb_bt hj, bb_hb_bt hj, bb_hb_bt hj, b_or]
theorem bb_hb_and {x y : Int32} {j : Nat} (hj : j < 32) : bb_hb (x &&& y) j = (bb_hb x j && bb_hb y j) := by
  rw [bb_hb_bt hj, bb_hb_bt hj, bb_hb_bt hj, b_and]
/-- the rest of a set; a name, for simp has another form of it -/
def bb_not (x : Int32) : Int32 := x ^^^ (-1)
theorem bb_hb_not {x : Int32} {j : Nat} (hj : j < 32) : bb_hb (bb_not x) j = !bb_hb x j := by
  unfold bb_not
  rw [bb_hb_bt hj, bb_hb_bt hj, b_xor, b_m1 j hj]; simp
theorem bb_hb_0 {j : Nat} (hj : j < 32) : bb_hb 0 j = false := by rw [bb_hb_bt hj, b_0]
theorem bb_hb_1023 : ∀ j, j < 10 → bb_hb 1023 j = true := by decide +kernel
theorem bb_hb_one {n j : Nat} (hn : n < 32) (hj : j < 32) : bb_hb ((1 : Int32) <<< (nI n &&& 31)) j = decide (j = n) := by
  rw [bb_hb_bt hj, b_shl n hn 1 hj, bb_b1 _ (by omega)]
  by_cases h : j = n
  · subst h; simp
  · rw [decide_eq_false h]
    by_cases h2 : n ≤ j
    · rw [decide_eq_false (by omega : ¬ (j - n = 0))]; simp
    · rw [decide_eq_false h2]; simp
theorem bb_hb_bl {p : Nat → Bool} {n j : Nat} (hn : n ≤ 31) (hj : j < 32) : bb_hb (bb_bl p n) j = (decide (j < n) && p j) := by
  induction n with
  | zero => simp [bb_bl, bb_hb_0 hj]
  | succ n ih =>
    simp only [bb_bl]
    have ih := ih (by omega)
    by_cases hp : p n = true
    · rw [if_pos hp, bb_hb_or hj, ih, bb_hb_one (by omega) hj]
      rcases Nat.lt_trichotomy j n with h | h | h
      · simp [h, Nat.lt_succ_of_lt h, show ¬ j = n by omega]
      · subst h; simp [hp]
      · simp [Nat.not_lt.mpr (Nat.le_of_lt h), show ¬ j = n by omega, show ¬ j < n + 1 by omega]
    · rw [if_neg hp, ih]
      rcases Nat.lt_trichotomy j n with h | h | h
      · simp [h, Nat.lt_succ_of_lt h]
      · subst h; simp at hp; simp [hp]
      · simp [Nat.not_lt.mpr (Nat.le_of_lt h), show ¬ j < n + 1 by omega]
theorem bb_hb_bl10 {p : Nat → Bool} {j : Nat} (hj : j < 10) : bb_hb (bb_bl p 10) j = p j := by
  rw [bb_hb_bl (by omega) (by omega)]; simp [hj]
/-- a set: an int below 1024 -/
def bb_lo (x : Int32) : Prop := ∀ i, 10 ≤ i → i < 32 → bt x i = false
theorem bb_lo_of {a : Nat} (h : a < 1024) : bb_lo (nI a) := by
  intro i h1 h2
  unfold bt
  show (BitVec.ofNat 32 a).getLsbD i = false
  rw [BitVec.getLsbD_ofNat]
  have h3 : a < 2 ^ i := Nat.lt_of_lt_of_le h (by show 2 ^ 10 ≤ 2 ^ i; exact Nat.pow_le_pow_right (by omega) h1)
  simp [Nat.testBit_lt_two_pow h3]
theorem bb_lo_to {x : Int32} (h : bb_lo x) : ∃ a : Nat, a < 1024 ∧ x = nI a := by
  refine ⟨x.toBitVec.toNat, ?_, ?_⟩
  · show _ < 2 ^ 10
    refine Nat.lt_pow_two_of_testBit _ (fun i hi => ?_)
    rw [BitVec.testBit_toNat]
    rcases Nat.lt_or_ge i 32 with h2 | h2
    · exact h i hi h2
    · exact BitVec.getLsbD_of_ge _ _ h2
  · apply Int32.toBitVec_inj.mp
    show x.toBitVec = BitVec.ofNat 32 x.toBitVec.toNat
    simp
theorem bb_lo_or {x y : Int32} (hx : bb_lo x) (hy : bb_lo y) : bb_lo (x ||| y) := fun i h1 h2 => by rw [b_or, hx i h1 h2, hy i h1 h2]; rfl
theorem bb_lo_and {x y : Int32} (hx : bb_lo x) : bb_lo (x &&& y) := fun i h1 h2 => by rw [b_and, hx i h1 h2]; rfl
theorem bb_lo_0 : bb_lo 0 := fun i _ _ => b_0 i
theorem bb_lo_one {n : Nat} (hn : n < 10) : bb_lo ((1 : Int32) <<< (nI n &&& 31)) := fun i h1 h2 => by
  rw [← bb_hb_bt h2, bb_hb_one (by omega) h2, decide_eq_false (by omega)]
theorem bb_lo_bl {p : Nat → Bool} {n : Nat} (hn : n ≤ 10) : bb_lo (bb_bl p n) := fun i h1 h2 => by
  rw [← bb_hb_bt h2, bb_hb_bl (by omega) h2, decide_eq_false (by omega)]; rfl
theorem bb_ext10 {x y : Int32} (hx : bb_lo x) (hy : bb_lo y) (h : ∀ i, i < 10 → bb_hb x i = bb_hb y i) : x = y := by
  apply b_ext
  intro i hi
  rcases Nat.lt_or_ge i 10 with h1 | h1
  · rw [← bb_hb_bt hi, ← bb_hb_bt hi]; exact h i h1
  · rw [hx i h1 hi, hy i h1 hi]
theorem bb_lo_ne0 {x : Int32} (hx : bb_lo x) : x ≠ 0 ↔ ∃ i, i < 10 ∧ bb_hb x i = true := by
  constructor
  · intro h
    apply Classical.byContradiction
    intro hn
    apply h
    refine bb_ext10 hx bb_lo_0 (fun i hi => ?_)
    rw [bb_hb_0 (by omega)]
    cases hb : bb_hb x i with
    | false => rfl
    | true => exact absurd ⟨i, hi, hb⟩ hn
  · intro ⟨i, hi, hb⟩ h
    rw [h, bb_hb_0 (by omega)] at hb
    cases hb
theorem bb_hb_nI {x j : Nat} (hx : x < 2 ^ 31) (hj : j < 32) : bb_hb (nI x) j = decide (x / 2 ^ j % 2 = 1) := by
  unfold bb_hb
  have h1 : x / 2 ^ j ≤ x := Nat.div_le_self _ _
  rw [pk_shrN hx _ j (s_l j hj), pk_andN (by omega) (m := 1) 1 (by decide)]
  have h2 : (nI (x / 2 ^ j % 2 ^ 1) = 1) ↔ x / 2 ^ j % 2 = 1 := by
    show nI (x / 2 ^ j % 2 ^ 1) = nI 1 ↔ _
    rw [nI_eq (by omega) (by omega)]
  by_cases h : x / 2 ^ j % 2 = 1
  · rw [decide_eq_true (h2.mpr h), decide_eq_true h]
  · rw [decide_eq_false (fun z => h (h2.mp z)), decide_eq_false h]
/-! Integer.bitCount, as its code has it -/
def bb_ur (x y : Int32) : Int32 := (x.toUInt32 >>> (y.toUInt32 &&& Int32.toUInt32 31)).toInt32
def bb_p1 (i : Int32) : Int32 := i - (bb_ur i 1 &&& 1431655765)
def bb_p2 (i : Int32) : Int32 := (i &&& 858993459) + (bb_ur i 2 &&& 858993459)
def bb_p3 (i : Int32) : Int32 := (i + bb_ur i 4) &&& 252645135
def bb_p4 (i : Int32) : Int32 := i + bb_ur i 8
def bb_p5 (i : Int32) : Int32 := i + bb_ur i 16
def bb_bc (i : Int32) : Int32 := bb_p5 (bb_p4 (bb_p3 (bb_p2 (bb_p1 i)))) &&& 63
def bb_pc (x : Nat) : Nat := x % 2 + x / 2 % 2 + x / 4 % 2 + x / 8 % 2 + x / 16 % 2 + x / 32 % 2 + x / 64 % 2 + x / 128 % 2 + x / 256 % 2 + x / 512 % 2
theorem bb_bc_all : ∀ x, x < 1024 → bb_bc (nI x) = nI (bb_pc x) := by decide +kernel
theorem bb_if2 (x : Nat) : (if decide (x % 2 = 1) = true then 1 else 0) = x % 2 := by
  have : x % 2 < 2 := Nat.mod_lt _ (by omega)
  by_cases h : x % 2 = 1
  · simp [h]
  · have : x % 2 = 0 := by omega
    simp [this]
theorem bb_bc_ok {x : Int32} (hx : bb_lo x) : bb_bc x = nI (bb_cn (bb_hb x) 10) := by
  obtain ⟨a, ha, rfl⟩ := bb_lo_to hx
  rw [bb_bc_all a ha, bb_cn_congr (q := fun j => decide (a / 2 ^ j % 2 = 1)) (fun i hi => bb_hb_nI (by omega) (by omega)), bb_cn_sm]
  simp only [bb_sm, bb_if2, bb_pc, Nat.pow_zero, Nat.div_one, Nat.reducePow, Nat.zero_add]
end
section
/-! what the class and the reference answer, as words over their arrays; they answer alike where the arrays are tied -/
def bb_ex (p : Nat → Bool) : Nat → Bool
  | 0 => false
  | j + 1 => bb_ex p j || p j
def bb_N (w : Nat → Int32) (n : Nat) : Nat := (w n).toNatClampNeg
def bb_sw (W : Nat → Nat) (p : Nat → Bool) : Nat → Nat
  | 0 => 0
  | j + 1 => if p j = true then bb_sw W p j + W j else bb_sw W p j
def bb_wa (w : Nat → Int32) : Nat → Int32
  | 0 => 0
  | j + 1 => bb_wa w j + w j
def bb_op (pr vo : Nat → Int32) (b n : Nat) : Bool := !bb_hb (vo b) n && decide (pr n ≤ nI b)
def bb_way (w : Nat → Int32) (k : Int32) (pr vo : Nat → Int32) (b : Nat) : Bool := bb_en w k (vo b ||| bb_bl (bb_op pr vo b) 10)
def bb_only (vf : Nat → Int32) (b : Nat) (v : Int32) : Bool := decide (vf b = -1) || decide (vf b = v)
def bb_saf (w : Nat → Int32) (k : Int32) (pr vo vf : Nat → Int32) (b : Nat) (v : Int32) : Bool := bb_al (fun c => !(decide (vf c ≠ v) && bb_way w k pr vo c)) b
def bb_cho (w : Nat → Int32) (k : Int32) (vo vf : Nat → Int32) (b : Nat) : Int32 := if bb_en w k (vo b) = true then vf b else -1
def bb_lm (w : Nat → Int32) (s : Int32) : Nat → Int32
  | 0 => 50
  | j + 1 => if bb_hb s j = true then (if w j < bb_lm w s j then w j else bb_lm w s j) else bb_lm w s j
def bb_hm (pr : Nat → Int32) (s : Int32) : Nat → Int32
  | 0 => 0
  | j + 1 => if bb_hb s j = true then (if bb_hm pr s j < pr j then pr j else bb_hm pr s j) else bb_hm pr s j
def bb_pal (pr : Nat → Int32) (s b : Int32) : Nat → (Nat → Int32)
  | 0 => pr
  | j + 1 => if bb_hb s j = true then upd (bb_pal pr s b j) j b else bb_pal pr s b j
def bb_bare (w : Nat → Int32) (k s : Int32) : Bool := decide (k ≤ bb_ws w s 10) && decide (bb_ws w s 10 - bb_lm w s 10 < k)
def bb_lc (w : Nat → Int32) (k : Int32) : Nat → Int32
  | 0 => -1
  | j + 1 => if ((decide (bb_lc w k j = -1) || decide (bb_bc (nI j) < bb_lc w k j)) && bb_en w k (nI j)) = true then bb_bc (nI j) else bb_lc w k j
def bb_vs (vo : Nat → Int32) : Nat → Int32
  | 0 => 0
  | j + 1 => bb_vs vo j + bb_bc (vo j)
def bb_se (ch : Nat → Int32) : Nat → Int32
  | 0 => 0
  | j + 1 => if ch j = -1 then bb_se ch j else bb_se ch j ||| ((1 : Int32) <<< (ch j &&& 31))
def bb_ask (vo vf : Nat → Int32) (s : Int32) (b : Nat) : Int32 := if bb_la (fun c => decide (vo c &&& s ≠ 0)) b = -1 then -1 else vf (bb_la (fun c => decide (vo c &&& s ≠ 0)) b).toNatClampNeg
/-! the reference's -/
def bb_rop (pr vt : Nat → Int32) (b n : Nat) : Bool := decide (vt (31 * n + b) = -1) && decide (pr n ≤ nI b)
def bb_rot (vt : Nat → Int32) (b : Nat) (v : Int32) : Bool := bb_ex (fun n => decide (vt (31 * n + b) ≠ -1) && decide (vt (31 * n + b) ≠ v)) 10
def bb_rch (w : Nat → Int32) (k : Int32) (vt : Nat → Int32) (b : Nat) : Int32 := bb_fi (fun v => bb_en w k (bb_bl (fun n => decide (vt (31 * n + b) = nI v)) 10)) 10
def bb_rcan (w : Nat → Int32) (k : Int32) (pr vt : Nat → Int32) (b : Nat) (v : Int32) : Bool := !bb_rot vt b v && bb_en w k (bb_bl (fun n => decide (vt (31 * n + b) = v) || bb_rop pr vt b n) 10)
def bb_rsafI (w : Nat → Int32) (k : Int32) (pr vt : Nat → Int32) (v : Int32) (c u : Nat) : Bool := !(decide (nI u ≠ v) && bb_rcan w k pr vt c (nI u))
def bb_rsaf (w : Nat → Int32) (k : Int32) (pr vt : Nat → Int32) (b : Nat) (v : Int32) : Bool := bb_al (fun c => bb_al (bb_rsafI w k pr vt v c) 10) b
def bb_sz (s : Int32) : Nat → Int32
  | 0 => 0
  | j + 1 => bb_sz s j + ((s >>> (nI j &&& 31)) &&& 1)
def bb_lr (w : Nat → Int32) (k : Int32) : Nat → Int32
  | 0 => -1
  | j + 1 => if (bb_en w k (nI j) && (decide (bb_lr w k j = -1) || decide (bb_sz (nI j) 10 < bb_lr w k j))) = true then bb_sz (nI j) 10 else bb_lr w k j
def bb_rbare (w : Nat → Int32) (k s : Int32) (n : Nat) : Bool := bb_en w k s && bb_al (fun n => decide ((s >>> (nI n &&& 31)) &&& 1 = 0) || !bb_en w k (s &&& bb_not ((1 : Int32) <<< (nI n &&& 31)))) n
def bb_fn (s : Int32) (vt : Nat → Int32) (c : Nat) (acc : Int32) : Nat → Int32
  | 0 => acc
  | n + 1 => if (bb_hb s n && decide (vt (31 * n + c) ≠ -1)) = true then vt (31 * n + c) else bb_fn s vt c acc n
def bb_fo (s : Int32) (vt : Nat → Int32) : Nat → Int32
  | 0 => -1
  | c + 1 => bb_fn s vt c (bb_fo s vt c) 10
/-! laws -/
theorem bb_ex_iff {p : Nat → Bool} {n : Nat} : bb_ex p n = true ↔ ∃ i, i < n ∧ p i = true := by
  induction n with
  | zero => simp [bb_ex]
  | succ n ih =>
    simp only [bb_ex, Bool.or_eq_true, ih]
    constructor
    · rintro (⟨i, h1, h2⟩ | h)
      · exact ⟨i, by omega, h2⟩
      · exact ⟨n, by omega, h⟩
    · intro ⟨i, h1, h2⟩
      rcases Nat.lt_or_ge i n with h | h
      · exact Or.inl ⟨i, h, h2⟩
      · have : i = n := by omega
        subst this; exact Or.inr h2
theorem bb_ex_hit {p : Nat → Bool} {n j : Nat} (h : p j = true) (hj : j < n) : bb_ex p n = true := bb_ex_iff.mpr ⟨j, hj, h⟩
theorem bb_ex_congr {p q : Nat → Bool} {n : Nat} (h : ∀ i, i < n → p i = q i) : bb_ex p n = bb_ex q n := by
  induction n with
  | zero => rfl
  | succ n ih => simp only [bb_ex]; rw [ih (fun i hi => h i (by omega)), h n (by omega)]
theorem bb_bool {a b : Bool} (h : a = true ↔ b = true) : a = b := by cases a <;> cases b <;> simp_all
theorem bb_m1 {t : Nat} (h : t < 2 ^ 31) : ¬ nI t = -1 := by
  intro q
  have a := nI_toInt h
  rw [q] at a
  have : (-1 : Int32).toInt = -1 := by decide
  omega
def bb_wok (w : Nat → Int32) : Prop := ∀ n, n < 10 → ∃ a : Nat, a ≤ 50 ∧ w n = nI a
theorem bb_wok_N {w : Nat → Int32} (h : bb_wok w) {n : Nat} (hn : n < 10) : w n = nI (bb_N w n) ∧ bb_N w n ≤ 50 := by
  obtain ⟨a, h1, h2⟩ := h n hn
  have h3 : bb_N w n = a := by unfold bb_N; rw [h2]; exact nI_clamp (by omega)
  rw [h3]; exact ⟨h2, h1⟩
theorem bb_sw_le {W : Nat → Nat} {p : Nat → Bool} {n : Nat} (h : ∀ i, i < n → W i ≤ 50) : bb_sw W p n ≤ 50 * n := by
  induction n with
  | zero => exact Nat.le_refl _
  | succ n ih =>
    have := ih (fun i hi => h i (by omega))
    have := h n (by omega)
    simp only [bb_sw]; split <;> omega
theorem bb_sw_congr {W : Nat → Nat} {p q : Nat → Bool} {n : Nat} (h : ∀ i, i < n → p i = q i) : bb_sw W p n = bb_sw W q n := by
  induction n with
  | zero => rfl
  | succ n ih => simp only [bb_sw]; rw [ih (fun i hi => h i (by omega)), h n (by omega)]
theorem bb_sw_mono {W : Nat → Nat} {p q : Nat → Bool} {n : Nat} (h : ∀ i, i < n → p i = true → q i = true) : bb_sw W p n ≤ bb_sw W q n := by
  induction n with
  | zero => exact Nat.le_refl _
  | succ n ih =>
    have h1 := ih (fun i hi => h i (by omega))
    have h2 := h n (by omega)
    simp only [bb_sw]
    by_cases hp : p n = true
    · rw [if_pos hp, if_pos (h2 hp)]; omega
    · rw [if_neg hp]; split <;> omega
theorem bb_sw_rem {W : Nat → Nat} {p : Nat → Bool} {n m : Nat} (hm : m < n) (hp : p m = true) : bb_sw W p n = bb_sw W (fun i => p i && !decide (i = m)) n + W m := by
  induction n with
  | zero => omega
  | succ n ih =>
    rcases Nat.lt_or_ge m n with h | h
    · have h1 := ih h
      have h2 : (p n && !decide (n = m)) = p n := by rw [decide_eq_false (by omega)]; simp
      simp only [bb_sw, h2]
      split <;> omega
    · have : m = n := by omega
      subst this
      have h2 : (p m && !decide (m = m)) = false := by simp
      have h3 : bb_sw W (fun i => p i && !decide (i = m)) m = bb_sw W p m := bb_sw_congr (fun i hi => by rw [decide_eq_false (by omega)]; simp)
      simp only [bb_sw, h2, hp, h3, if_true]
      simp
theorem bb_ws_nat {w : Nat → Int32} (hw : bb_wok w) (s : Int32) {n : Nat} (hn : n ≤ 10) : bb_ws w s n = nI (bb_sw (bb_N w) (bb_hb s) n) := by
  induction n with
  | zero => rfl
  | succ n ih =>
    have h1 := ih (by omega)
    have h2 := (bb_wok_N hw (show n < 10 by omega)).1
    simp only [bb_ws, bb_sw]
    by_cases h : bb_hb s n = true
    · rw [if_pos h, if_pos h, h1, ← nI_add, ← h2]
    · rw [if_neg h, if_neg h, h1]
theorem bb_ws_lt {w : Nat → Int32} (hw : bb_wok w) (p : Nat → Bool) : bb_sw (bb_N w) p 10 ≤ 500 :=
  bb_sw_le (n := 10) (fun i hi => (bb_wok_N hw hi).2)
def bb_kok (k : Int32) : Prop := ∃ a : Nat, 1 ≤ a ∧ a ≤ 500 ∧ k = nI a
theorem bb_en_iff {w : Nat → Int32} (hw : bb_wok w) {K : Nat} (hK : K ≤ 500) (s : Int32) : bb_en w (nI K) s = true ↔ K ≤ bb_sw (bb_N w) (bb_hb s) 10 := by
  have h := bb_ws_lt hw (bb_hb s)
  unfold bb_en
  rw [bb_ws_nat hw s (Nat.le_refl _), decide_eq_true_iff, nI_leI (by omega) (by omega)]
theorem bb_ws_none {w : Nat → Int32} {s : Int32} {n : Nat} (h : ∀ i, i < n → bb_hb s i = false) : bb_ws w s n = 0 := by
  induction n with
  | zero => rfl
  | succ n ih => simp only [bb_ws, h n (by omega)]; simpa using ih (fun i hi => h i (by omega))
theorem bb_en_none {w : Nat → Int32} {k s : Int32} (hk : bb_kok k) (h : ∀ i, i < 10 → bb_hb s i = false) : bb_en w k s = false := by
  obtain ⟨a, h1, h2, rfl⟩ := hk
  unfold bb_en
  rw [bb_ws_none h]
  exact decide_eq_false (nI_nle (by omega) (by omega))
/-! the tie -/
def bb_ok (w : Nat → Int32) (k : Int32) (pr vo vf vt : Nat → Int32) : Prop :=
  bb_wok w ∧ bb_kok k ∧ (∀ n, n < 10 → ∃ a : Nat, a ≤ 30 ∧ pr n = nI a) ∧
  (∀ b, b < 31 → bb_lo (vo b) ∧ (vf b = -1 ↔ vo b = 0) ∧ (vf b = -1 ∨ ∃ v : Nat, v < 10 ∧ vf b = nI v)) ∧
  ∀ n, n < 10 → ∀ b, b < 31 → vt (31 * n + b) = if bb_hb (vo b) n = true then vf b else -1
section Tie
variable {w : Nat → Int32} {k : Int32} {pr vo vf vt : Nat → Int32}
theorem bb_vt_ne (h : bb_ok w k pr vo vf vt) {n b : Nat} (hn : n < 10) (hb : b < 31) : decide (vt (31 * n + b) ≠ -1) = bb_hb (vo b) n := by
  obtain ⟨-, -, -, h4, h5⟩ := h
  rw [h5 n hn b hb]
  cases hh : bb_hb (vo b) n with
  | false => simp
  | true =>
    obtain ⟨hl, h6, -⟩ := h4 b hb
    have : vf b ≠ -1 := fun z => (bb_lo_ne0 hl).mpr ⟨n, hn, hh⟩ (h6.mp z)
    simp [this]
theorem bb_vt_eq (h : bb_ok w k pr vo vf vt) {n b v : Nat} (hn : n < 10) (hb : b < 31) (hv : v < 10) : decide (vt (31 * n + b) = nI v) = (bb_hb (vo b) n && decide (vf b = nI v)) := by
  obtain ⟨-, -, -, h4, h5⟩ := h
  rw [h5 n hn b hb]
  cases hh : bb_hb (vo b) n with
  | false =>
    have : ¬ (-1 : Int32) = nI v := fun z => bb_m1 (show v < 2 ^ 31 by omega) z.symm
    simp [this]
  | true => simp
theorem bb_e_op (h : bb_ok w k pr vo vf vt) {n b : Nat} (hn : n < 10) (hb : b < 31) : bb_rop pr vt b n = bb_op pr vo b n := by
  have h1 := bb_vt_ne h hn hb
  unfold bb_rop bb_op
  rw [← h1]
  by_cases h2 : vt (31 * n + b) = -1 <;> simp [h2]
theorem bb_e_ot (h : bb_ok w k pr vo vf vt) {b v : Nat} (hb : b < 31) (hv : v < 10) : bb_rot vt b (nI v) = !bb_only vf b (nI v) := by
  obtain ⟨-, -, -, h4, h5⟩ := id h
  obtain ⟨hl, h6, h7⟩ := h4 b hb
  apply bb_bool
  unfold bb_rot bb_only
  rw [bb_ex_iff]
  constructor
  · intro ⟨n, hn, hx⟩
    simp only [Bool.and_eq_true, decide_eq_true_iff] at hx
    rw [h5 n hn b hb] at hx
    cases hh : bb_hb (vo b) n with
    | false => rw [hh] at hx; simp at hx
    | true => rw [hh] at hx; simp at hx; simp [hx]
  · intro hx
    simp at hx
    have h0 : vo b ≠ 0 := fun z => hx.1 (h6.mpr z)
    obtain ⟨n, hn, hh⟩ := (bb_lo_ne0 hl).mp h0
    refine ⟨n, hn, ?_⟩
    rw [h5 n hn b hb, hh]
    simp [hx]
theorem bb_e_can (h : bb_ok w k pr vo vf vt) {b v : Nat} (hb : b < 31) (hv : v < 10) : bb_rcan w k pr vt b (nI v) = (bb_only vf b (nI v) && bb_way w k pr vo b) := by
  unfold bb_rcan
  rw [bb_e_ot h hb hv]
  cases ho : bb_only vf b (nI v) with
  | false => simp
  | true =>
    simp only [Bool.not_true, Bool.not_false, Bool.true_and]
    unfold bb_way
    apply bb_en_congr
    intro i hi
    rw [bb_hb_bl10 hi, bb_hb_or (by omega), bb_hb_bl10 hi, bb_vt_eq h hi hb hv, bb_e_op h hi hb]
    cases hh : bb_hb (vo b) i with
    | false => simp
    | true =>
      obtain ⟨-, -, -, h4, -⟩ := id h
      obtain ⟨hl, h6, -⟩ := h4 b hb
      have h8 : vf b ≠ -1 := fun z => (bb_lo_ne0 hl).mpr ⟨i, hi, hh⟩ (h6.mp z)
      unfold bb_only at ho
      simp [h8] at ho
      simp [ho]
theorem bb_e_saf (h : bb_ok w k pr vo vf vt) {b v : Nat} (hb : b ≤ 31) (hv : v < 10) : bb_rsaf w k pr vt b (nI v) = bb_saf w k pr vo vf b (nI v) := by
  unfold bb_rsaf bb_saf
  apply bb_al_congr
  intro c hc
  apply bb_bool
  rw [bb_al_iff]
  obtain ⟨-, -, -, h4, -⟩ := id h
  obtain ⟨hl, h6, h7⟩ := h4 c (by omega)
  constructor
  · intro hx
    cases hw : bb_way w k pr vo c with
    | false => simp
    | true =>
      simp only [Bool.and_true, Bool.not_eq_true', decide_eq_false_iff_not, Classical.not_not, ne_eq]
      rcases h7 with h7 | ⟨t, ht, h7⟩
      · exfalso
        have hy := hx (if v = 0 then 1 else 0) (by split <;> omega)
        unfold bb_rsafI at hy
        rw [bb_e_can h (by omega) (by split <;> omega), hw] at hy
        unfold bb_only at hy
        simp only [h7, decide_true, Bool.true_or, Bool.and_true, Bool.not_eq_true', decide_eq_false_iff_not, ne_eq, Classical.not_not] at hy
        rw [nI_eq (by split <;> omega) (by omega)] at hy
        split at hy <;> omega
      · have hy := hx t ht
        unfold bb_rsafI at hy
        rw [bb_e_can h (by omega) ht, hw] at hy
        unfold bb_only at hy
        simp only [h7, decide_true, Bool.or_true, Bool.and_true, Bool.not_eq_true', decide_eq_false_iff_not, ne_eq, Classical.not_not] at hy
        rw [h7]; exact hy
  · intro hx u hu
    unfold bb_rsafI
    rw [bb_e_can h (by omega) hu]
    cases hw : bb_way w k pr vo c with
    | false => simp
    | true =>
      rw [hw] at hx
      simp only [Bool.and_true, Bool.not_eq_true', decide_eq_false_iff_not, Classical.not_not, ne_eq] at hx
      unfold bb_only
      rw [hx, decide_eq_false (bb_m1 (show v < 2 ^ 31 by omega))]
      by_cases hq : nI u = nI v
      · simp [hq]
      · have : ¬ nI v = nI u := fun z => hq z.symm
        simp [this]
theorem bb_e_ch (h : bb_ok w k pr vo vf vt) {b : Nat} (hb : b < 31) : bb_rch w k vt b = bb_cho w k vo vf b := by
  obtain ⟨-, hk, -, h4, -⟩ := id h
  obtain ⟨hl, h6, h7⟩ := h4 b hb
  have hp : ∀ v, v < 10 → bb_en w k (bb_bl (fun n => decide (vt (31 * n + b) = nI v)) 10) = (decide (vf b = nI v) && bb_en w k (vo b)) := by
    intro v hv
    by_cases hq : vf b = nI v
    · rw [decide_eq_true hq, Bool.true_and]
      apply bb_en_congr
      intro i hi
      rw [bb_hb_bl10 hi, bb_vt_eq h hi hb hv, decide_eq_true hq, Bool.and_true]
    · rw [decide_eq_false hq, Bool.false_and]
      apply bb_en_none hk
      intro i hi
      rw [bb_hb_bl10 hi, bb_vt_eq h hi hb hv, decide_eq_false hq, Bool.and_false]
  unfold bb_rch bb_cho
  rw [bb_fi_congr hp]
  rcases h7 with h7 | ⟨t, ht, h7⟩
  · have h0 : vo b = 0 := h6.mp h7
    have he : bb_en w k (vo b) = false := by rw [h0]; exact bb_en_none hk (fun i hi => bb_hb_0 (by omega))
    rw [he]
    simp only [Bool.and_false]
    rw [bb_fi_none (by rw [bb_al_iff]; intro i _; rfl)]
    rfl
  · cases he : bb_en w k (vo b) with
    | false =>
      simp only [Bool.and_false]
      rw [bb_fi_none (by rw [bb_al_iff]; intro i _; rfl)]
      rfl
    | true =>
      rw [bb_fi_hit (j := t) _ _ ht]
      · simp [h7]
      · rw [bb_al_iff]
        intro i hi
        have : ¬ nI t = nI i := fun z => by rw [nI_eq (by omega) (by omega)] at z; omega
        simp [h7, this]
      · simp [h7]
end Tie
end
section
/-! the other answers, and what keeps the tie -/
theorem bb_lo_1023 : bb_lo 1023 := bb_lo_of (a := 1023) (by omega)
theorem bb_e_blocks {w : Nat → Int32} {k s : Int32} (hw : bb_wok w) (hk : bb_kok k) : bb_al (fun x => !(bb_en w k (nI x) && decide (nI x &&& s = 0))) 1024 = !bb_en w k (1023 &&& bb_not s) := by
  obtain ⟨K, hK1, hK2, rfl⟩ := hk
  have hlo : bb_lo (1023 &&& bb_not s) := bb_lo_and bb_lo_1023
  have hbits : ∀ i, i < 10 → bb_hb (1023 &&& bb_not s) i = !bb_hb s i := fun i hi => by
    rw [bb_hb_and (by omega), bb_hb_1023 i hi, bb_hb_not (by omega)]; simp
  cases he : bb_en w (nI K) (1023 &&& bb_not s) with
  | true =>
    obtain ⟨c, hc, e⟩ := bb_lo_to hlo
    refine bb_al_no (j := c) ?_ hc
    rw [← e, he]
    have : (1023 &&& bb_not s) &&& s = 0 := by
      refine bb_ext10 (bb_lo_and hlo) bb_lo_0 (fun i hi => ?_)
      rw [bb_hb_and (by omega), hbits i hi, bb_hb_0 (by omega)]
      cases bb_hb s i <;> rfl
    rw [decide_eq_true this]
    rfl
  | false =>
    show _ = true
    rw [bb_al_iff]
    intro x hx
    cases hx1 : bb_en w (nI K) (nI x) with
    | false => rfl
    | true =>
      by_cases hd : nI x &&& s = 0
      · exfalso
        rw [bb_en_iff hw hK2] at hx1
        have hm : bb_sw (bb_N w) (bb_hb (nI x)) 10 ≤ bb_sw (bb_N w) (bb_hb (1023 &&& bb_not s)) 10 := by
          refine bb_sw_mono (fun i hi hb => ?_)
          rw [hbits i hi]
          have h1 : bb_hb (nI x &&& s) i = false := by rw [hd, bb_hb_0 (by omega)]
          rw [bb_hb_and (by omega), hb] at h1
          simpa using h1
        have : bb_en w (nI K) (1023 &&& bb_not s) = true := (bb_en_iff hw hK2 _).mpr (by omega)
        rw [this] at he; cases he
      · simp [hd]
theorem bb_e_meet {w : Nat → Int32} {k : Int32} : bb_al (fun x => !(bb_en w k (nI x) && bb_en w k (bb_not (nI x) &&& 1023))) 1024 = bb_al (fun x => !(bb_en w k (nI x) && bb_en w k (1023 &&& bb_not (nI x)))) 1024 := by
  apply bb_al_congr
  intro i hi
  rw [show (bb_not (nI i) &&& 1023 : Int32) = 1023 &&& bb_not (nI i) from b_ext (fun j _ => by rw [b_and, b_and, Bool.and_comm])]
theorem bb_and1v (x : Int32) : x &&& 1 = if bt x 0 = true then 1 else 0 := by
  apply b_ext
  intro i hi
  rw [b_and, bb_b1 i hi]
  by_cases h0 : i = 0
  · subst h0
    cases bt x 0 <;> simp [b_0, bb_b1]
  · cases bt x 0
    · simp [h0, b_0]
    · simp [h0, bb_b1 i hi]
theorem bb_hbv {s : Int32} {j : Nat} (hj : j < 32) : (s >>> (nI j &&& 31)) &&& 1 = if bb_hb s j = true then 1 else 0 := by
  rw [bb_and1v, b_sshr j hj s (by omega), bb_hb_bt hj]
  simp [hj]
theorem bb_hb0 {s : Int32} {j : Nat} (hj : j < 32) : decide ((s >>> (nI j &&& 31)) &&& 1 = 0) = !bb_hb s j := by
  rw [bb_hbv hj]
  cases bb_hb s j
  · rfl
  · rfl
theorem bb_sz_ok (s : Int32) {n : Nat} (hn : n ≤ 32) : bb_sz s n = nI (bb_cn (bb_hb s) n) := by
  induction n with
  | zero => rfl
  | succ n ih =>
    simp only [bb_sz, bb_cn]
    rw [ih (by omega), bb_hbv (by omega)]
    by_cases h : bb_hb s n = true
    · rw [if_pos h, if_pos h]; exact nI_1 _
    · rw [if_neg h, if_neg h]; simp
theorem bb_e_size {x : Nat} (hx : x < 1024) : bb_bc (nI x) = bb_sz (nI x) 10 := by
  rw [bb_bc_ok (bb_lo_of hx), bb_sz_ok _ (by omega)]
theorem bb_e_least {w : Nat → Int32} {k : Int32} {n : Nat} (hn : n ≤ 1024) : bb_lr w k n = bb_lc w k n := by
  induction n with
  | zero => rfl
  | succ n ih =>
    simp only [bb_lr, bb_lc]
    rw [ih (by omega), bb_e_size (show n < 1024 by omega), Bool.and_comm]
def bb_mN (W : Nat → Nat) (p : Nat → Bool) : Nat → Nat
  | 0 => 50
  | j + 1 => if p j = true then (if W j < bb_mN W p j then W j else bb_mN W p j) else bb_mN W p j
theorem bb_mN_le {W : Nat → Nat} {p : Nat → Bool} {n : Nat} : bb_mN W p n ≤ 50 ∧ (∀ i, i < n → p i = true → bb_mN W p n ≤ W i) ∧ (bb_mN W p n = 50 ∨ ∃ i, i < n ∧ p i = true ∧ W i = bb_mN W p n) := by
  induction n with
  | zero => exact ⟨Nat.le_refl _, fun i hi => by omega, Or.inl rfl⟩
  | succ n ih =>
    obtain ⟨h1, h2, h3⟩ := ih
    simp only [bb_mN]
    by_cases hp : p n = true
    · rw [if_pos hp]
      by_cases hl : W n < bb_mN W p n
      · rw [if_pos hl]
        refine ⟨by omega, fun i hi hpi => ?_, Or.inr ⟨n, by omega, hp, rfl⟩⟩
        rcases Nat.lt_or_ge i n with h | h
        · have := h2 i h hpi; omega
        · have : i = n := by omega
          subst this; exact Nat.le_refl _
      · rw [if_neg hl]
        refine ⟨h1, fun i hi hpi => ?_, ?_⟩
        · rcases Nat.lt_or_ge i n with h | h
          · exact h2 i h hpi
          · have : i = n := by omega
            subst this; omega
        · rcases h3 with h3 | ⟨i, a, b, c⟩
          · exact Or.inl h3
          · exact Or.inr ⟨i, by omega, b, c⟩
    · rw [if_neg hp]
      refine ⟨h1, fun i hi hpi => ?_, ?_⟩
      · rcases Nat.lt_or_ge i n with h | h
        · exact h2 i h hpi
        · have : i = n := by omega
          subst this; exact absurd hpi hp
      · rcases h3 with h3 | ⟨i, a, b, c⟩
        · exact Or.inl h3
        · exact Or.inr ⟨i, by omega, b, c⟩
theorem bb_lm_nat {w : Nat → Int32} (hw : bb_wok w) (s : Int32) {n : Nat} (hn : n ≤ 10) : bb_lm w s n = nI (bb_mN (bb_N w) (bb_hb s) n) := by
  induction n with
  | zero => rfl
  | succ n ih =>
    have h1 := ih (by omega)
    have h2 := bb_wok_N hw (show n < 10 by omega)
    have h3 := (bb_mN_le (W := bb_N w) (p := bb_hb s) (n := n)).1
    simp only [bb_lm, bb_mN]
    by_cases h : bb_hb s n = true
    · rw [if_pos h, if_pos h, h1]
      by_cases hl : bb_N w n < bb_mN (bb_N w) (bb_hb s) n
      · rw [if_pos hl, if_pos (by rw [h2.1]; exact nI_lt hl (by omega))]; exact h2.1
      · rw [if_neg hl, if_neg (by rw [h2.1]; exact nI_nlt (by omega) (by omega))]
    · rw [if_neg h, if_neg h, h1]
theorem bb_e_bare {w : Nat → Int32} {k s : Int32} (hw : bb_wok w) (hk : bb_kok k) : bb_rbare w k s 10 = bb_bare w k s := by
  obtain ⟨K, hK1, hK2, rfl⟩ := hk
  unfold bb_rbare bb_bare
  show _ = (bb_en w (nI K) s && _)
  cases he : bb_en w (nI K) s with
  | false => rfl
  | true =>
    simp only [Bool.true_and]
    apply bb_bool
    have hS := (bb_en_iff hw hK2 s).mp he
    have hS5 := bb_ws_lt hw (bb_hb s)
    obtain ⟨m1, m2, m3⟩ := bb_mN_le (W := bb_N w) (p := bb_hb s) (n := 10)
    have hrem : ∀ n, n < 10 → bb_hb s n = true → (bb_en w (nI K) (s &&& bb_not ((1 : Int32) <<< (nI n &&& 31))) = true ↔ K ≤ bb_sw (bb_N w) (bb_hb s) 10 - bb_N w n) ∧ bb_N w n ≤ bb_sw (bb_N w) (bb_hb s) 10 := by
      intro n hn hb
      have h1 := bb_sw_rem (W := bb_N w) (p := bb_hb s) hn hb
      have h2 : bb_sw (bb_N w) (bb_hb (s &&& bb_not ((1 : Int32) <<< (nI n &&& 31)))) 10 = bb_sw (bb_N w) (fun i => bb_hb s i && !decide (i = n)) 10 :=
        bb_sw_congr (fun i hi => by rw [bb_hb_and (by omega), bb_hb_not (by omega), bb_hb_one (by omega) (by omega)])
      rw [bb_en_iff hw hK2, h2]
      constructor
      · constructor <;> intro _ <;> omega
      · omega
    rw [bb_al_iff, decide_eq_true_iff, bb_ws_nat hw s (Nat.le_refl _), bb_lm_nat hw s (Nat.le_refl _)]
    have hne : ∃ i, i < 10 ∧ bb_hb s i = true := by
      apply Classical.byContradiction
      intro hn
      have : bb_en w (nI K) s = false := bb_en_none ⟨K, hK1, hK2, rfl⟩ (fun i hi => by
        cases hb : bb_hb s i with
        | false => rfl
        | true => exact absurd ⟨i, hi, hb⟩ hn)
      rw [this] at he; cases he
    obtain ⟨i0, hi0, hb0⟩ := hne
    have hm0 := m2 i0 hi0 hb0
    have hw0 := (bb_wok_N hw hi0).2
    have hr0 := (hrem i0 hi0 hb0).2
    rw [pk_sub (by omega), nI_ltI (by omega) (by omega)]
    constructor
    · intro h
      rcases m3 with m3 | ⟨i, hi, hb, hW⟩
      · have hq := h i0 hi0
        rw [bb_hb0 (by omega), hb0] at hq
        simp only [Bool.not_true, Bool.false_or, Bool.not_eq_true'] at hq
        have hq2 : ¬ K ≤ bb_sw (bb_N w) (bb_hb s) 10 - bb_N w i0 := fun z => by rw [(hrem i0 hi0 hb0).1.mpr z] at hq; cases hq
        omega
      · have hq := h i hi
        rw [bb_hb0 (by omega), hb] at hq
        simp only [Bool.not_true, Bool.false_or, Bool.not_eq_true'] at hq
        have hq2 : ¬ K ≤ bb_sw (bb_N w) (bb_hb s) 10 - bb_N w i := fun z => by rw [(hrem i hi hb).1.mpr z] at hq; cases hq
        omega
    · intro h i hi
      rw [bb_hb0 (by omega)]
      cases hb : bb_hb s i with
      | false => rfl
      | true =>
        simp only [Bool.not_true, Bool.false_or, Bool.not_eq_true']
        cases hq : bb_en w (nI K) (s &&& bb_not ((1 : Int32) <<< (nI i &&& 31))) with
        | false => rfl
        | true =>
          have := (hrem i hi hb).1.mp hq
          have := m2 i hi hb
          omega
section Tie
variable {w : Nat → Int32} {k : Int32} {pr vo vf vt : Nat → Int32}
theorem bb_e_about2 (h : bb_ok w k pr vo vf vt) {n : Nat} (hn : n < 10) : bb_cn (fun b => decide (vt (31 * n + b) ≠ -1)) 31 = bb_cn (fun b => bb_hb (vo b) n) 31 :=
  bb_cn_congr (fun b hb => bb_vt_ne h hn hb)
theorem bb_e_about3 (h : bb_ok w k pr vo vf vt) {n : Nat} (hn : n < 10) : bb_la (fun b => decide (vt (31 * n + b) ≠ -1)) 31 = bb_la (fun b => decide (vo b &&& ((1 : Int32) <<< (nI n &&& 31)) ≠ 0)) 31 := by
  apply bb_la_congr
  intro b hb
  rw [bb_vt_ne h hn hb]
  obtain ⟨-, -, -, h4, -⟩ := id h
  obtain ⟨hl, -, -⟩ := h4 b hb
  apply bb_bool
  rw [decide_eq_true_iff, bb_lo_ne0 (bb_lo_and hl)]
  constructor
  · intro hh
    exact ⟨n, hn, by rw [bb_hb_and (by omega), hh, bb_hb_one (by omega) (by omega)]; simp⟩
  · intro ⟨i, hi, hh⟩
    rw [bb_hb_and (by omega), bb_hb_one (by omega) (by omega)] at hh
    simp only [Bool.and_eq_true, decide_eq_true_iff] at hh
    rw [← hh.2]; exact hh.1
theorem bb_e_count1 : bb_ws w 1023 10 = bb_wa w 10 := by
  have : ∀ n, n ≤ 10 → bb_ws w 1023 n = bb_wa w n := by
    intro n
    induction n with
    | zero => intro _; rfl
    | succ n ih => intro hn; simp only [bb_ws, bb_wa]; rw [if_pos (bb_hb_1023 n (by omega)), ih (by omega)]
  exact this 10 (Nat.le_refl _)
theorem bb_vs_nat (h : bb_ok w k pr vo vf vt) {n : Nat} (hn : n ≤ 31) : bb_vs vo n = nI (bb_sm (fun b => bb_cn (fun i => bb_hb (vo b) i) 10) n) := by
  induction n with
  | zero => rfl
  | succ n ih =>
    obtain ⟨-, -, -, h4, -⟩ := id h
    simp only [bb_vs, bb_sm]
    rw [ih (by omega), bb_bc_ok (h4 n (by omega)).1, nI_add]
theorem bb_e_count2 (h : bb_ok w k pr vo vf vt) : nI (bb_cn (fun j => decide (vt j ≠ -1)) 310) = bb_vs vo 31 := by
  rw [bb_vs_nat h (Nat.le_refl _), show 310 = 31 * 10 from rfl, bb_cn_block]
  congr 1
  rw [bb_sm_congr (g := fun i => bb_sm (fun b => if bb_hb (vo b) i = true then 1 else 0) 31) (fun i hi => by rw [bb_cn_congr (fun b hb => bb_vt_ne h hi hb), bb_cn_sm]), bb_sm_swap]
  apply bb_sm_congr
  intro b hb
  rw [bb_cn_sm]
theorem bb_e_count3 (h : bb_ok w k pr vo vf vt) : bb_cn (fun b => decide (bb_rch w k vt b ≠ -1)) 31 = bb_cn (fun b => decide (bb_cho w k vo vf b ≠ -1)) 31 :=
  bb_cn_congr (fun b hb => by rw [bb_e_ch h hb])
theorem bb_cho_in (h : bb_ok w k pr vo vf vt) {b : Nat} (hb : b < 31) : bb_cho w k vo vf b = -1 ∨ ∃ v : Nat, v < 10 ∧ bb_cho w k vo vf b = nI v := by
  obtain ⟨-, -, -, h4, -⟩ := id h
  unfold bb_cho
  split
  · exact (h4 b hb).2.2
  · exact Or.inl rfl
theorem bb_se_ok {ch : Nat → Int32} {n : Nat} (h : ∀ b, b < n → ch b = -1 ∨ ∃ v : Nat, v < 10 ∧ ch b = nI v) : bb_lo (bb_se ch n) ∧ ∀ v, v < 10 → bb_hb (bb_se ch n) v = bb_ex (fun b => decide (ch b = nI v)) n := by
  induction n with
  | zero => exact ⟨bb_lo_0, fun v hv => by simp [bb_se, bb_ex, bb_hb_0 (show v < 32 by omega)]⟩
  | succ n ih =>
    obtain ⟨h1, h2⟩ := ih (fun b hb => h b (by omega))
    simp only [bb_se, bb_ex]
    rcases h n (by omega) with h3 | ⟨t, ht, h3⟩
    · rw [if_pos h3]
      refine ⟨h1, fun v hv => ?_⟩
      rw [h2 v hv, h3, decide_eq_false (fun z => bb_m1 (show v < 2 ^ 31 by omega) z.symm), Bool.or_false]
    · rw [if_neg (by rw [h3]; exact bb_m1 (by omega)), h3]
      refine ⟨bb_lo_or h1 (bb_lo_one ht), fun v hv => ?_⟩
      rw [bb_hb_or (by omega), h2 v hv, bb_hb_one (by omega) (by omega)]
      congr 1
      apply bb_bool
      rw [decide_eq_true_iff, decide_eq_true_iff, nI_eq (by omega) (by omega)]
      exact ⟨fun z => z.symm, fun z => z.symm⟩
theorem bb_e_count4 (h : bb_ok w k pr vo vf vt) : nI (bb_cn (fun v => bb_ex (fun b => decide (bb_rch w k vt b = nI v)) 31) 10) = bb_bc (bb_se (bb_cho w k vo vf) 31) := by
  obtain ⟨h1, h2⟩ := bb_se_ok (ch := bb_cho w k vo vf) (n := 31) (fun b hb => bb_cho_in h hb)
  rw [bb_bc_ok h1]
  congr 1
  apply bb_cn_congr
  intro v hv
  rw [h2 v hv]
  apply bb_ex_congr
  intro b hb
  rw [bb_e_ch h hb]
theorem bb_e_hi {s : Int32} {b : Nat} (hb : b < 2 ^ 31) (pr : Nat → Int32) (n : Nat) : nI b < bb_hm pr s n ↔ bb_ex (fun i => bb_hb s i && decide (nI b < pr i)) n = true := by
  induction n with
  | zero =>
    constructor
    · intro z
      exact absurd (show nI b < nI 0 from z) (nI_nlt (by omega) hb)
    · intro z; cases z
  | succ n ih =>
    have e1 : bb_ex (fun i => bb_hb s i && decide (nI b < pr i)) (n + 1) = (bb_ex (fun i => bb_hb s i && decide (nI b < pr i)) n || (bb_hb s n && decide (nI b < pr n))) := rfl
    rw [e1, Bool.or_eq_true, ← ih]
    by_cases h : bb_hb s n = true
    · have e2 : bb_hm pr s (n + 1) = if bb_hm pr s n < pr n then pr n else bb_hm pr s n := by simp only [bb_hm]; rw [if_pos h]
      rw [e2, h, Bool.true_and, decide_eq_true_iff]
      by_cases hl : bb_hm pr s n < pr n
      · rw [if_pos hl]
        rw [Int32.lt_iff_toInt_lt] at hl
        rw [Int32.lt_iff_toInt_lt, Int32.lt_iff_toInt_lt]
        constructor
        · intro z; exact Or.inr z
        · rintro (z | z) <;> omega
      · rw [if_neg hl]
        rw [Int32.lt_iff_toInt_lt] at hl
        rw [Int32.lt_iff_toInt_lt, Int32.lt_iff_toInt_lt]
        constructor
        · intro z; exact Or.inl z
        · rintro (z | z) <;> omega
    · have e2 : bb_hm pr s (n + 1) = bb_hm pr s n := by simp only [bb_hm]; rw [if_neg h]
      simp at h
      rw [e2, h]; simp
theorem bb_fn_eq (h : bb_ok w k pr vo vf vt) {s : Int32} {c : Nat} (hc : c < 31) (acc : Int32) {n : Nat} (hn : n ≤ 10) : bb_fn s vt c acc n = if bb_ex (fun i => bb_hb s i && bb_hb (vo c) i) n = true then vf c else acc := by
  induction n with
  | zero => rfl
  | succ n ih =>
    simp only [bb_fn, bb_ex]
    rw [bb_vt_ne h (show n < 10 by omega) hc, ih (by omega)]
    obtain ⟨-, -, -, -, h5⟩ := id h
    by_cases hx : (bb_hb s n && bb_hb (vo c) n) = true
    · rw [if_pos hx, h5 n (by omega) c hc]
      simp only [Bool.and_eq_true] at hx
      simp [hx.1, hx.2]
    · rw [if_neg hx]
      simp only [Bool.not_eq_true] at hx
      simp only [hx, Bool.or_false]
theorem bb_e_ask (h : bb_ok w k pr vo vf vt) {s : Int32} {b : Nat} (hb : b ≤ 31) : bb_fo s vt b = bb_ask vo vf s b := by
  induction b with
  | zero => rfl
  | succ b ih =>
    have h1 := ih (by omega)
    obtain ⟨-, -, -, h4, -⟩ := id h
    obtain ⟨hl, -, -⟩ := h4 b (by omega)
    have h2 : bb_ex (fun i => bb_hb s i && bb_hb (vo b) i) 10 = decide (vo b &&& s ≠ 0) := by
      apply bb_bool
      rw [decide_eq_true_iff, bb_lo_ne0 (bb_lo_and hl), bb_ex_iff]
      constructor
      · intro ⟨i, hi, hx⟩
        simp only [Bool.and_eq_true] at hx
        exact ⟨i, hi, by rw [bb_hb_and (by omega), hx.1, hx.2]; rfl⟩
      · intro ⟨i, hi, hx⟩
        rw [bb_hb_and (by omega)] at hx
        simp only [Bool.and_eq_true] at hx
        exact ⟨i, hi, by rw [hx.1, hx.2]; rfl⟩
    have e0 : bb_fo s vt (b + 1) = bb_fn s vt b (bb_fo s vt b) 10 := rfl
    rw [e0, bb_fn_eq h (show b < 31 by omega) _ (Nat.le_refl _), h2, h1]
    by_cases hx : decide (vo b &&& s ≠ 0) = true
    · have e1 : bb_la (fun c => decide (vo c &&& s ≠ 0)) (b + 1) = nI b := by simp only [bb_la]; rw [if_pos hx]
      unfold bb_ask
      rw [if_pos hx, e1, if_neg (bb_m1 (by omega)), nI_clamp (by omega)]
    · have e1 : bb_la (fun c => decide (vo c &&& s ≠ 0)) (b + 1) = bb_la (fun c => decide (vo c &&& s ≠ 0)) b := by simp only [bb_la]; rw [if_neg hx]
      rw [if_neg hx]
      unfold bb_ask
      rw [e1]
theorem bb_ok_init {w pr vo vf vt : Nat → Int32} (h1 : ∀ n, n < 10 → w n = 1) (h2 : ∀ n, n < 10 → pr n = 0) (h3 : ∀ n, n < 31 → vo n = 0) (h4 : ∀ n, n < 31 → vf n = -1) (h5 : ∀ n, n < 310 → vt n = -1) : bb_ok w 6 pr vo vf vt := by
  refine ⟨fun n hn => ⟨1, by omega, h1 n hn⟩, ⟨6, by omega, by omega, rfl⟩, fun n hn => ⟨0, by omega, h2 n hn⟩, fun b hb => ⟨by rw [h3 b hb]; exact bb_lo_0, by rw [h3 b hb, h4 b hb]; simp, Or.inl (h4 b hb)⟩, fun n hn b hb => ?_⟩
  rw [h5 _ (by omega), h3 b hb, bb_hb_0 (by omega)]
  rfl
theorem bb_ok_weight (h : bb_ok w k pr vo vf vt) {n a : Nat} (ha : a ≤ 50) : bb_ok (upd w n (nI a)) k pr vo vf vt := by
  obtain ⟨h1, h2, h3, h4, h5⟩ := h
  refine ⟨fun i hi => ?_, h2, h3, h4, h5⟩
  by_cases e : i = n
  · subst e; exact ⟨a, ha, pk_us⟩
  · rw [pk_un e]; exact h1 i hi
theorem bb_ok_need (h : bb_ok w k pr vo vf vt) {a : Nat} (h0 : 1 ≤ a) (ha : a ≤ 500) : bb_ok w (nI a) pr vo vf vt := by
  obtain ⟨h1, h2, h3, h4, h5⟩ := h
  exact ⟨h1, ⟨a, h0, ha, rfl⟩, h3, h4, h5⟩
theorem bb_ok_promise (h : bb_ok w k pr vo vf vt) {n b : Nat} (hb : b < 31) : bb_ok w k (upd pr n (nI b)) vo vf vt := by
  obtain ⟨h1, h2, h3, h4, h5⟩ := h
  refine ⟨h1, h2, fun i hi => ?_, h4, h5⟩
  by_cases e : i = n
  · subst e; exact ⟨b, by omega, pk_us⟩
  · rw [pk_un e]; exact h3 i hi
theorem bb_ok_pal (h : bb_ok w k pr vo vf vt) {s : Int32} {b : Nat} (hb : b < 31) (n : Nat) : bb_ok w k (bb_pal pr s (nI b) n) vo vf vt := by
  induction n with
  | zero => exact h
  | succ n ih =>
    simp only [bb_pal]
    split
    · exact bb_ok_promise ih hb
    · exact ih
theorem bb_ok_vote (h : bb_ok w k pr vo vf vt) {n b v : Nat} (hn : n < 10) (hb : b < 31) (hv : v < 10) (ho : bb_only vf b (nI v) = true) :
    bb_ok w k (upd pr n (nI b)) (upd vo b (vo b ||| ((1 : Int32) <<< (nI n &&& 31)))) (upd vf b (nI v)) (upd vt (31 * n + b) (nI v)) := by
  obtain ⟨h1, h2, h3, h4, h5⟩ := bb_ok_promise h (n := n) hb
  refine ⟨h1, h2, h3, fun c hc => ?_, fun m hm c hc => ?_⟩
  · by_cases e : c = b
    · subst e
      rw [pk_us, pk_us]
      have hlo := bb_lo_or (h4 c hc).1 (bb_lo_one hn)
      refine ⟨hlo, ⟨fun z => absurd z (bb_m1 (by omega)), fun z => ?_⟩, Or.inr ⟨v, hv, rfl⟩⟩
      have : ∃ i, i < 10 ∧ bb_hb (vo c ||| ((1 : Int32) <<< (nI n &&& 31))) i = true := ⟨n, hn, by rw [bb_hb_or (by omega), bb_hb_one (by omega) (by omega)]; simp⟩
      exact absurd z ((bb_lo_ne0 hlo).mpr this)
    · rw [pk_un e, pk_un e]; exact h4 c hc
  · by_cases e : c = b
    · subst e
      rw [pk_us, pk_us, bb_hb_or (by omega), bb_hb_one (by omega) (by omega)]
      by_cases e2 : m = n
      · subst e2; rw [pk_us]; simp
      · rw [pk_un (by omega), h5 m hm c hc, decide_eq_false e2, Bool.or_false]
        by_cases hh : bb_hb (vo c) m = true
        · rw [if_pos hh, if_pos hh]
          have h8 : vf c ≠ -1 := fun z => (bb_lo_ne0 (h4 c hc).1).mpr ⟨m, hm, hh⟩ ((h4 c hc).2.1.mp z)
          unfold bb_only at ho
          simpa [h8] using ho
        · rw [if_neg hh, if_neg hh]
    · rw [pk_un e, pk_un e, pk_un (by omega), h5 m hm c hc]
theorem bb_e_many (h : bb_ok w k pr vo vf vt) {b : Nat} (hb : b < 31) : nI (bb_cn (fun m => decide (vt (31 * m + b) ≠ -1)) 10) = bb_bc (vo b) := by
  obtain ⟨-, -, -, h4, -⟩ := id h
  rw [bb_bc_ok (h4 b hb).1]
  congr 1
  exact bb_cn_congr (fun i hi => bb_vt_ne h hi hb)
end Tie
/-! arguments that there are, and that there aren't -/
def bb_out (v mo : Int32) : Bool := decide (v < 0) || !decide (v < mo)
theorem bb_out_no {n N : Nat} (h : n < N) (hN : N < 2 ^ 31) : bb_out (nI n) (nI N) = false := by
  unfold bb_out
  rw [decide_eq_false (nI_pos (by omega)), decide_eq_true (nI_lt h hN)]
  rfl
theorem bb_out_or (x : Int32) {N : Nat} (hN : N < 2 ^ 31) : bb_out x (nI N) = true ∨ ∃ n : Nat, n < N ∧ x = nI n := by
  rcases pk_ix x hN with h | h | ⟨j, h1, h2⟩
  · exact Or.inl (by unfold bb_out; rw [decide_eq_true h]; rfl)
  · refine Or.inl ?_
    unfold bb_out
    rw [decide_eq_false (show ¬ x < nI N from fun z => by rw [Int32.lt_iff_toInt_lt] at z; rw [Int32.le_iff_toInt_le] at h; omega)]
    simp
  · exact Or.inr ⟨j, h1, h2⟩
theorem bb_out_t {x : Int32} {N : Nat} (h : bb_out x (nI N) = true) : x < 0 ∨ ¬ x < nI N := by
  unfold bb_out at h
  simpa using h
theorem bb_or1 (b : Bool) : bb_I b ||| 1 = 1 := by cases b <;> decide
theorem bb_or0 (b : Bool) : bb_I b ||| 0 = bb_I b := by cases b <;> decide
theorem bb_rbare_succ (w : Nat → Int32) (k s : Int32) (i : Nat) : bb_rbare w k s (i + 1) = (bb_rbare w k s i && (decide ((s >>> (nI i &&& 31)) &&& 1 = 0) || !bb_en w k (s &&& bb_not ((1 : Int32) <<< (nI i &&& 31))))) := by
  unfold bb_rbare
  simp only [bb_al, Bool.and_assoc]
theorem bb_rbare_0 (w : Nat → Int32) (k s : Int32) : bb_rbare w k s 0 = bb_en w k s := by
  unfold bb_rbare
  simp [bb_al]
theorem bb_rbare_mono {w : Nat → Int32} {k s : Int32} {i n : Nat} (h : bb_rbare w k s i = false) (hi : i ≤ n) : bb_rbare w k s n = false := by
  unfold bb_rbare at h ⊢
  cases he : bb_en w k s with
  | false => rfl
  | true =>
    rw [he, Bool.true_and] at h
    rw [Bool.true_and]
    exact bb_al_mono h hi
theorem bb_la_in {p : Nat → Bool} {n : Nat} (h : ¬ bb_la p n = -1) : ∃ c : Nat, c < n ∧ bb_la p n = nI c := by
  induction n with
  | zero => exact absurd rfl h
  | succ n ih =>
    simp only [bb_la] at h ⊢
    by_cases hp : p n = true
    · rw [if_pos hp]
      exact ⟨n, by omega, rfl⟩
    · rw [if_neg hp] at h ⊢
      obtain ⟨c, h1, h2⟩ := ih h
      exact ⟨c, by omega, h2⟩
end
section
/-! rows of our own: loops, pure calls, array reads by a number -/
theorem bb_for {I : Nat → Array Slot → Prop} {G : Array Slot → Prop} (N : Nat) (step : ∀ j ls, j < N → I j ls → (∀ ls', I (j + 1) ls' → G ls') → G ls) (exit : ∀ ls, I N ls → G ls) : ∀ j ls, j ≤ N → I j ls → G ls := by
  intro j
  induction h : N - j generalizing j with
  | zero =>
    intro ls hj hi
    have e1 : j = N := by omega
    subst e1
    exact exit ls hi
  | succ d ih =>
    intro ls hj hi
    exact step j ls (by omega) hi (fun ls' h' => ih (j + 1) (by omega) ls' (by omega) h')
theorem bb_forH {I : Nat → Array Slot → Heap → List Loc → Prop} {G : Array Slot → Heap → List Loc → Prop} (N : Nat) (step : ∀ j ls H L, j < N → I j ls H L → (∀ ls' H' L', I (j + 1) ls' H' L' → G ls' H' L') → G ls H L) (exit : ∀ ls H L, I N ls H L → G ls H L) : ∀ j ls H L, j ≤ N → I j ls H L → G ls H L := by
  intro j
  induction h : N - j generalizing j with
  | zero =>
    intro ls H L hj hi
    have e1 : j = N := by omega
    subst e1
    exact exit ls H L hi
  | succ d ih =>
    intro ls H L hj hi
    exact step j ls H L (by omega) hi (fun ls' H' L' h' => ih (j + 1) (by omega) ls' H' L' (by omega) h')
theorem bb_down {I : Nat → Array Slot → Prop} {G : Array Slot → Prop} (step : ∀ j ls, I (j + 1) ls → (∀ ls', I j ls' → G ls') → G ls) (exit : ∀ ls, I 0 ls → G ls) : ∀ j ls, I j ls → G ls := by
  intro j
  induction j with
  | zero => exact exit
  | succ j ih => exact fun ls hi => step j ls hi ih
theorem bb_inc (j : Nat) : nI j + Int32.ofInt 1 = nI (j + 1) := (nI_succ j).symm
theorem bb_dec (j : Nat) : nI (j + 1) - 1 + Int32.ofInt (-1) = nI j - 1 := by
  rw [nI_succ]
  apply Int32.toBitVec_inj.mp
  show ((nI j).toBitVec + 1#32 - 1#32) + (-1#32) = (nI j).toBitVec - 1#32
  generalize (nI j).toBitVec = x
  rw [BitVec.sub_eq_add_neg, BitVec.sub_eq_add_neg, BitVec.add_assoc x, BitVec.add_assoc x]
  congr 1
theorem bb_z0 : narrow .boolean (.int 0) = .int 0 := rfl
theorem bb_z1 : narrow .boolean (.int 1) = .int 1 := rfl
theorem bb_zI (b : Bool) : narrow .boolean (.int (bb_I b)) = .int (bb_I b) := by cases b <;> rfl
def bb_B (D : va_G) (cl : List vw_C) (wd : va_W) (tys : List (ClassId × FieldType)) : State → Prop := fun U => va_P D cl wd U.heap ∧ va_K D cl tys U
theorem bb_blind {av : List Value} {D : va_G} {cl : List vw_C} {wd : va_W} {tys : List (ClassId × FieldType)} : FrameBlind (va_Pc av (bb_B D cl wd tys)) :=
  fun a U g mk q => ⟨q.1, q.2.1, va_K.moved (u := U) (U := U.calling g mk a) (Vm.Alike.refl U.vm) q.2.2⟩
section BbRows
variable {p : Program} {l : Launch} {e : Env} {R : Room} {s : State} {m : MethodId} {args : Array Value} {below : List Frame} {meth : Method} {c : Code} {H : Heap} {locs : List Loc} {cells slots : Nat} {Q : State → Prop} {pc : Nat} {ls : Array Slot} {st rest : List Value} {cc : ByteArray}
theorem bb_topi {x y : Int32} (e1 : x = y) (k : W p l e R s m args below meth c H locs cells slots Q (F0 m pc ls (.int y :: rest))) : W p l e R s m args below meth c H locs cells slots Q (F0 m pc ls (.int x :: rest)) := by
  subst e1
  exact k
theorem bb_ald {D : va_G} {cl : List vw_C} {wd : va_W} {tys : List (ClassId × FieldType)} {a : Nat} (hexec : p.tables.exec = Jvm.exec) (hb : c.code = cc) (hK : va_K D cl tys s) (hP : va_P D cl wd H) (q0 t0 : Nat) {cA : ClassId} {n : Nat} {f : Nat → Int32} (ha : wd[q0]? = some (a, .inl (cA, n, .inl f))) (ht : tys[t0]? = some (cA, .int)) (j : Nat) (hj : j < n) (hn : n < 2 ^ 31) (hdg : decode cc pc = .ok (.iaload, 1))
    (kk : W p l e R s m args below meth c H locs cells slots Q (F0 m (pc + 1) ls (.int (f j) :: rest))) : W p l e R s m args below meth c H locs cells slots Q (F0 m pc ls (.int (nI j) :: .ref a :: rest)) := by
  refine va_iald hexec hb hK hP q0 t0 ha ht (vp_in_nI hj hn) hdg ?_
  rw [nI_clamp (Nat.lt_trans hj hn)]
  exact kk
theorem bb_ast {D : va_G} {cl : List vw_C} {wd : va_W} {tys : List (ClassId × FieldType)} {a : Nat} {A : Nat → Prop} {H0 : Heap} (hexec : p.tables.exec = Jvm.exec) (hb : c.code = cc) (hK : va_K D cl tys s) (hP : va_P D cl wd H) (hD : va_D A wd) (hS : va_S A H0 H locs) (q0 t0 : Nat) {cA : ClassId} {n : Nat} {f : Nat → Int32} (ha : wd[q0]? = some (a, .inl (cA, n, .inl f))) (ht : tys[t0]? = some (cA, .int)) (j : Nat) {x : Int32} (hj : j < n) (hn : n < 2 ^ 31) (hdg : decode cc pc = .ok (.iastore, 1))
    (kk : ∀ (H1 : Heap) (locs1 : List Loc), va_P D cl (wd.set q0 (a, .inl (cA, n, .inl (upd f j x)))) H1 → va_D A (wd.set q0 (a, .inl (cA, n, .inl (upd f j x)))) → va_S A H0 H1 locs1 → W p l e R s m args below meth c H1 locs1 cells slots Q (F0 m (pc + 1) ls rest)) : W p l e R s m args below meth c H locs cells slots Q (F0 m pc ls (.int x :: .int (nI j) :: .ref a :: rest)) := by
  refine va_iast hexec hb hK hP hD hS q0 t0 ha ht (vp_in_nI hj hn) hdg ?_
  rw [nI_clamp (Nat.lt_trans hj hn)]
  exact kk
variable {Ts ws ws' : List Cond} {bytes : ByteArray} {nL maxL index n : Nat} {own C : String} {y : MethodName} {ret : Option FieldType} {rm : Room} {As : List Value} {r : Int32}
/-- a static call that reads nothing -/
theorem bb_cS (S : CallFix p m c cc nL s args Ts own) (hM : Met l y ws rm (va_Pc As (fun _ => True)) (QcRead r) 0 0 (fun _ => False)) (cw : CallB R s args own index y bytes maxL ret ws rm 0 0 n ∧ (Cond.static y).before args s = true)
    (hn : As.length = n) (hsize : ls.size = nL) (hstack : st = As.reverse ++ rest) (hW : (rest.map fun v => v.category).sum ≤ 8) (hdg : decode cc pc = .ok (.invokestatic index, 3)) (hc : cells ≤ R.cells) (hs : slots ≤ R.slots)
    (kk : W p l e R s m args below meth c H locs cells slots Q (F0 m (pc + 3) ls (.int r :: rest))) : W p l e R s m args below meth c H locs cells slots Q (F0 m pc ls st) :=
  W.callR (a := As.toArray) (W.runS (g := F0 m pc ls st) (rest := rest) S hM cw ⟨fun _ _ _ _ q => q, fun _ _ _ => ⟨rfl, trivial⟩⟩ rfl hn hsize hstack (lv_room hW) hdg ⟨hc, hs⟩) kk
/-- a virtual call that reads the same world -/
theorem bb_cV {D : va_G} {cl : List vw_C} {wd : va_W} {tys : List (ClassId × FieldType)} {b ci : Nat} (q0 : Nat) {fs : List Value} {T : u_T} {N : Nat} (S : CallFix p m c cc nL s args Ts own) (hM : Met l y ws rm (va_Pc (.ref b :: As) (bb_B D cl wd tys)) (QcRead r) 0 0 (fun _ => False)) (cw : CallW R s args own C index y bytes maxL ret ws rm 0 0 n)
    (hP : va_P D cl wd H) (hK : va_K D cl tys s) (he : wd[q0]? = some (b, .inr (ci, fs))) (hcl : cl[ci]? = some (C, T, N))
    (hn : As.length = n) (hsize : ls.size = nL) (hstack : st = As.reverse ++ .ref b :: rest) (hW : (rest.map fun v => v.category).sum ≤ 8) (hdg : decode cc pc = .ok (.invokevirtual index, 3)) (hc : cells ≤ R.cells) (hs : slots ≤ R.slots)
    (kk : W p l e R s m args below meth c H locs cells slots Q (F0 m (pc + 3) ls (.int r :: rest))) : W p l e R s m args below meth c H locs cells slots Q (F0 m pc ls st) :=
  W.callR (a := (.ref b :: As).toArray) (W.runV (g := F0 m pc ls st) (rest := rest) (b := b) (C := C) S hM cw ⟨bb_blind, va_recv hK hP hcl he, fun U hU hW' => ⟨rfl, by rw [hU]; exact hP, va_K.moved hW'.alike hK⟩⟩ rfl hn hsize hstack (lv_room hW) hdg ⟨hc, hs⟩) kk
end BbRows
theorem bb_cell_ext {cA : ClassId} {n : Nat} {f g : Nat → Int32} (h : ∀ j, j < n → f j = g j) : vp_cell cA (n, .inl f) = vp_cell cA (n, .inl g) := by
  rw [vp_cell_i, vp_cell_i]
  unfold arrV
  congr 2
  funext j
  show Value.int (f j.val) = Value.int (g j.val)
  rw [h j.val j.isLt]
theorem bb_P_ext {D : va_G} {cl : List vw_C} {wd : va_W} {H : Heap} {A : Nat → Prop} {q0 a : Nat} {cA : ClassId} {n : Nat} {f g : Nat → Int32} (hP : va_P D cl wd H) (hD : va_D A wd) (ha : wd[q0]? = some (a, .inl (cA, n, .inl f))) (h : ∀ j, j < n → f j = g j) : va_P D cl (wd.set q0 (a, .inl (cA, n, .inl g))) H := by
  refine hP.set hD ha ?_ (fun q _ => rfl)
  show H[a]? = some (vp_cell cA (n, .inl g))
  rw [← bb_cell_ext h]
  exact hP q0 _ ha
theorem bb_nz {b : Bool} (h : ¬ bb_I b = 0) : b = true := by cases b with | true => rfl | false => exact absurd rfl h
theorem bb_le {x y : Int32} (h : ¬ x < y) : y ≤ x := by rw [Int32.lt_iff_toInt_lt] at h; rw [Int32.le_iff_toInt_le]; omega
theorem bb_lt {x y : Int32} (h : ¬ x ≤ y) : y < x := by rw [Int32.le_iff_toInt_le] at h; rw [Int32.lt_iff_toInt_lt]; omega
theorem bb_nle {x y : Int32} (h : x < y) : ¬ y ≤ x := by rw [Int32.lt_iff_toInt_lt] at h; rw [Int32.le_iff_toInt_le]; omega
theorem bb_nlt {x y : Int32} (h : x ≤ y) : ¬ y < x := by rw [Int32.le_iff_toInt_le] at h; rw [Int32.lt_iff_toInt_lt]; omega
/-- a walk from the start, its heap as a name -/
theorem bb_gen {p : Program} {l : Launch} {e : Env} {R : Room} {s : State} {m : MethodId} {args : Array Value} {below : List Frame} {meth : Method} {c : Code} {cells slots : Nat} {Q : State → Prop} {g : JFrame} {A : Nat → Prop} {D : va_G} {cl : List vw_C} {wd : va_W} (hP : va_P D cl wd s.heap) (hD : va_D A wd)
    (k : ∀ (H : Heap) (locs : List Loc), va_P D cl wd H → va_D A wd → va_S A s.heap H locs → W p l e R s m args below meth c H locs cells slots Q g) : W p l e R s m args below meth c s.heap [] cells slots Q g := k s.heap [] hP hD va_S.rf
/-- a contract's start and end where cells change -/
def bb_Pm (av : List Value) (D : va_G) (cl : List vw_C) (wd : va_W) (tys : List (ClassId × FieldType)) (sz : Nat) : Array Value → State → Prop := va_Pc av (fun U => U.heap.size = sz ∧ va_P D cl wd U.heap ∧ va_K D cl tys U ∧ va_D (fun _ => True) wd)
theorem bb_Pm_blind {av : List Value} {D : va_G} {cl : List vw_C} {wd : va_W} {tys : List (ClassId × FieldType)} {sz : Nat} : FrameBlind (bb_Pm av D cl wd tys sz) :=
  fun a U g mk q => ⟨q.1, q.2.1, q.2.2.1, va_K.moved (u := U) (U := U.calling g mk a) (Vm.Alike.refl U.vm) q.2.2.2.1, q.2.2.2.2⟩
abbrev bb_Qm (r : Int32) (D : va_G) (cl : List vw_C) (wd : va_W) (A : Nat → Prop) : Array Value → State → Outcome → State → Prop := va_Qi (S := Unit) (fun x _ => x = r) (fun _ t => va_P D cl wd t.heap) A
abbrev bb_Qv (D : va_G) (cl : List vw_C) (wd : va_W) (A : Nat → Prop) : Array Value → State → Outcome → State → Prop := va_Qv (S := Unit) (fun _ => True) (fun _ t => va_P D cl wd t.heap) A
/-- apart by its addresses alone -/
theorem bb_D_addr {A : Nat → Prop} {wd wd' : va_W} (h : va_D A wd) (ha : wd'.map Prod.fst = wd.map Prod.fst) : va_D A wd' := by
  have key : ∀ (i : Nat) (q : Nat × va_E), wd'[i]? = some q → ∃ e : va_E, wd[i]? = some (q.1, e) := by
    intro i q hq
    have h1 : (wd'.map Prod.fst)[i]? = some q.1 := by rw [List.getElem?_map, hq]; rfl
    rw [ha, List.getElem?_map] at h1
    cases h2 : wd[i]? with
    | none => rw [h2] at h1; cases h1
    | some z =>
      rw [h2] at h1
      have h3 : z.1 = q.1 := Option.some.inj h1
      exact ⟨z.2, by rw [← h3]⟩
  refine ⟨fun i j p q hp hq he => ?_, fun k q hq => ?_⟩
  · obtain ⟨e1, h1⟩ := key i p hp
    obtain ⟨e2, h2⟩ := key j q hq
    exact h.1 i j _ _ h1 h2 he
  · obtain ⟨e1, h1⟩ := key k q hq
    exact h.2 k (q.1, e1) h1
/-- what lies beside the cells that a callee may change is as it was -/
theorem bb_frame {A : Nat → Prop} {D : va_G} {cl : List vw_C} {pre wc wc' post : va_W} {H H1 : Heap} (hP : va_P D cl (pre ++ wc ++ post) H) (hD : va_D A (pre ++ wc ++ post)) (hk : ∀ q : Nat, q < H.size → ¬ va_A wc H.size q → H1[q]? = H[q]?) (hP1 : va_P D cl wc' H1) : va_P D cl (pre ++ wc' ++ post) H1 := by
  have old : ∀ (i : Nat) (q : Nat × va_E), (pre ++ wc ++ post)[i]? = some q → ¬ (pre.length ≤ i ∧ i < pre.length + wc.length) → va_at D cl q H1 := by
    intro i q hq hi
    have h0 := hP i q hq
    refine h0.kept (hk _ h0.lt ?_)
    rintro (⟨k, e, h⟩ | h)
    · have h1 : (pre ++ wc ++ post)[pre.length + k]? = some (q.1, e) := by
        have hlt : k < wc.length := (List.getElem?_eq_some_iff.mp h).1
        rw [List.append_assoc, List.getElem?_append_right (by omega), List.getElem?_append_left (by omega)]
        rw [show pre.length + k - pre.length = k by omega]
        exact h
      have h2 := hD.1 i (pre.length + k) q (q.1, e) hq h1 rfl
      have hlt : k < wc.length := (List.getElem?_eq_some_iff.mp h).1
      exact hi ⟨by omega, by omega⟩
    · have := h0.lt
      omega
  intro i q hq
  rcases Nat.lt_or_ge i pre.length with h1 | h1
  · refine old i q ?_ (by omega)
    rw [List.append_assoc, List.getElem?_append_left h1] at hq ⊢
    exact hq
  · rw [List.append_assoc, List.getElem?_append_right h1] at hq
    rcases Nat.lt_or_ge (i - pre.length) wc'.length with h2 | h2
    · rw [List.getElem?_append_left h2] at hq
      exact hP1 _ q hq
    · rw [List.getElem?_append_right h2] at hq
      refine old (pre.length + wc.length + (i - pre.length - wc'.length)) q ?_ (by omega)
      rw [List.append_assoc, List.getElem?_append_right (by omega), List.getElem?_append_right (by omega)]
      rw [show pre.length + wc.length + (i - pre.length - wc'.length) - pre.length - wc.length = i - pre.length - wc'.length by omega]
      exact hq
section BbCallM
variable {p : Program} {l : Launch} {e : Env} {R : Room} {s : State} {m : MethodId} {args : Array Value} {below : List Frame} {meth : Method} {c : Code} {H H0 : Heap} {locs : List Loc} {cells slots : Nat} {Q : State → Prop} {pc : Nat} {ls : Array Slot} {st rest : List Value} {cc : ByteArray}
variable {Ts ws ws' : List Cond} {bytes : ByteArray} {nL maxL index n mc ms : Nat} {own C : String} {y : MethodName} {ret : Option FieldType} {rm : Room} {As : List Value} {r : Int32} {A : Nat → Prop} {D : va_G} {cl : List vw_C} {wd wd' pre wc wc' post : va_W} {tys tyc : List (ClassId × FieldType)}
/-- a virtual call that changes its world, which is all of ours -/
theorem bb_cVm {b ci : Nat} (q0 : Nat) {fs : List Value} {T : u_T} {N : Nat} (S : CallFix p m c cc nL s args Ts own) (hM : Met l y ws rm (bb_Pm (.ref b :: As) D cl wd tys H.size) (bb_Qm r D cl wd' (va_A wd H.size)) mc ms (va_A wd H.size)) (cw : CallW R s args own C index y bytes maxL ret ws rm mc ms n)
    (hP : va_P D cl wd H) (hK : va_K D cl tys s) (hD : va_D A wd) (hS : va_S A H0 H locs) (hA : ∀ q : Nat, H0.size ≤ q → A q) (hadd : wd'.map Prod.fst = wd.map Prod.fst) (he : wd[q0]? = some (b, .inr (ci, fs))) (hcl : cl[ci]? = some (C, T, N))
    (hn : As.length = n) (hsize : ls.size = nL) (hstack : st = As.reverse ++ .ref b :: rest) (hW : (rest.map fun v => v.category).sum ≤ 8) (hdg : decode cc pc = .ok (.invokevirtual index, 3)) (hc : cells + mc ≤ R.cells) (hs : slots + ms ≤ R.slots)
    (kk : ∀ (H1 : Heap) (locs1 : List Loc), va_P D cl wd' H1 → va_D A wd' → va_S A H0 H1 locs1 → W p l e R s m args below meth c H1 locs1 (cells + mc) (slots + ms) Q (F0 m (pc + 3) ls (.int r :: rest))) : W p l e R s m args below meth c H locs cells slots Q (F0 m pc ls st) := by
  have hFc : ∀ q, va_A wd H.size q → A q := by
    rintro q (⟨k, e9, h⟩ | h)
    · exact hD.2 k _ h
    · exact hA q (Nat.le_trans hS.1 h)
  refine va_calli (va_runV (b := b) (C := C) (As := As) (rest := rest) S hM cw ⟨bb_Pm_blind, va_recv hK hP hcl he, fun U hU hW' => ⟨rfl, by rw [hU], by rw [hU]; exact hP, va_K.moved hW'.alike hK, hD.weaken (fun _ _ _ _ => trivial)⟩⟩ rfl hn hsize hstack (lv_room hW) hdg ⟨hc, hs⟩) hS (fun q _ h => hFc q h) hFc (fun r' u t H1 locs1 ht _ hpost hB _ _ hS1 => ?_)
  subst hpost
  rw [ht] at hB
  exact kk H1 locs1 hB (bb_D_addr hD hadd) hS1
end BbCallM
def bb_QV : Array Value → State → Outcome → State → Prop := fun _ st o t => o = .returned none ∧ t.heap = st.heap
section BbCallV
variable {p : Program} {l : Launch} {e : Env} {R : Room} {s : State} {m : MethodId} {args : Array Value} {below : List Frame} {meth : Method} {c : Code} {H H0 : Heap} {locs : List Loc} {cells slots : Nat} {Q : State → Prop} {pc : Nat} {ls : Array Slot} {st rest : List Value} {cc : ByteArray}
variable {Ts ws ws' : List Cond} {bytes : ByteArray} {nL maxL index n mc ms : Nat} {own C : String} {y : MethodName} {ret : Option FieldType} {rm : Room} {As : List Value} {r : Int32} {A : Nat → Prop} {D : va_G} {cl : List vw_C} {wd wd' : va_W} {tys : List (ClassId × FieldType)}
/-- a static call that hands nothing back and changes nothing -/
theorem bb_cSv (S : CallFix p m c cc nL s args Ts own) (hM : Met l y ws rm (va_Pc As (fun _ => True)) bb_QV 0 0 (fun _ => False)) (cw : CallB R s args own index y bytes maxL ret ws rm 0 0 n ∧ (Cond.static y).before args s = true)
    (hn : As.length = n) (hsize : ls.size = nL) (hstack : st = As.reverse ++ rest) (hW : (rest.map fun v => v.category).sum ≤ 8) (hdg : decode cc pc = .ok (.invokestatic index, 3)) (hc : cells ≤ R.cells) (hs : slots ≤ R.slots)
    (kk : W p l e R s m args below meth c H locs cells slots Q (F0 m (pc + 3) ls rest)) : W p l e R s m args below meth c H locs cells slots Q (F0 m pc ls st) := by
  have hr : CallRun p l e R s m args below meth c H locs cells slots 0 0 (F0 m pc ls st) rest (bb_QV As.toArray) (fun _ => False) :=
    W.runS (g := F0 m pc ls st) (rest := rest) S hM cw ⟨fun _ _ _ _ q => q, fun _ _ _ => ⟨rfl, trivial⟩⟩ rfl hn hsize hstack (lv_room hW) hdg ⟨hc, hs⟩
  intro T hT X
  obtain ⟨v, st₀, t, T', L, h0, X', hL, e1, ⟨hv, hh⟩, stp⟩ := hr T hT X
  cases hv
  obtain ⟨t2, a1, b1⟩ := kk T' (by rw [e1, hh, h0]) (Stand.forget X' (fun q h => (hL q h).elim))
  exact ⟨t2, stp t2 a1, b1⟩
/-- a virtual call that hands nothing back and changes its world, which is all of ours -/
theorem bb_cVmv {b ci : Nat} (q0 : Nat) {fs : List Value} {T : u_T} {N : Nat} (S : CallFix p m c cc nL s args Ts own) (hM : Met l y ws rm (bb_Pm (.ref b :: As) D cl wd tys H.size) (bb_Qv D cl wd' (va_A wd H.size)) mc ms (va_A wd H.size)) (cw : CallW R s args own C index y bytes maxL ret ws rm mc ms n)
    (hP : va_P D cl wd H) (hK : va_K D cl tys s) (hD : va_D A wd) (hS : va_S A H0 H locs) (hA : ∀ q : Nat, H0.size ≤ q → A q) (hadd : wd'.map Prod.fst = wd.map Prod.fst) (he : wd[q0]? = some (b, .inr (ci, fs))) (hcl : cl[ci]? = some (C, T, N))
    (hn : As.length = n) (hsize : ls.size = nL) (hstack : st = As.reverse ++ .ref b :: rest) (hW : (rest.map fun v => v.category).sum ≤ 8) (hdg : decode cc pc = .ok (.invokevirtual index, 3)) (hc : cells + mc ≤ R.cells) (hs : slots + ms ≤ R.slots)
    (kk : ∀ (H1 : Heap) (locs1 : List Loc), va_P D cl wd' H1 → va_D A wd' → va_S A H0 H1 locs1 → W p l e R s m args below meth c H1 locs1 (cells + mc) (slots + ms) Q (F0 m (pc + 3) ls rest)) : W p l e R s m args below meth c H locs cells slots Q (F0 m pc ls st) := by
  have hFc : ∀ q, va_A wd H.size q → A q := by
    rintro q (⟨k, e9, h⟩ | h)
    · exact hD.2 k _ h
    · exact hA q (Nat.le_trans hS.1 h)
  refine va_callv (va_runV (b := b) (C := C) (As := As) (rest := rest) S hM cw ⟨bb_Pm_blind, va_recv hK hP hcl he, fun U hU hW' => ⟨rfl, by rw [hU], by rw [hU]; exact hP, va_K.moved hW'.alike hK, hD.weaken (fun _ _ _ _ => trivial)⟩⟩ rfl hn hsize hstack (lv_room hW) hdg ⟨hc, hs⟩) hS (fun q _ h => hFc q h) hFc (fun u t H1 locs1 ht _ _ hB _ _ hS1 => ?_)
  rw [ht] at hB
  exact kk H1 locs1 hB (bb_D_addr hD hadd) hS1
end BbCallV
section BbLoops
variable {p : Program} {l : Launch} {e : Env} {R : Room} {s : State} {m : MethodId} {args : Array Value} {below : List Frame} {meth : Method} {c : Code} {H : Heap} {locs : List Loc} {cells slots : Nat} {Q : State → Prop} {pc : Nat} {st : List Value}
theorem bb_forW {I : Nat → Array Slot → Prop} (N : Nat) (step : ∀ j ls, j < N → I j ls → (∀ ls', I (j + 1) ls' → W p l e R s m args below meth c H locs cells slots Q (F0 m pc ls' st)) → W p l e R s m args below meth c H locs cells slots Q (F0 m pc ls st)) (exit : ∀ ls, I N ls → W p l e R s m args below meth c H locs cells slots Q (F0 m pc ls st)) (j : Nat) (ls : Array Slot) (hj : j ≤ N) (hi : I j ls) : W p l e R s m args below meth c H locs cells slots Q (F0 m pc ls st) :=
  bb_for (G := fun ls => W p l e R s m args below meth c H locs cells slots Q (F0 m pc ls st)) N step exit j ls hj hi
theorem bb_downW {I : Nat → Array Slot → Prop} (step : ∀ j ls, I (j + 1) ls → (∀ ls', I j ls' → W p l e R s m args below meth c H locs cells slots Q (F0 m pc ls' st)) → W p l e R s m args below meth c H locs cells slots Q (F0 m pc ls st)) (exit : ∀ ls, I 0 ls → W p l e R s m args below meth c H locs cells slots Q (F0 m pc ls st)) (j : Nat) (ls : Array Slot) (hi : I j ls) : W p l e R s m args below meth c H locs cells slots Q (F0 m pc ls st) :=
  bb_down (G := fun ls => W p l e R s m args below meth c H locs cells slots Q (F0 m pc ls st)) step exit j ls hi
theorem bb_forHW {I : Nat → Array Slot → Heap → List Loc → Prop} (N : Nat) (step : ∀ j ls H L, j < N → I j ls H L → (∀ ls' H' L', I (j + 1) ls' H' L' → W p l e R s m args below meth c H' L' cells slots Q (F0 m pc ls' st)) → W p l e R s m args below meth c H L cells slots Q (F0 m pc ls st)) (exit : ∀ ls H L, I N ls H L → W p l e R s m args below meth c H L cells slots Q (F0 m pc ls st)) (j : Nat) (ls : Array Slot) (H : Heap) (L : List Loc) (hj : j ≤ N) (hi : I j ls H L) : W p l e R s m args below meth c H L cells slots Q (F0 m pc ls st) :=
  bb_forH (G := fun ls H L => W p l e R s m args below meth c H L cells slots Q (F0 m pc ls st)) N step exit j ls H L hj hi
end BbLoops
theorem bb_al_step {p : Nat → Bool} {j : Nat} (h : bb_al p j = true) (hp : p j = true) : bb_al p (j + 1) = true := by
  simp only [bb_al]; rw [h, hp]; rfl
theorem bb_ex_step {p : Nat → Bool} {j : Nat} (h : bb_ex p j = false) (hp : p j = false) : bb_ex p (j + 1) = false := by
  simp only [bb_ex]; rw [h, hp]; rfl
end
section
/-! methods that throw (launches that keep no traces): a contract of their own, its rows, and the catch -/
/-- q was thrown: one new object of the class E, nothing old changed -/
def bb_X (E : String) (s : State) (q : Addr) (t : State) : Prop :=
  (∃ ce : Cell, t.heap[q]? = some ce ∧ ce.vm = .none ∧ s.vm.findClass E = some ce.cls) ∧ s.WarmedH t.vm ∧ s.sameButNew ({ t with vm := s.vm } : State) [] 1 6
def bb_MQ (below : List Frame) (E : String) (s : State) : State → Prop := fun t => ∃ q, t.status = .running ∧ Ended t below (.threw q) ∧ bb_X E s q t
def bb_MT (l : Launch) (y : MethodName) (ws : List Cond) (rm : Room) (Pc : Array Value → State → Prop) (E : String) : Prop :=
  MetFree l y (headSpec ws rm) Pc (fun _ _ _ _ _ => True) (fun _ st o t => ∃ q, o = .threw q ∧ bb_X E st q t)
theorem bb_same {s t : State} {k n : Nat} (h : s.sameButNew t [] k n) : ∀ a : Nat, a < s.heap.size → t.heap[a]? = s.heap[a]? := by
  intro a ha
  obtain ⟨-, -, -, -, -, h6⟩ := h
  have hc : s.heap[a]? = some s.heap[a] := Array.getElem?_eq_getElem ha
  obtain ⟨c', h1, h2, h3, h4⟩ := h6 a _ hc
  have e1 : c'.slots = (s.heap[a]).slots := Array.ext_getElem? (fun i => h4 i (by simp))
  rw [h1, hc, h2, e1]
theorem bb_MT_of {l : Launch} {y : MethodName} {ws ws' : List Cond} {rm : Room} {Pc : Array Value → State → Prop} {E : String} {cc : ByteArray} {maxL : Nat} {ret : Option FieldType} (hy : plainName y.cls = true) (hw : ws = Cond.code y cc maxL ret :: ws')
    (body : ∀ p e s m args below meth c s₁, BodyLoose p l y (headSpec ws rm) cc maxL ret e s m args below meth c s₁ → c.maxLocals = maxL → Pc args s →
      W p l e (headSpec ws rm).room s m args below meth c s.heap [] 0 0 (bb_MQ below E s) (entryFrame m args maxL)) : bb_MT l y ws rm Pc E := by
  refine MetFree.of_bodyS (code := cc) (maxLocals := maxL) (ret := ret) hy ?_ ?_
  · intro args s m h hn
    obtain ⟨meth, c, h1, h2, h3, h4, h5, h6, -, -⟩ := Cond.code_spec hn (atoms_spec (ws := ws) h _ (by rw [hw]; exact List.mem_cons_self))
    exact ⟨meth, c, h1, h2, h3, h4, h5, h6⟩
  · intro p e s m args below meth c s₁ B hml hP _
    have hh0 : s₁.heap = s.heap := by rw [B.state]; rfl
    obtain ⟨t, a1, q, b1, b2, b3⟩ := body p e s m args below meth c s₁ B hml hP s₁ hh0 (Stand.of_body B)
    exact ⟨t, .threw q, a1, b1, b2, q, rfl, b3⟩
section BbThrow
variable {p : Program} {l : Launch} {e : Env} {R : Room} {s : State} {m : MethodId} {args : Array Value} {below : List Frame} {meth : Method} {c : Code} {H : Heap} {locs : List Loc} {cells slots : Nat} {Q : State → Prop} {pc : Nat} {ls : Array Slot} {st rest : List Value} {cc : ByteArray}
/-- a method called at a point of a walk, by whatever contract: how it ends -/
theorem bb_go {U : State} {y : MethodName} {S : Spec} {P : Array Value → State → Prop} {Q9 : Array Value → State → Outcome → State → Prop} (hM : MetFree l y S P (fun _ _ _ _ _ => True) Q9) (X : Stand p l e R s m args below meth c U locs cells slots) {g : JFrame} (hg : g.method = m) (hsize : g.locals.size = c.maxLocals) {ig : Instr} {len : Nat} (hdg : decode c.code g.pc = .ok (ig, len)) {mk : MethodId} {a : Array Value}
    (hnamed : U.methodNamed? y = some mk) {kY : Class} (hk : U.vm.classes[mk.cls]? = some kY) (hinit : kY.init = .initialized) {methY : Method} {cY : Code} (hmY : U.vm.method? mk = some methY) (hcY : methY.code = some cY)
    (hframes : S.room.frames + 1 ≤ R.frames) (hlocals : 2 * g.monitorRoom + (g.stack.map fun v => v.category).sum + (cY.maxLocals + 11) + S.room.locals ≤ R.locals) (hcells : cells + S.room.cells ≤ R.cells) (hslots : slots + S.room.slots ≤ R.slots)
    (hpre : S.pre.before a U = true) (hP : P a (U.calling g mk a)) :
    ∃ o s₂, Steps p.tables e below (doInvoke e (U.setTop g) [] mk a).1 s₂ ∧ Ended s₂ (.java g :: below) o ∧ Q9 a (U.calling g mk a) o s₂ := by
  have h : At U g.method c below := by rw [hg]; exact X.here
  have happ := Spec.appliesLoose_calling (g := g) h hdg hnamed hk hinit (X.room_calling (g := g) (R' := S.room) hsize hmY hcY hframes hlocals hcells hslots) hpre
  obtain ⟨mid, hmid⟩ := h.above
  have hfr : (U.setTop g).frames = (.java g :: mid) ++ below := by rw [State.frames_setTop' g h.top, hmid]; rfl
  obtain ⟨o, s₂, hsteps, -, hend, hq⟩ := Steps.callFree hM p X.admits X.cas X.clock (acts := []) hfr happ hP trivial
  rw [State.frames_setTop' g h.top, X.tail] at hend
  exact ⟨o, s₂, hsteps, hend, hq⟩
/-- the frame g with q thrown over it -/
def bb_W (p : Program) (l : Launch) (e : Env) (R : Room) (s : State) (m : MethodId) (args : Array Value) (below : List Frame) (meth : Method) (c : Code) (H : Heap) (cells slots : Nat) (Q : State → Prop) (g : JFrame) (q : Addr) : Prop :=
  ∀ T : State, T.heap = H → Stand p l e R s m args below meth c T [] cells slots → ∃ t, Steps p.tables e below ((T.setTop g).pushFrame (.throwing q)) t ∧ Q t
/-- it goes on to the caller: the method has no table -/
theorem bb_leave {E : String} {q : Addr} {ce : Cell} (hout : c.exceptionTable.toList = []) (hlocks : meth.locks = false) (hce : H[q]? = some ce) (hv : ce.vm = .none) (hcl : s.vm.findClass E = some ce.cls) (hc : cells ≤ 1) (hs : slots ≤ 6) :
    bb_W p l e R s m args below meth c H cells slots (bb_MQ below E s) (F0 m pc ls rest) q := by
  intro T hT X
  obtain ⟨h1, h2, h3, h4, h5⟩ := X.leaveThrown q (g := F0 m pc ls rest) rfl rfl rfl (fun x hx => by rw [hout] at hx; cases hx) hlocks
  refine ⟨_, h1, q, h2, h3, ⟨ce, ?_, hv, hcl⟩, h4, h5.mono hc hs⟩
  show T.heap[q]? = some ce
  rw [hT]; exact hce
variable {Ts ws ws' : List Cond} {bytes : ByteArray} {nL maxL index n : Nat} {own C : String} {y : MethodName} {ret : Option FieldType} {rm : Room} {As : List Value} {Pc : Array Value → State → Prop} {E : String}
/-- a call that throws, from a state in which nothing old has changed since H -/
theorem bb_thrown {U : State} {mk : MethodId} {g : JFrame} {ig : Instr} (hM : bb_MT l y ws rm Pc E) (X : Stand p l e R s m args below meth c U [] cells slots) (hU : U.heap = H) (hg : g.method = m) (hsize : g.locals.size = c.maxLocals) (hdg : decode c.code g.pc = .ok (ig, 3))
    (hnamed : s.methodNamed? y = some mk) (hini : (Cond.initialized y.cls).before args s = true) (hcode : (Cond.code y bytes maxL ret).before args s = true)
    (hfr : rm.frames + 1 ≤ R.frames) (hlo : 8 + (maxL + 11) + rm.locals ≤ R.locals) (hws : ∀ w ∈ ws, ∀ (a' : Array Value) (U : State), s.WarmedH U.vm → w.before a' U = true) (hrc : rm.cells = 1) (hrs : rm.slots = 6)
    (hW : 2 * g.monitorRoom + (g.stack.map fun v => v.category).sum ≤ 8) (hcc : cells + 1 ≤ R.cells) (hss : slots + 6 ≤ R.slots) {a : Array Value} (hP : Pc a (U.calling g mk a))
    (kk : ∀ (q : Addr) (H1 : Heap) (ce : Cell), H.size ≤ H1.size → (∀ x : Nat, x < H.size → H1[x]? = H[x]?) → H1[q]? = some ce → ce.vm = .none → s.vm.findClass E = some ce.cls → bb_W p l e R s m args below meth c H1 (cells + 1) (slots + 6) Q g q) :
    ∃ t, Steps p.tables e below (doInvoke e (U.setTop g) [] mk a).1 t ∧ Q t := by
  obtain ⟨methY, cY, hmY, hcY, -, hlY, -, -, -, -⟩ := Cond.code_spec hnamed hcode
  obtain ⟨kY, hkY, -⟩ := className_of_methodNamed hnamed
  have hiY : kY.init = .initialized := Cond.initialized_spec (findClass_of_methodNamed hnamed) hkY hini
  obtain ⟨kY', hkY', he'⟩ := X.warmed.alike.2.2 _ _ hkY
  obtain ⟨o, s₂, hsteps, hend, q, rfl, ⟨ce, h1, h2, h3⟩, hW2, hsame⟩ := bb_go hM X hg hsize hdg (a := a) (X.named hnamed) hkY' (by rw [he']; exact hiY) (by rw [X.warmed.alike.method?]; exact hmY) hcY hfr
    (by rw [hlY]; show _ + _ + rm.locals ≤ _; omega) (by rw [show (headSpec ws rm).room.cells = 1 from hrc]; exact hcc) (by rw [show (headSpec ws rm).room.slots = 6 from hrs]; exact hss)
    (atoms_intro fun w hw => hws w hw _ _ X.warmed) hP
  obtain ⟨T', X', -, hT', et⟩ := X.outOfThrown hg hend hW2 hsame
  have hh : s₂.heap = T'.heap := by rw [et]; exact Stand.throwing_heap T' g q
  have hsz : H.size ≤ T'.heap.size := by rw [← hU]; exact hT'.2.1
  have hold : ∀ x : Nat, x < H.size → T'.heap[x]? = H[x]? := fun x hx => by
    have := bb_same hT' x (by rw [hU]; exact hx)
    rw [hU] at this
    exact this
  have hcl : s.vm.findClass E = some ce.cls := by
    have h4 : U.vm.findClass E = some ce.cls := h3
    rw [X.warmed.alike.findClass] at h4
    exact h4
  obtain ⟨t, a1, b1⟩ := kk q T'.heap ce hsz hold (by rw [← hh]; exact h1) h2 hcl T' rfl X'
  rw [← et] at a1
  exact ⟨t, hsteps.trans a1, b1⟩
/-- a static call that throws -/
theorem bb_cSt (S : CallFix p m c cc nL s args Ts own) (hM : bb_MT l y ws rm Pc E) (cw : CallB R s args own index y bytes maxL ret ws rm 1 6 n ∧ (Cond.static y).before args s = true) (hp : PreS s H Pc As)
    (hn : As.length = n) (hsize : ls.size = nL) (hstack : st = As.reverse ++ rest) (hW : (rest.map fun v => v.category).sum ≤ 8) (hdg : decode cc pc = .ok (.invokestatic index, 3)) (hcc : cells + 1 ≤ R.cells) (hss : slots + 6 ≤ R.slots)
    (kk : ∀ (q : Addr) (H1 : Heap) (ce : Cell), H.size ≤ H1.size → (∀ x : Nat, x < H.size → H1[x]? = H[x]?) → H1[q]? = some ce → ce.vm = .none → s.vm.findClass E = some ce.cls → bb_W p l e R s m args below meth c H1 (cells + 1) (slots + 6) Q (F0 m pc ls rest) q) :
    W p l e R s m args below meth c H [] cells slots Q (F0 m pc ls st) := by
  obtain ⟨hexec, hb, hml, hown, -⟩ := S
  obtain ⟨⟨hrc, hrs, hfr, hlo, hws, -, hcode, hini, hy, hlen, hl⟩, hstat⟩ := cw
  intro T hT X
  obtain ⟨mk, hnamed⟩ := Cond.code_named hcode
  obtain ⟨methM, cM, hmethM, -, -, -, -, -, -, hsigM⟩ := Cond.code_spec hnamed hcode
  obtain ⟨kP, hkP, -⟩ := className_of_methodNamed hnamed
  obtain ⟨vm₁, X₁, hstep₁⟩ := X.invokestatic hexec hown hl hnamed hmethM (Cond.static_spec hnamed hmethM hstat) hkP (Cond.initialized_spec (findClass_of_methodNamed hnamed) hkP hini) hy (g := F0 m pc ls st) rfl (argsL := As) (rest := rest) (hn.trans (hlen _ hsigM)) hstack (by rw [hb]; exact hdg)
  obtain ⟨t, a1, b1⟩ := bb_thrown (g := F0 m pc ls rest) hM X₁ hT rfl (hsize.trans hml.symm) (by rw [hb]; exact hdg) hnamed hini hcode hfr hlo hws hrc hrs (lv_room hW) hcc hss (a := As.toArray) (hp.1 _ _ _ _ (hp.2 (T.setVm vm₁) hT X₁.warmed)) kk
  exact ⟨t, hstep₁ _ fun acts => by rw [doInvoke_state]; exact a1, b1⟩
/-- a virtual call that throws -/
theorem bb_cVt {b : Addr} (S : CallFix p m c cc nL s args Ts own) (hM : bb_MT l y ws rm Pc E) (cw : CallW R s args own C index y bytes maxL ret ws rm 1 6 n) (hp : PreV s H C b Pc As)
    (hn : As.length = n) (hsize : ls.size = nL) (hstack : st = As.reverse ++ .ref b :: rest) (hW : (rest.map fun v => v.category).sum ≤ 8) (hdg : decode cc pc = .ok (.invokevirtual index, 3)) (hcc : cells + 1 ≤ R.cells) (hss : slots + 6 ≤ R.slots)
    (kk : ∀ (q : Addr) (H1 : Heap) (ce : Cell), H.size ≤ H1.size → (∀ x : Nat, x < H.size → H1[x]? = H[x]?) → H1[q]? = some ce → ce.vm = .none → s.vm.findClass E = some ce.cls → bb_W p l e R s m args below meth c H1 (cells + 1) (slots + 6) Q (F0 m pc ls rest) q) :
    W p l e R s m args below meth c H [] cells slots Q (F0 m pc ls st) := by
  obtain ⟨hexec, hb, hml, hown, -⟩ := S
  obtain ⟨⟨hrc, hrs, hfr, hlo, hws, -, hcode, hini, hy, hlen, hl⟩, hinst, hsel⟩ := cw
  obtain ⟨hbl, ⟨cellB, hcB, hoB, hclB⟩, hPc⟩ := hp
  intro T hT X
  obtain ⟨mk, methM, hnamed, hmethM, hstM, habM⟩ := Cond.instanceMethod_spec hinst
  obtain ⟨methM', cM, hmethM', -, -, -, -, -, -, hsigM⟩ := Cond.code_spec hnamed hcode
  cases hmethM.symm.trans hmethM'
  obtain ⟨c2, r2, m2, q1, q2, q3, q4, kP, hkP, hkPi⟩ := Cond.selects_spec hsel
  cases hclB.symm.trans q1
  cases (State.methodFound?_of_named hnamed hy).symm.trans q2
  cases hnamed.symm.trans q3
  have hselP : selectMethod e.platform s.vm cellB.cls mk = .method mk := by rw [Launch.admits_selectMethod X.admits]; exact q4
  obtain ⟨vm₁, X₁, hstep₁⟩ := X.invokevirtual hexec hown hl hnamed hmethM hstM hkP hkPi hy (a := b) (cell := cellB) (by rw [hT]; exact hcB)
    (fun z h => by rw [h] at hoB; cases hoB) hselP hmethM habM hkP hkPi (g := F0 m pc ls st) rfl (argsL := As) (rest := rest) (hn.trans (hlen _ hsigM)) hstack (by rw [hb]; exact hdg)
  obtain ⟨t, a1, b1⟩ := bb_thrown (g := F0 m pc ls rest) hM X₁ hT rfl (hsize.trans hml.symm) (by rw [hb]; exact hdg) hnamed hini hcode hfr hlo hws hrc hrs (lv_room hW) hcc hss (a := (.ref b :: As).toArray) (hbl _ _ _ _ (hPc (T.setVm vm₁) hT X₁.warmed)) kk
  exact ⟨t, hstep₁ _ fun acts => by rw [doInvoke_state]; exact a1, b1⟩
end BbThrow
end
section
/-! the catch: a table's row whose class links (cold or warm), behind rows whose class doesn't take the object -/
theorem bb_goRow {Q9 : Handler → Pre} {E9 : CtlPost} {e : Env} {d : Bool} {acts : List Action} {S : State} {f : JFrame} {a : Addr} {x : ExceptionTableEntry} {t : List ExceptionTableEntry} {k : ClassId} {cell : Cell} (hx : covers x f.pc = true) (h0 : x.catchType ≠ 0)
    (hl : S.vm.ClassLinks e.platform f.method.cls x.catchType k) (hcell : S.heap[a]? = some cell) (hobj : ∀ z, cell.vm ≠ .statics z) (hk : ∃ z, S.vm.classes[cell.cls]? = some z) (hc : ∃ z, S.vm.classes[k]? = some z) :
    wp (findHandler.go f a (x :: t)) Q9 E9 e d acts S ↔ (if S.vm.assignable cell.cls k = true then Q9 (.found x.handlerPc) d acts (S.setVm (S.vm.noted f.method.cls x.catchType (.cls k))) else wp (findHandler.go f a t) Q9 E9 e d acts (S.setVm (S.vm.noted f.method.cls x.catchType (.cls k)))) := by
  simp only [covers] at hx
  obtain ⟨ha, ht⟩ := (resolveClass_links e.toSetting hl).op (op := VmOp.resolveClass f.method.cls x.catchType) rfl
  have hal : S.vm.Alike (S.vm.noted f.method.cls x.catchType (.cls k)) := (Vm.Alike.refl S.vm).noted _ _ _
  obtain ⟨z1, hz1⟩ := hk
  obtain ⟨z2, hz2⟩ := hc
  obtain ⟨z1', hz1', -⟩ := hal.2.2 _ _ hz1
  obtain ⟨z2', hz2', -⟩ := hal.2.2 _ _ hz2
  cases hq : S.vm.assignable cell.cls k with
  | true =>
    have hq' : (S.vm.noted f.method.cls x.catchType (.cls k)).assignable cell.cls k = true := by rw [hal.assignable]; exact hq
    simp [findHandler.go, hx, h0, ha, ht, hcell, hobj, hz1', hz2', hq', VmOp.dirties, VmOp.acts]
  | false =>
    have hq' : (S.vm.noted f.method.cls x.catchType (.cls k)).assignable cell.cls k = false := by rw [hal.assignable]; exact hq
    simp [findHandler.go, hx, h0, ha, ht, hcell, hobj, hz1', hz2', hq', VmOp.dirties, VmOp.acts]
def bb_Fd (e : Env) (S : State) (f : JFrame) (a : Addr) (pc : Nat) (vm' : Vm) : Prop :=
  ∀ (Q9 : Handler → Pre) (E9 : CtlPost) (d : Bool) (acts : List Action), wp (findHandler f a) Q9 E9 e d acts S ↔ Q9 (.found pc) d acts (S.setVm vm')
theorem bb_stepCatch {e : Env} {S : State} {a : Addr} {f : JFrame} {r : List Frame} {pc : Nat} {vm' : Vm} (hf : bb_Fd e S f a pc vm') : (stepThrowing e S a (.java f :: r)).Is ((S.setVm vm').setFrames (.java { f with pc := pc, stack := [.ref a] } :: r)) [] := by
  simp only [stepThrowing, searchFrame, vmDo]
  generalize hr : Sem.go _ e false [] S = res
  obtain ⟨as, rfl, ha⟩ := Sem.eq_ok_of hr (a := Handler.found pc) (s' := S.setVm vm') (acts' := []) (by simp [hf _ _ _ _])
  exact ⟨rfl, ha⟩
section BbCatch
variable {p : Program} {l : Launch} {e : Env} {R : Room} {s : State} {m : MethodId} {args : Array Value} {below : List Frame} {meth : Method} {c : Code} {H : Heap} {locs : List Loc} {cells slots : Nat} {Q : State → Prop} {pc : Nat} {ls : Array Slot} {rest : List Value}
theorem bb_caught {T : State} (X : Stand p l e R s m args below meth c T locs cells slots) {g : JFrame} (hg : g.method = m) (q : Addr) {pc' : Nat} {vm' : Vm} (hf : bb_Fd e ((T.setTop g).pushFrame (.throwing q)) g q pc' vm') {target : State}
    (hrest : Steps p.tables e below ((T.setVm vm').setTop { g with pc := pc', stack := [.ref q] }) target) : Steps p.tables e below ((T.setTop g).pushFrame (.throwing q)) target := by
  have h : At T g.method c below := by rw [hg]; exact X.here
  obtain ⟨hgo, hw⟩ := h.throwing q
  refine Steps.head hgo hw ?_
  rw [stepThread_throwing (frames_entered h.top _), (bb_stepCatch (S := (T.setTop g).pushFrame (.throwing q)) hf).1]
  obtain ⟨g₀, hg0⟩ := Option.isSome_iff_exists.mp h.top
  obtain ⟨r, hr⟩ := State.topJava?_eq_some.mp hg0
  have hr' : (T.setVm vm').frames = .java g₀ :: r := hr
  have e1 : ∀ (u : State) (F G : List Frame), ((u.setFrames F).setVm vm').setFrames G = (u.setVm vm').setFrames G := fun u F G => by
    rw [show (u.setFrames F).setVm vm' = (u.setVm vm').setFrames F from rfl, State.setFrames_setFrames]
  rw [State.setTop_of_frames _ hr'] at hrest
  rw [hr, List.tail_cons, State.pushFrame, e1, State.setTop_of_frames _ hr, e1]
  exact hrest
/-- the first row takes it -/
theorem bb_catch1 {own name E : String} {ce : Cell} {q : Addr} (hown : s.vm.findClass own = some m.cls) (x : ExceptionTableEntry) (suf : List ExceptionTableEntry) (hsplit : c.exceptionTable.toList = x :: suf) (hx : covers x pc = true) (h0 : x.catchType ≠ 0)
    (hlink : (Cond.classLink own x.catchType name).before args s = true) (hcast : (Cond.castable E name).before args s = true) (hce : H[q]? = some ce) (hv : ce.vm = .none) (hcl : s.vm.findClass E = some ce.cls)
    (kk : W p l e R s m args below meth c H [] cells slots Q (F0 m x.handlerPc ls [.ref q])) : bb_W p l e R s m args below meth c H cells slots Q (F0 m pc ls rest) q := by
  intro T hT X
  have hpl : e.platform.magicAccessors = ({} : Platform).magicAccessors := by rw [X.admits.platform]
  obtain ⟨c3, c4, hc3, hc4, hasg⟩ := Cond.castable_spec hcast
  cases Option.some.inj (hc3.symm.trans hcl)
  obtain ⟨c5, hc5, hcl5⟩ := Cond.classLink_spec hown hlink e.platform hpl
  cases Option.some.inj (hc4.symm.trans hc5)
  obtain ⟨dk, _, _, kt, hd, _, _, _, _, hkt, _, hopen⟩ := hcl5.here
  obtain ⟨k9, h9⟩ := Vm.classAt_of_findClass hcl
  have hal := X.warmed.alike
  obtain ⟨kt', hkt', -⟩ := hal.2.2 _ _ hkt
  obtain ⟨k9', h9', -⟩ := hal.2.2 _ _ h9
  have hW' : s.WarmedH (T.vm.noted m.cls x.catchType (.cls c4)) := X.warmed.noted hd hopen (State.rightAt_cls hcl5)
  obtain ⟨t, a1, b1⟩ := kk (T.setVm (T.vm.noted m.cls x.catchType (.cls c4))) hT (X.noted hW')
  refine ⟨t, bb_caught X rfl q (pc' := x.handlerPc) (vm' := T.vm.noted m.cls x.catchType (.cls c4)) (fun Q9 E9 d acts => ?_) a1, b1⟩
  rw [W.findHandler_eq (meth := meth) (code := c) X.method' X.code, hsplit, bb_goRow (S := ((T.setTop (F0 m pc ls rest)).pushFrame (.throwing q))) (f := F0 m pc ls rest) (k := c4) (cell := ce) hx h0 (X.warmed.classLinks hcl5) (by show T.heap[q]? = _; rw [hT]; exact hce) (by rw [hv]; exact fun z hz => by cases hz) ⟨k9', h9'⟩ ⟨kt', hkt'⟩,
    if_pos (by show T.vm.assignable ce.cls c4 = true; rw [hal.assignable]; exact hasg)]
  exact Iff.rfl
/-- the first row doesn't take it, the second does -/
theorem bb_catch2 {own name name1 E : String} {ce : Cell} {q : Addr} (hown : s.vm.findClass own = some m.cls) (x1 x : ExceptionTableEntry) (suf : List ExceptionTableEntry) (hsplit : c.exceptionTable.toList = x1 :: x :: suf) (hx1 : covers x1 pc = true) (h01 : x1.catchType ≠ 0) (hx : covers x pc = true) (h0 : x.catchType ≠ 0)
    (hlink1 : (Cond.classLink own x1.catchType name1).before args s = true) (hno : va_Nc E name1 s)
    (hlink : (Cond.classLink own x.catchType name).before args s = true) (hcast : (Cond.castable E name).before args s = true) (hce : H[q]? = some ce) (hv : ce.vm = .none) (hcl : s.vm.findClass E = some ce.cls)
    (kk : W p l e R s m args below meth c H [] cells slots Q (F0 m x.handlerPc ls [.ref q])) : bb_W p l e R s m args below meth c H cells slots Q (F0 m pc ls rest) q := by
  intro T hT X
  have hpl : e.platform.magicAccessors = ({} : Platform).magicAccessors := by rw [X.admits.platform]
  obtain ⟨c3, c4, hc3, hc4, hasg⟩ := Cond.castable_spec hcast
  cases Option.some.inj (hc3.symm.trans hcl)
  obtain ⟨c5, hc5, hcl5⟩ := Cond.classLink_spec hown hlink e.platform hpl
  cases Option.some.inj (hc4.symm.trans hc5)
  obtain ⟨c6, hc6, hcl6⟩ := Cond.classLink_spec hown hlink1 e.platform hpl
  have hn6 : s.vm.assignable ce.cls c6 = false := by
    obtain ⟨y1, y2, w1, w2, w3⟩ := hno
    cases Option.some.inj (w1.symm.trans hcl)
    cases Option.some.inj (w2.symm.trans hc6)
    exact w3
  obtain ⟨dk, _, _, kt, hd, _, _, _, _, hkt, _, hopen⟩ := hcl5.here
  obtain ⟨dk6, _, _, kt6, hd6, _, _, _, _, hkt6, _, hopen6⟩ := hcl6.here
  obtain ⟨k9, h9⟩ := Vm.classAt_of_findClass hcl
  have hW1 : s.WarmedH (T.vm.noted m.cls x1.catchType (.cls c6)) := X.warmed.noted hd6 hopen6 (State.rightAt_cls hcl6)
  have hW' : s.WarmedH ((T.vm.noted m.cls x1.catchType (.cls c6)).noted m.cls x.catchType (.cls c4)) := hW1.noted hd hopen (State.rightAt_cls hcl5)
  obtain ⟨t, a1, b1⟩ := kk (T.setVm ((T.vm.noted m.cls x1.catchType (.cls c6)).noted m.cls x.catchType (.cls c4))) hT (X.noted hW')
  refine ⟨t, bb_caught X rfl q (pc' := x.handlerPc) (vm' := (T.vm.noted m.cls x1.catchType (.cls c6)).noted m.cls x.catchType (.cls c4)) (fun Q9 E9 d acts => ?_) a1, b1⟩
  obtain ⟨kA, hA, -⟩ := X.warmed.alike.2.2 _ _ hkt6
  obtain ⟨kB, hB, -⟩ := X.warmed.alike.2.2 _ _ h9
  obtain ⟨kC, hC, -⟩ := hW1.alike.2.2 _ _ hkt
  obtain ⟨kD, hD, -⟩ := hW1.alike.2.2 _ _ h9
  rw [W.findHandler_eq (meth := meth) (code := c) X.method' X.code, hsplit, bb_goRow (S := ((T.setTop (F0 m pc ls rest)).pushFrame (.throwing q))) (f := F0 m pc ls rest) (k := c6) (cell := ce) hx1 h01 (X.warmed.classLinks hcl6) (by show T.heap[q]? = _; rw [hT]; exact hce) (by rw [hv]; exact fun z hz => by cases hz) ⟨kB, hB⟩ ⟨kA, hA⟩,
    if_neg (by show ¬ T.vm.assignable ce.cls c6 = true; rw [X.warmed.alike.assignable, hn6]; decide)]
  refine Iff.trans (bb_goRow (S := ((T.setTop (F0 m pc ls rest)).pushFrame (.throwing q)).setVm (T.vm.noted m.cls x1.catchType (.cls c6))) (f := F0 m pc ls rest) (k := c4) (cell := ce) hx h0 (hW1.classLinks hcl5) (by show T.heap[q]? = _; rw [hT]; exact hce) (by rw [hv]; exact fun z hz => by cases hz) ⟨kD, hD⟩ ⟨kC, hC⟩) ?_
  rw [if_pos (by show (T.vm.noted m.cls x1.catchType (.cls c6)).assignable ce.cls c4 = true; rw [hW1.alike.assignable]; exact hasg)]
  exact Iff.rfl
end BbCatch
end
section
/-! throw new E("text"), whatever place of its pool E's constructor names its superclass's by; what it asks of the state, and how that is kept -/
section BbCtor
variable {p : Program} {l : Launch} {e : Env} {R : Room} {s : State} {m : MethodId} {args : Array Value} {below : List Frame} {meth : Method} {c : Code} {H : Heap} {pc : Nat} {ls : Array Slot} {rest : List Value} {cc : ByteArray} {own : String}
set_option maxHeartbeats 4000000 in
/-- the constructor and its throw -/
theorem bb_ctor {cls sup : String} {names : List String} {ic sa i1 : Nat} {b1 : ByteArray} (hexec : p.tables.exec = Jvm.exec) (hb : c.code = cc) (htr : l.stackTraces = false) (hown : s.vm.findClass own = some m.cls) (hcls : Jvm.Bundle.fit cls = true) (hsup : Jvm.Bundle.fit sup = true) (hnames : ∀ n ∈ names, Jvm.Bundle.fit n = true)
    (k0 : decode b1 0 = .ok (.aload_n 0, 1)) (k1 : decode b1 1 = .ok (.aload_n 1, 1)) (k2 : decode b1 2 = .ok (.invokespecial i1, 3)) (k5 : decode b1 5 = .ok (.return_, 1))
    (hT : ∀ x ∈ Jvm.Bundle.throwableAtoms, x.before args s = true) (hS : ∀ x ∈ Jvm.Bundle.throwableSAtoms, x.before args s = true) (hP : ∀ x ∈ Jvm.Bundle.passSAtoms cls sup i1 b1, x.before args s = true) (hC : ∀ x ∈ Jvm.Bundle.chainSAtoms sup names, x.before args s = true)
    (w1 : (Cond.methodLink own ic (Jvm.Bundle.initS cls)).before args s = true) (w2 : (Cond.instantiable cls 6).before args s = true) (w4 : (Cond.selects cls Jvm.Bundle.tFill0 Jvm.Bundle.tFill0).before args s = true) (w5 : (Cond.selects cls Jvm.Bundle.tFill Jvm.Bundle.tFill).before args s = true)
    (w6 : (Cond.lays cls Jvm.Bundle.tN "cause" "Ljava/lang/Throwable;").before args s = true) (w7 : (Cond.lays cls Jvm.Bundle.tN "stackTrace" Jvm.Bundle.steD).before args s = true) (w8 : (Cond.lays cls Jvm.Bundle.tN "suppressedExceptions" Jvm.Bundle.listD).before args s = true) (w9 : (Cond.lays cls Jvm.Bundle.tN "detailMessage" "Ljava/lang/String;").before args s = true)
    (wU : (Cond.isRef (.static Jvm.Bundle.tN "UNASSIGNED_STACK" Jvm.Bundle.steD)).before args s = true) (wN : (Cond.isRef (.static Jvm.Bundle.tN "SUPPRESSED_SENTINEL" Jvm.Bundle.listD)).before args s = true)
    (w10 : (Cond.fieldLink Jvm.Bundle.tN 198 Jvm.Bundle.tN "backtrace" "Ljava/lang/Object;").before args s = true) (w11 : (Cond.lays Jvm.Bundle.tN Jvm.Bundle.tN "backtrace" "Ljava/lang/Object;").before args s = true) (w12 : (Cond.lays cls Jvm.Bundle.tN "backtrace" "Ljava/lang/Object;").before args s = true)
    {a : Addr} {cX : ClassId} {kX : Class} (hfX : s.vm.findClass cls = some cX) (hkX : s.vm.classes[cX]? = some kX) (hcell0 : H[a]? = some (freshCell cX kX)) (hnew : s.heap.size ≤ a)
    (hsize : ls.size = c.maxLocals) (d6 : decode cc pc = .ok (.invokespecial ic, 3)) (d9 : decode cc (pc + 3) = .ok (.athrow, 1)) (hout : c.exceptionTable.toList = []) (hRf : names.length + 4 < R.frames) (hRl : (rest.map fun v => v.category).sum + (13 * (names.length + 2) + 43) ≤ R.locals) (hlocks : meth.locks = false) :
    W p l e R s m args below meth c H [] 1 6 (bb_MQ below cls s) (F0 m pc ls (.ref sa :: .ref a :: .ref a :: rest)) := by
  intro V hV X
  have htr' : e.platform.stackTraces = false := (show e.platform.stackTraces = l.stackTraces by rw [X.admits.platform]).trans htr
  have hcell : V.heap[a]? = some (freshCell cX kX) := by rw [hV]; exact hcell0
  have howns : e.platform.frameOwnsMonitors = true := by rw [X.admits.platform]
  have hfin : e.platform.finalization = false := by rw [X.admits.platform]
  have hpl : e.platform.magicAccessors = ({} : Platform).magicAccessors := by rw [X.admits.platform]
  obtain ⟨T, Z0, L, -, Y⟩ := ThrowableC.of_atoms (args := args) howns hfin hpl hT
  obtain ⟨Z, M, LZ, LM, hnZ⟩ := Init0T.ofS_atoms (args := args) hpl L Y hS
  obtain ⟨P1, L1, hP1m, hP1s⟩ := PassC.ofS_atoms (args := args) (s := s) hpl (X := cls) (Y := sup) (Jvm.Bundle.fit_spec hcls).1 (Jvm.Bundle.fit_spec hsup).2 k0 k1 k2 k5 hP
  obtain ⟨P2, Ps, hlen, L2, hL, hP2m, hlink2, hlink⟩ := Jvm.Bundle.chainS (args := args) hpl hnZ names sup hsup hnames hC
  have hlink1 : P1.sup = P2.m := Option.some.inj (hP1s.symm.trans hP2m)
  have hfound : s.vm.findClass cls = some P1.m.cls := findClass_of_methodNamed hP1m
  cases Option.some.inj (hfX.symm.trans hfound)
  obtain ⟨c1, kX', hc1, hk, hord, -, -, hn6⟩ := Cond.instantiable_spec w2
  cases Option.some.inj (hc1.symm.trans hfound)
  cases Option.some.inj (hkX.symm.trans hk)
  have hsel0 : selectMethod e.platform s.vm P1.m.cls T.fill0 = .method T.fill0 := by
    obtain ⟨c2, r2, m2, q1, q2, q3, q4, -⟩ := Cond.selects_spec w4
    cases Option.some.inj (q1.symm.trans hfound)
    cases Option.some.inj (q2.symm.trans (State.methodFound?_of_named Y.fill0 (by decide)))
    cases Option.some.inj (q3.symm.trans Y.fill0)
    rw [Launch.admits_selectMethod X.admits]; exact q4
  have hselF : selectMethod e.platform s.vm P1.m.cls T.fill = .method T.fill := by
    obtain ⟨c2, r2, m2, q1, q2, q3, q4, -⟩ := Cond.selects_spec w5
    cases Option.some.inj (q1.symm.trans hfound)
    cases Option.some.inj (q2.symm.trans (State.methodFound?_of_named Y.fill (by decide)))
    cases Option.some.inj (q3.symm.trans Y.fill)
    rw [Launch.admits_selectMethod X.admits]; exact q4
  obtain ⟨cellS0, hcS0, hiss⟩ := Y.statics
  obtain ⟨u0, hu0⟩ := Cond.staticRefV Y.unassigned L.unassignedStatic L.statics hcS0 hiss wU
  obtain ⟨sen, hsen⟩ := Cond.staticRefV Y.sentinel L.sentinelStatic L.statics hcS0 hiss wN
  obtain ⟨ci198, i198, fB, hk198, hg198, ha198, hsB, -, hnB, htB, hffB⟩ := Cond.ownField (t := .object "java/lang/Object") Y.found L.cls (by decide +kernel) w10 w11 e.platform hpl
  obtain ⟨cellS, hcS', heS, -, hkeep⟩ := X.same.2.2.2.2.2 T.aS cellS0 hcS0
  have hcellS : V.heap[T.aS]? = some cellS := hcS'
  have hout' : ∀ i, (⟨T.aS, i⟩ : Loc) ∉ ([] : List Loc) := fun i hmem => nomatch hmem
  have hknownS : cellS.vm ≠ .unknown := by
    rw [heS]; intro hu
    rw [show cellS0.vm = .unknown from hu] at hiss
    cases hiss
  have hneS : T.aS ≠ a := Nat.ne_of_lt (Nat.lt_of_lt_of_le (Array.getElem?_eq_some_iff.mp hcS0).1 hnew)
  obtain ⟨iM, hffM⟩ := Y.msg
  obtain ⟨tyC, dC, hdC, hdnC⟩ := Cond.laysAt hfound hk Y.cause w6
  obtain ⟨tyS, dS, hdS, hdnS⟩ := Cond.laysAt hfound hk Y.stack w7
  obtain ⟨tyP, dP, hdP, hdnP⟩ := Cond.laysAt hfound hk Y.supp w8
  obtain ⟨tyM, dM, hdM, hdnM⟩ := Cond.laysAt hfound hk hffM w9
  obtain ⟨tyB, dB, hdB, hdnB⟩ := Cond.laysAt hfound hk hffB w12
  have bC := Cond.laysApart hdB hdC hdnB hdnC (by rw [hnB, Y.causeName]; decide)
  have bS := Cond.laysApart hdB hdS hdnB hdnS (by rw [hnB, Y.stackName]; decide)
  have bP := Cond.laysApart hdB hdP hdnB hdnP (by rw [hnB, Y.suppName]; decide)
  have hskip : SkipFacts T e.platform s (fun u => u) u0 ((preparedCellV T.toThrowableT (freshCell P1.m.cls kX) a u0 sen).withEntry V.cur) :=
    ⟨{ ci198 := ci198, i198 := i198, fBack := fB }, ⟨hk198, hg198, ha198, hsB⟩, by
      have := fresh_default (c := P1.m.cls) tyB
      rw [htB] at this
      simpa [preparedCellV, Cell.setSlot, Cell.withEntry, Array.getElem?_setIfInBounds, bC, bS, bP, bC.symm, bS.symm, bP.symm, defaultValue] using this, fun _ _ => rfl⟩
  obtain ⟨tm, methC, cdC, kC, vm₁, hnC, -, -, -, -, -, -, -, hW₁, st1⟩ := Steps.initColdS (tb := p.tables) (e := e) (below := below) (s := s) (U := V) X.here hexec X.warmed hpl hown (t := Jvm.Bundle.initS cls) rfl rfl (Jvm.Bundle.fit_spec hcls).2
    w1 (hP (.instanceMethod (Jvm.Bundle.initS cls)) (by simp [Jvm.Bundle.passSAtoms])) (bytes := b1) (maxL := 2) (hP (.code (Jvm.Bundle.initS cls) b1 2 none) (by simp [Jvm.Bundle.passSAtoms]))
    (f := F0 m pc ls (.ref sa :: .ref a :: .ref a :: rest)) rfl (a := a) (msg := .ref sa) (rest := .ref a :: rest) rfl (by rw [hb]; exact d6)
  cases Option.some.inj (hnC.symm.trans hP1m)
  have X₁ := X.noted hW₁
  have hcat : (Value.ref a).category = 1 := rfl
  obtain ⟨vm₂, X₂, st2⟩ := X₁.ctorMessageOffV hexec (g := F0 m pc ls (.ref a :: rest)) rfl hsize T L Z LZ M LM (P1 :: P2 :: Ps)
    (fun P hP => by rcases List.mem_cons.mp hP with rfl | hP; exact L1; rcases List.mem_cons.mp hP with rfl | hP; exact L2; exact hL P hP) ⟨hlink1, hlink2, hlink⟩ (u0 := u0) (sen := sen) (self := a) (msg := .ref sa) rfl (cell := freshCell P1.m.cls kX) (cellS := cellS)
    hcell (fun _ => by simp) (by simp) rfl rfl hsel0 hselF hcellS hneS hknownS (by rw [hkeep _ (hout' _)]; exact hu0) (by rw [hkeep _ (hout' _)]; exact hsen)
    (Takes.of_laid hk hord tyC (by rw [Y.causeType]; rfl)) (Takes.of_laid hk hord tyS (by rw [Y.stackType]; exact fits_refV_array _ u0)) (Takes.of_laid hk hord tyP (by rw [Y.suppType]; exact fits_refV_object _ sen))
    (Takes.of_laid hk hord tyM (by rw [Y.msgType]; exact fits_refV_object _ ⟨.ref sa, rfl⟩)) Y.objLocals hskip htr' [] (show decode c.code pc = _ by rw [hb]; exact d6)
    (by simp only [List.length_cons, hlen]; omega) (by
      show 2 * 0 + _ + _ ≤ _
      simp only [List.length_cons, hlen, List.map_cons, List.sum_cons, hcat]; omega)
  obtain ⟨hwalk, hrun, hended, hWU, hsame⟩ := X₂.athrowLeaves hexec (g := F0 m (pc + 3) ls (.ref a :: rest)) rfl rfl rfl (fun x hx => by rw [hout] at hx; cases hx) (a := a) (rest := rest) rfl (by rw [hb]; exact d9) hlocks
  have hlt : a < ((V.setVm vm₁).setVm vm₂).heap.size := (Array.getElem?_eq_some_iff.mp hcell).1
  have hU := heapAt_setCell_self (s := (V.setVm vm₁).setVm vm₂) (plainBareV T.toThrowableT (freshCell P1.m.cls kX) a u0 sen (.ref sa)) hlt
  refine ⟨_, st1 _ (fun acts => ?_), a, hrun, hended, ⟨_, hU, rfl, hfound⟩, hWU, hsame.weaken (fun y hy hlt' => ?_) (Nat.le_refl _) (Nat.le_refl _)⟩
  · rw [doInvoke_state]
    exact st2 _ hwalk
  · exfalso
    have hb9 : y.base = a := by
      simp only [List.nil_append, List.mem_cons, List.not_mem_nil, or_false] at hy
      rcases hy with rfl | rfl | rfl | rfl | rfl <;> rfl
    rw [hb9] at hlt'
    exact Nat.not_lt.mpr hnew hlt'
end BbCtor
end
section
/-! throw new E("text"): the words that it asks of the state, how they are kept, and the row -/
def NSE : String := "java/util/NoSuchElementException"
def IAE : String := "java/lang/IllegalArgumentException"
def ISE : String := "java/lang/IllegalStateException"
def RTE : String := "java/lang/RuntimeException"
def EXC : String := "java/lang/Exception"
/-- a static of Throwable's, below B: a reference or null -/
def bb_Z (n d : String) (B : Nat) (U : State) : Prop := ∃ (cf : ClassId) (k : Class) (i : Nat) (f : Field) (a : Nat) (cell : Cell), U.vm.findClass Jvm.Bundle.tN = some cf ∧ U.fieldFound? Jvm.Bundle.tN n d = some (cf, k, i, f) ∧ f.isStatic = true ∧ k.statics = some a ∧ U.heap[a]? = some cell ∧ cell.vm.isStatics = true ∧ cell.cls = cf ∧ f.slot < cell.slots.size ∧ k.staticTypes[f.slot]? = some f.type ∧ a < B ∧ ∃ v : Value, cell.slots[f.slot]? = some v ∧ v.isRef = true
theorem bb_Z.mv {n d : String} {B : Nat} {u U : State} (hvm : u.vm.Alike U.vm) (hh : ∀ x : Nat, x < B → U.heap[x]? = u.heap[x]?) (h : bb_Z n d B u) : bb_Z n d B U := by
  obtain ⟨cf, k, i, f, a, cell, h0, h1, h2, h3, h4, h5, h6, h7, h8, h9, h10⟩ := h
  obtain ⟨k', hi', he⟩ := State.fieldFound?_setVm hvm h1
  exact ⟨cf, k', i, f, a, cell, by rw [hvm.findClass]; exact h0, hi', h2, by rw [he]; exact h3, by rw [hh a h9]; exact h4, h5, h6, h7, by rw [he]; exact h8, h9, h10⟩
theorem bb_Z.lays {n d : String} {B : Nat} {U : State} {args : Array Value} (h : bb_Z n d B U) : (Cond.laysStatic Jvm.Bundle.tN n d).before args U = true := by
  obtain ⟨cf, k, i, f, a, cell, h0, h1, h2, h3, h4, h5, h6, h7, h8, h9, h10⟩ := h
  exact Cond.laysStatic_of (s := U) h0 h1 h2 h3 h4 h5 h6 h7 h8
theorem bb_Z.ref {n d : String} {B : Nat} {U : State} {args : Array Value} (h : bb_Z n d B U) : (Cond.isRef (.static Jvm.Bundle.tN n d)).before args U = true := by
  obtain ⟨cf, k, i, f, a, cell, h0, h1, h2, h3, h4, h5, h6, h7, h8, h9, v, hv, hr⟩ := h
  have he : (Term.static Jvm.Bundle.tN n d).eval args U none [] U = some v := by
    have : (Term.static Jvm.Bundle.tN n d).eval args U none [] U = cell.slots[f.slot]? := by
      simp [Term.eval, State.fieldNamed?, h1, h2, h3, h4, h5]
    rw [this, hv]
  cases v <;> simp [Value.isRef] at hr <;> simp [Cond.before, Cond.holds, Cond.value, he]
theorem bb_Z.of {n d : String} {s : State} {args : Array Value} (hl : (Cond.laysStatic Jvm.Bundle.tN n d).before args s = true) (hr : (Cond.isRef (.static Jvm.Bundle.tN n d)).before args s = true) : bb_Z n d s.heap.size s := by
  obtain ⟨c, k, i, f, a, cell, hc, hi, hst, ha, hcell, hs, hcls, hlt, hty⟩ := Cond.laysStatic_spec hl
  cases hv : (Term.static Jvm.Bundle.tN n d).eval args s none [] s with
  | none => simp [Cond.before, Cond.holds, Cond.value, hv] at hr
  | some v =>
    have hvr : v.isRef = true := by cases v <;> simp_all [Cond.before, Cond.holds, Cond.value, Value.isRef]
    obtain ⟨hst', a', cell', ha', hcell', -, hslot⟩ := Term.static_spec hi hv
    cases ha.symm.trans ha'
    cases hcell.symm.trans hcell'
    exact ⟨c, k, i, f, a, cell, hc, hi, hst, ha, hcell, hs, hcls, hlt, hty, (Array.getElem?_eq_some_iff.mp hcell).1, v, hslot, hvr⟩
def bb_strs : List (Nat × String) := [(127, "no such node"), (38, "no such weight"), (43, "no such need"), (132, "no such ballot"), (50, "a higher ballot is promised"), (134, "no such value"), (60, "the node is not open there"), (65, "another value has a vote there"), (130, "no such set"), (80, "the set is not enough"), (85, "one has promised a higher ballot"), (110, "no such what")]
/-- what a throw asks of the state beside the tables -/
def bb_TS (B : Nat) (U : State) : Prop := va_Nw (.castable NSE NSE) U ∧ va_Nw (.castable IAE IAE) U ∧ va_Nw (.castable ISE ISE) U ∧ va_Nw (.declares (Jvm.Bundle.initS RTE)) U ∧ va_Nw (.declares (Jvm.Bundle.initS EXC)) U ∧ va_Nw (.declares (Jvm.Bundle.initS Jvm.Bundle.tN)) U ∧ bb_Z "UNASSIGNED_STACK" Jvm.Bundle.steD B U ∧ bb_Z "SUPPRESSED_SENTINEL" Jvm.Bundle.listD B U ∧ (∀ q ∈ bb_strs, ∃ a : Nat, vk_R RX0 q.1 q.2 a U) ∧ va_Nc IAE NSE U ∧ va_Nc ISE NSE U
theorem bb_TS.c1 {B : Nat} {U : State} (h : bb_TS B U) : va_Nw (.castable NSE NSE) U := h.1
theorem bb_TS.c2 {B : Nat} {U : State} (h : bb_TS B U) : va_Nw (.castable IAE IAE) U := h.2.1
theorem bb_TS.c3 {B : Nat} {U : State} (h : bb_TS B U) : va_Nw (.castable ISE ISE) U := h.2.2.1
theorem bb_TS.d1 {B : Nat} {U : State} (h : bb_TS B U) : va_Nw (.declares (Jvm.Bundle.initS RTE)) U := h.2.2.2.1
theorem bb_TS.d2 {B : Nat} {U : State} (h : bb_TS B U) : va_Nw (.declares (Jvm.Bundle.initS EXC)) U := h.2.2.2.2.1
theorem bb_TS.d3 {B : Nat} {U : State} (h : bb_TS B U) : va_Nw (.declares (Jvm.Bundle.initS Jvm.Bundle.tN)) U := h.2.2.2.2.2.1
theorem bb_TS.z1 {B : Nat} {U : State} (h : bb_TS B U) : bb_Z "UNASSIGNED_STACK" Jvm.Bundle.steD B U := h.2.2.2.2.2.2.1
theorem bb_TS.z2 {B : Nat} {U : State} (h : bb_TS B U) : bb_Z "SUPPRESSED_SENTINEL" Jvm.Bundle.listD B U := h.2.2.2.2.2.2.2.1
theorem bb_TS.st {B : Nat} {U : State} (h : bb_TS B U) : (∀ q ∈ bb_strs, ∃ a : Nat, vk_R RX0 q.1 q.2 a U) := h.2.2.2.2.2.2.2.2.1
theorem bb_TS.n1 {B : Nat} {U : State} (h : bb_TS B U) : va_Nc IAE NSE U := h.2.2.2.2.2.2.2.2.2.1
theorem bb_TS.n2 {B : Nat} {U : State} (h : bb_TS B U) : va_Nc ISE NSE U := h.2.2.2.2.2.2.2.2.2.2
theorem bb_TS.mv {B : Nat} {u U : State} (hW : u.WarmedH U.vm) (hh : ∀ x : Nat, x < B → U.heap[x]? = u.heap[x]?) (h : bb_TS B u) : bb_TS B U :=
  ⟨h.c1.warmC hW, h.c2.warmC hW, h.c3.warmC hW, h.d1.warmD hW, h.d2.warmD hW, h.d3.warmD hW, h.z1.mv hW.alike hh, h.z2.mv hW.alike hh, fun q hq => (h.st q hq).elim fun a ha => ⟨a, ha.warm hW⟩, h.n1.moved hW.alike, h.n2.moved hW.alike⟩
theorem bb_TS.same {B : Nat} {u U : State} (hv : U.vm = u.vm) (hh : U.heap = u.heap) (h : bb_TS B u) : bb_TS B U := by
  have ha : u.vm.Alike U.vm := by rw [hv]; exact Vm.Alike.refl _
  have hx : ∀ x : Nat, x < B → U.heap[x]? = u.heap[x]? := fun _ _ => by rw [hh]
  exact ⟨h.c1.same rfl hv.symm, h.c2.same rfl hv.symm, h.c3.same rfl hv.symm, h.d1.same rfl hv.symm, h.d2.same rfl hv.symm, h.d3.same rfl hv.symm, h.z1.mv ha hx, h.z2.mv ha hx, fun q hq => (h.st q hq).elim fun a ha => ⟨a, ha.same hv⟩, h.n1.moved ha, h.n2.moved ha⟩
theorem bb_tX (is : List Nat) (ws : List Cond) (h : ((is.zip ws).all fun q => decide (tables_1[q.1]? = some q.2) && goodWord q.2) = true) (hl : ws.length ≤ is.length) : ∀ w ∈ ws, w ∈ bb_T := by
  intro w hw
  obtain ⟨i, hi, rfl⟩ := List.mem_iff_getElem.mp hw
  have hm : (is[i]'(by omega), ws[i]) ∈ is.zip ws := by
    rw [List.mem_iff_getElem]
    exact ⟨i, by simp; omega, by simp⟩
  have := List.all_eq_true.mp h _ hm
  simp only [Bool.and_eq_true, decide_eq_true_eq] at this
  exact bb_tb _ this.1 this.2
def bb_thrL : List Cond := Jvm.Bundle.throwableAtoms.filter fun w => decide (w ≠ .laysStatic Jvm.Bundle.tN "UNASSIGNED_STACK" Jvm.Bundle.steD) && decide (w ≠ .laysStatic Jvm.Bundle.tN "SUPPRESSED_SENTINEL" Jvm.Bundle.listD)
theorem bb_thrT : ∀ w ∈ bb_thrL, w ∈ bb_T := bb_tX [4,138,147,151,154,156,139,140,18,19,141,146,152,172,128,173,130,174,132,142,144,134] _ (by decide +kernel) (by decide +kernel)
theorem bb_thrS : ∀ w ∈ Jvm.Bundle.throwableSAtoms, w ∈ bb_T := bb_tX [168,169,171,134] _ (by decide +kernel) (by decide +kernel)
def bb_chL : List Cond := (Jvm.Bundle.chainSAtoms RTE [EXC]).filter fun w => decide (w ≠ .declares (Jvm.Bundle.initS EXC)) && decide (w ≠ .declares (Jvm.Bundle.initS Jvm.Bundle.tN))
theorem bb_chT : ∀ w ∈ bb_chL, w ∈ bb_T := bb_tX [162,163,164,165,165,166,167,168] _ (by decide +kernel) (by decide +kernel)
/-- the words of one class of exceptions -/
def bb_El (cls : String) (ik ic i1 : Nat) (b1 : ByteArray) : List Cond := [.classLink RX0 ik cls, .initialized cls, .instantiable cls 6, .methodLink RX0 ic (Jvm.Bundle.initS cls), .instanceMethod (Jvm.Bundle.initS cls), .code (Jvm.Bundle.initS cls) b1 2 none, .methodLink cls i1 (Jvm.Bundle.initS RTE), .instanceMethod (Jvm.Bundle.initS RTE),
  .selects cls Jvm.Bundle.tFill0 Jvm.Bundle.tFill0, .selects cls Jvm.Bundle.tFill Jvm.Bundle.tFill, .lays cls Jvm.Bundle.tN "cause" "Ljava/lang/Throwable;", .lays cls Jvm.Bundle.tN "stackTrace" Jvm.Bundle.steD, .lays cls Jvm.Bundle.tN "suppressedExceptions" Jvm.Bundle.listD, .lays cls Jvm.Bundle.tN "detailMessage" "Ljava/lang/String;",
  .fieldLink Jvm.Bundle.tN 198 Jvm.Bundle.tN "backtrace" "Ljava/lang/Object;", .lays Jvm.Bundle.tN Jvm.Bundle.tN "backtrace" "Ljava/lang/Object;", .lays cls Jvm.Bundle.tN "backtrace" "Ljava/lang/Object;"]
def bb_E (cls : String) (ik ic i1 : Nat) (b1 : ByteArray) : Prop := Jvm.Bundle.fit cls = true ∧ decode b1 0 = .ok (.aload_n 0, 1) ∧ decode b1 1 = .ok (.aload_n 1, 1) ∧ decode b1 2 = .ok (.invokespecial i1, 3) ∧ decode b1 5 = .ok (.return_, 1) ∧ (∀ w ∈ bb_El cls ik ic i1 b1, w ∈ bb_T)
theorem bb_E.fit {cls : String} {ik ic i1 : Nat} {b1 : ByteArray} (h : bb_E cls ik ic i1 b1) : Jvm.Bundle.fit cls = true := h.1
theorem bb_E.k0 {cls : String} {ik ic i1 : Nat} {b1 : ByteArray} (h : bb_E cls ik ic i1 b1) : decode b1 0 = .ok (.aload_n 0, 1) := h.2.1
theorem bb_E.k1 {cls : String} {ik ic i1 : Nat} {b1 : ByteArray} (h : bb_E cls ik ic i1 b1) : decode b1 1 = .ok (.aload_n 1, 1) := h.2.2.1
theorem bb_E.k2 {cls : String} {ik ic i1 : Nat} {b1 : ByteArray} (h : bb_E cls ik ic i1 b1) : decode b1 2 = .ok (.invokespecial i1, 3) := h.2.2.2.1
theorem bb_E.k5 {cls : String} {ik ic i1 : Nat} {b1 : ByteArray} (h : bb_E cls ik ic i1 b1) : decode b1 5 = .ok (.return_, 1) := h.2.2.2.2.1
theorem bb_E.ws {cls : String} {ik ic i1 : Nat} {b1 : ByteArray} (h : bb_E cls ik ic i1 b1) : (∀ w ∈ bb_El cls ik ic i1 b1, w ∈ bb_T) := h.2.2.2.2.2
theorem bb_eN : bb_E NSE 125 129 13 prog_13_method_4_code := ⟨by decide +kernel, by decide +kernel, by decide +kernel, by decide +kernel, by decide +kernel, bb_tX [116,7,117,158,159,160,161,162,125,126,127,129,131,133,170,136,135] _ (by decide +kernel) (by decide +kernel)⟩
theorem bb_eA : bb_E IAE 36 40 7 Jvm.Bundle.six := ⟨by decide +kernel, by decide +kernel, by decide +kernel, by decide +kernel, by decide +kernel, bb_tX [184,8,185,194,195,196,197,162,187,149,188,189,190,191,170,136,192] _ (by decide +kernel) (by decide +kernel)⟩
theorem bb_eI : bb_E ISE 48 52 7 Jvm.Bundle.six := ⟨by decide +kernel, by decide +kernel, by decide +kernel, by decide +kernel, by decide +kernel, bb_tX [220,9,221,230,231,232,233,162,223,150,224,225,226,227,170,136,228] _ (by decide +kernel) (by decide +kernel)⟩
section BbThrowS
variable {p : Program} {l : Launch} {e : Env} {R : Room} {s : State} {m : MethodId} {args : Array Value} {below : List Frame} {meth : Method} {c : Code} {pc : Nat} {ls : Array Slot} {rest : List Value} {cc : ByteArray} {B : Nat}
theorem bb_throwS {cls tx : String} {ik ic i1 k : Nat} {b1 : ByteArray} (E : bb_E cls ik ic i1 b1) (hexec : p.tables.exec = Jvm.exec) (hb : c.code = cc) (htr : l.stackTraces = false) (hown : s.vm.findClass RX0 = some m.cls) (hts : ∀ w ∈ bb_T, w.before args s = true) (hZ : bb_TS B s) (hk : (k, tx) ∈ bb_strs)
    (hsize : ls.size = c.maxLocals) (d0 : decode cc pc = .ok (.new ik, 3)) (d3 : decode cc (pc + 3) = .ok (.dup, 1)) (d4 : decode cc (pc + 4) = .ok (.ldc k, 2)) (d6 : decode cc (pc + 6) = .ok (.invokespecial ic, 3)) (d9 : decode cc (pc + 9) = .ok (.athrow, 1)) (hout : c.exceptionTable.toList = []) (hlocks : meth.locks = false)
    (hRf : 6 ≤ R.frames) (hRl : (rest.map fun v => v.category).sum + 82 ≤ R.locals) (hc : 1 ≤ R.cells) (hs : 6 ≤ R.slots) :
    W p l e R s m args below meth c s.heap [] 0 0 (bb_MQ below cls s) (F0 m pc ls rest) := by
  have hE := fun w hw => hts w (E.ws w hw)
  obtain ⟨c1, kX, hc1, hkX, -⟩ := Cond.instantiable_spec (hE (.instantiable cls 6) (by simp [bb_El]))
  refine W.newcK hexec hb hown (hE (.classLink RX0 ik cls) (by simp [bb_El])) (hE (.instantiable cls 6) (by simp [bb_El])) (hE (.initialized cls) (by simp [bb_El])) rfl d0 (by omega) (by omega) hc1 rfl fun H1 kC hkC e1 z1 o1 => ?_
  refine lv_dup hexec hb d3 rfl ?_
  obtain ⟨sa, hsa⟩ := hZ.st _ hk
  refine va_ldcS hexec hb hown hsa d4 ?_
  have hT : ∀ x ∈ Jvm.Bundle.throwableAtoms, x.before args s = true := by
    intro x hx
    by_cases h1 : x = .laysStatic Jvm.Bundle.tN "UNASSIGNED_STACK" Jvm.Bundle.steD
    · rw [h1]; exact hZ.z1.lays
    · by_cases h2 : x = .laysStatic Jvm.Bundle.tN "SUPPRESSED_SENTINEL" Jvm.Bundle.listD
      · rw [h2]; exact hZ.z2.lays
      · exact hts x (bb_thrT x (List.mem_filter.mpr ⟨hx, by simp [h1, h2]⟩))
  have hC : ∀ x ∈ Jvm.Bundle.chainSAtoms RTE [EXC], x.before args s = true := by
    intro x hx
    by_cases h1 : x = .declares (Jvm.Bundle.initS EXC)
    · rw [h1]; exact hZ.d2.use rfl
    · by_cases h2 : x = .declares (Jvm.Bundle.initS Jvm.Bundle.tN)
      · rw [h2]; exact hZ.d3.use rfl
      · exact hts x (bb_chT x (List.mem_filter.mpr ⟨hx, by simp [h1, h2]⟩))
  have hPs : ∀ x ∈ Jvm.Bundle.passSAtoms cls RTE i1 b1, x.before args s = true := by
    intro x hx
    simp only [Jvm.Bundle.passSAtoms, List.mem_cons, List.not_mem_nil, or_false] at hx
    rcases hx with rfl | rfl | rfl | rfl | rfl
    · exact hE _ (by simp [bb_El])
    · exact hE _ (by simp [bb_El])
    · exact hE _ (by simp [bb_El])
    · exact hE _ (by simp [bb_El])
    · exact hZ.d1.use rfl
  exact bb_ctor (own := RX0) (names := [EXC]) hexec hb htr hown E.fit (by decide +kernel) (by decide +kernel) E.k0 E.k1 E.k2 E.k5 hT (fun x hx => hts x (bb_thrS x hx)) hPs hC
    (hE _ (by simp [bb_El])) (hE _ (by simp [bb_El])) (hE _ (by simp [bb_El])) (hE _ (by simp [bb_El])) (hE _ (by simp [bb_El])) (hE _ (by simp [bb_El])) (hE _ (by simp [bb_El])) (hE _ (by simp [bb_El])) hZ.z1.ref hZ.z2.ref (hE _ (by simp [bb_El])) (hE _ (by simp [bb_El])) (hE _ (by simp [bb_El]))
    hc1 hkC (by exact e1) (Nat.le_refl _) hsize d6 d9 hout (by show 1 + 4 < R.frames; omega) (by show _ + (13 * (1 + 2) + 43) ≤ R.locals; omega) hlocks
end BbThrowS
end
section
abbrev bb_C (h0 a0 a1 a2 a3 : Nat) (cA : ClassId) (w pr vo vf : Nat → Int32) (k : Int32) : va_W := [(h0, .inr (0, [.ref a0, .ref a1, .ref a2, .ref a3, .int k])), (a0, .inl (cA, 10, .inl w)), (a1, .inl (cA, 10, .inl pr)), (a2, .inl (cA, 31, .inl vo)), (a3, .inl (cA, 31, .inl vf))]

set_option maxHeartbeats 4000000 in
set_option maxRecDepth 100000 in
theorem k_holds (l : Launch)  (x : Int32) (j0 : Nat) : Met l yX0_holds wsX0_holds ({ frames := 0, cells := 0, slots := 0, locals := 0 }) (va_Pc [.int x, .int (nI j0)] (fun _ => True)) (QcRead (bb_I (bb_hb x j0))) 0 0 (fun _ => False) := by
  refine Met.ofW (cc := cX0_holds) (maxL := 2) (ret := some .boolean) (by decide) rfl ?_
  intro p e s m args below meth c s₁ B hml hv
  obtain ⟨rfl, -⟩ := hv
  have hx := B.exec
  have hb := B.bytes
  have hr := B.returns
  have hts := atoms_spec (ws := wsX0_holds) B.pre
  have hown : s.vm.findClass RX0 = some m.cls := findClass_of_methodNamed B.named
  have hlocks := B.notSynchronized
  have hl := lv_entry ([.int x, .int (nI j0)]) (n := 2) (Nat.le_of_ble_eq_true rfl)
  rw [lg_entry_eq]
  generalize (lg_sl ([.int x, .int (nI j0)]) ++ List.replicate (2 - (lg_sl ([.int x, .int (nI j0)])).length) Slot.unset).toArray = ls at hl ⊢
  have hl : lv_has ls 2 [(0, .int x), (1, .int (nI j0))] := hl
  refine lv_iload_n hx hb dX0_holds_0 rfl (lv_at hl 0 rfl) ?_
  refine lv_iload_n hx hb dX0_holds_1 rfl (lv_at hl 1 rfl) ?_
  refine lv_ishr hx hb dX0_holds_2 ?_
  refine lv_iconst (v := 1) hx hb dX0_holds_3 (by decide) ?_
  refine lv_iand hx hb dX0_holds_4 ?_
  refine lv_iconst (v := 1) hx hb dX0_holds_5 (by decide) ?_
  refine lv_icmp_ne (tgt := 13) hx hb dX0_holds_6 rfl (fun h6 => ?_) (fun h6 => ?_)
  · skip
    refine lv_iconst (v := 0) hx hb dX0_holds_13 (by decide) ?_
    have er : bb_I (bb_hb x j0) = 0 := by simp [bb_I, bb_hb, h6]
    exact W.zret (v := 0) hx hb hr bb_z0 (fun t ht _ => ⟨by rw [er], ht⟩) (fun _ h => nomatch h) dX0_holds_14
  · skip
    refine lv_iconst (v := 1) hx hb dX0_holds_9 (by decide) ?_
    refine lv_goto (tgt := 14) hx hb dX0_holds_10 rfl ?_
    have er : bb_I (bb_hb x j0) = 1 := by simp [bb_I, bb_hb, h6]
    exact W.zret (v := 1) hx hb hr bb_z1 (fun t ht _ => ⟨by rw [er], ht⟩) (fun _ h => nomatch h) dX0_holds_14

set_option maxHeartbeats 4000000 in
set_option maxRecDepth 100000 in
theorem k_bitCount (l : Launch)  (x : Int32) : Met l yJ_bitCount wsJ_bitCount ({ frames := 0, cells := 0, slots := 0, locals := 0 }) (va_Pc [.int x] (fun _ => True)) (QcRead (bb_bc x)) 0 0 (fun _ => False) := by
  refine Met.ofW (cc := cJ_bitCount) (maxL := 1) (ret := some .int) (by decide) rfl ?_
  intro p e s m args below meth c s₁ B hml hv
  obtain ⟨rfl, -⟩ := hv
  have hx := B.exec
  have hb := B.bytes
  have hr := B.returns
  have hts := atoms_spec (ws := wsJ_bitCount) B.pre
  have hown : s.vm.findClass RJ = some m.cls := findClass_of_methodNamed B.named
  have hlocks := B.notSynchronized
  have hl := lv_entry ([.int x]) (n := 1) (Nat.le_of_ble_eq_true rfl)
  rw [lg_entry_eq]
  generalize (lg_sl ([.int x]) ++ List.replicate (1 - (lg_sl ([.int x])).length) Slot.unset).toArray = ls at hl ⊢
  have hl : lv_has ls 1 [(0, .int x)] := hl
  refine lv_iload_n hx hb dJ_bitCount_0 rfl (lv_at hl 0 rfl) ?_
  refine lv_iload_n hx hb dJ_bitCount_1 rfl (lv_at hl 0 rfl) ?_
  refine lv_iconst (v := 1) hx hb dJ_bitCount_2 (by decide) ?_
  refine lv_iushr (v := bb_ur x 1) hx hb dJ_bitCount_3 rfl ?_
  refine lv_ldcw (v := 1431655765) hx hb hown (hts _ (List.mem_cons_of_mem _ bb_cst265)) dJ_bitCount_4 ?_
  refine lv_iand hx hb dJ_bitCount_7 ?_
  refine lv_isub hx hb dJ_bitCount_8 ?_
  refine lv_istore_n (lv' := [(0, .int (x - ((bb_ur x 1) &&& 1431655765)))]) hx hb dJ_bitCount_9 rfl hl (by decide) rfl (fun ls hl => ?_)
  refine lv_iload_n hx hb dJ_bitCount_10 rfl (lv_at hl 0 rfl) ?_
  refine lv_ldcw (v := 858993459) hx hb hown (hts _ (List.mem_cons_of_mem _ bb_cst266)) dJ_bitCount_11 ?_
  refine lv_iand hx hb dJ_bitCount_14 ?_
  refine lv_iload_n hx hb dJ_bitCount_15 rfl (lv_at hl 0 rfl) ?_
  refine lv_iconst (v := 2) hx hb dJ_bitCount_16 (by decide) ?_
  refine lv_iushr (v := bb_ur (x - ((bb_ur x 1) &&& 1431655765)) 2) hx hb dJ_bitCount_17 rfl ?_
  refine lv_ldcw (v := 858993459) hx hb hown (hts _ (List.mem_cons_of_mem _ bb_cst266)) dJ_bitCount_18 ?_
  refine lv_iand hx hb dJ_bitCount_21 ?_
  refine lv_iadd hx hb dJ_bitCount_22 ?_
  refine lv_istore_n (lv' := [(0, .int (((x - ((bb_ur x 1) &&& 1431655765)) &&& 858993459) + ((bb_ur (x - ((bb_ur x 1) &&& 1431655765)) 2) &&& 858993459)))]) hx hb dJ_bitCount_23 rfl hl (by decide) rfl (fun ls hl => ?_)
  refine lv_iload_n hx hb dJ_bitCount_24 rfl (lv_at hl 0 rfl) ?_
  refine lv_iload_n hx hb dJ_bitCount_25 rfl (lv_at hl 0 rfl) ?_
  refine lv_iconst (v := 4) hx hb dJ_bitCount_26 (by decide) ?_
  refine lv_iushr (v := bb_ur (((x - ((bb_ur x 1) &&& 1431655765)) &&& 858993459) + ((bb_ur (x - ((bb_ur x 1) &&& 1431655765)) 2) &&& 858993459)) 4) hx hb dJ_bitCount_27 rfl ?_
  refine lv_iadd hx hb dJ_bitCount_28 ?_
  refine lv_ldcw (v := 252645135) hx hb hown (hts _ (List.mem_cons_of_mem _ bb_cst267)) dJ_bitCount_29 ?_
  refine lv_iand hx hb dJ_bitCount_32 ?_
  refine lv_istore_n (lv' := [(0, .int (((((x - ((bb_ur x 1) &&& 1431655765)) &&& 858993459) + ((bb_ur (x - ((bb_ur x 1) &&& 1431655765)) 2) &&& 858993459)) + (bb_ur (((x - ((bb_ur x 1) &&& 1431655765)) &&& 858993459) + ((bb_ur (x - ((bb_ur x 1) &&& 1431655765)) 2) &&& 858993459)) 4)) &&& 252645135))]) hx hb dJ_bitCount_33 rfl hl (by decide) rfl (fun ls hl => ?_)
  refine lv_iload_n hx hb dJ_bitCount_34 rfl (lv_at hl 0 rfl) ?_
  refine lv_iload_n hx hb dJ_bitCount_35 rfl (lv_at hl 0 rfl) ?_
  refine lv_bipush (v := 8) hx hb dJ_bitCount_36 (by decide) ?_
  refine lv_iushr (v := bb_ur (((((x - ((bb_ur x 1) &&& 1431655765)) &&& 858993459) + ((bb_ur (x - ((bb_ur x 1) &&& 1431655765)) 2) &&& 858993459)) + (bb_ur (((x - ((bb_ur x 1) &&& 1431655765)) &&& 858993459) + ((bb_ur (x - ((bb_ur x 1) &&& 1431655765)) 2) &&& 858993459)) 4)) &&& 252645135) 8) hx hb dJ_bitCount_38 rfl ?_
  refine lv_iadd hx hb dJ_bitCount_39 ?_
  refine lv_istore_n (lv' := [(0, .int ((((((x - ((bb_ur x 1) &&& 1431655765)) &&& 858993459) + ((bb_ur (x - ((bb_ur x 1) &&& 1431655765)) 2) &&& 858993459)) + (bb_ur (((x - ((bb_ur x 1) &&& 1431655765)) &&& 858993459) + ((bb_ur (x - ((bb_ur x 1) &&& 1431655765)) 2) &&& 858993459)) 4)) &&& 252645135) + (bb_ur (((((x - ((bb_ur x 1) &&& 1431655765)) &&& 858993459) + ((bb_ur (x - ((bb_ur x 1) &&& 1431655765)) 2) &&& 858993459)) + (bb_ur (((x - ((bb_ur x 1) &&& 1431655765)) &&& 858993459) + ((bb_ur (x - ((bb_ur x 1) &&& 1431655765)) 2) &&& 858993459)) 4)) &&& 252645135) 8)))]) hx hb dJ_bitCount_40 rfl hl (by decide) rfl (fun ls hl => ?_)
  refine lv_iload_n hx hb dJ_bitCount_41 rfl (lv_at hl 0 rfl) ?_
  refine lv_iload_n hx hb dJ_bitCount_42 rfl (lv_at hl 0 rfl) ?_
  refine lv_bipush (v := 16) hx hb dJ_bitCount_43 (by decide) ?_
  refine lv_iushr (v := bb_ur ((((((x - ((bb_ur x 1) &&& 1431655765)) &&& 858993459) + ((bb_ur (x - ((bb_ur x 1) &&& 1431655765)) 2) &&& 858993459)) + (bb_ur (((x - ((bb_ur x 1) &&& 1431655765)) &&& 858993459) + ((bb_ur (x - ((bb_ur x 1) &&& 1431655765)) 2) &&& 858993459)) 4)) &&& 252645135) + (bb_ur (((((x - ((bb_ur x 1) &&& 1431655765)) &&& 858993459) + ((bb_ur (x - ((bb_ur x 1) &&& 1431655765)) 2) &&& 858993459)) + (bb_ur (((x - ((bb_ur x 1) &&& 1431655765)) &&& 858993459) + ((bb_ur (x - ((bb_ur x 1) &&& 1431655765)) 2) &&& 858993459)) 4)) &&& 252645135) 8)) 16) hx hb dJ_bitCount_45 rfl ?_
  refine lv_iadd hx hb dJ_bitCount_46 ?_
  refine lv_istore_n (lv' := [(0, .int (((((((x - ((bb_ur x 1) &&& 1431655765)) &&& 858993459) + ((bb_ur (x - ((bb_ur x 1) &&& 1431655765)) 2) &&& 858993459)) + (bb_ur (((x - ((bb_ur x 1) &&& 1431655765)) &&& 858993459) + ((bb_ur (x - ((bb_ur x 1) &&& 1431655765)) 2) &&& 858993459)) 4)) &&& 252645135) + (bb_ur (((((x - ((bb_ur x 1) &&& 1431655765)) &&& 858993459) + ((bb_ur (x - ((bb_ur x 1) &&& 1431655765)) 2) &&& 858993459)) + (bb_ur (((x - ((bb_ur x 1) &&& 1431655765)) &&& 858993459) + ((bb_ur (x - ((bb_ur x 1) &&& 1431655765)) 2) &&& 858993459)) 4)) &&& 252645135) 8)) + (bb_ur ((((((x - ((bb_ur x 1) &&& 1431655765)) &&& 858993459) + ((bb_ur (x - ((bb_ur x 1) &&& 1431655765)) 2) &&& 858993459)) + (bb_ur (((x - ((bb_ur x 1) &&& 1431655765)) &&& 858993459) + ((bb_ur (x - ((bb_ur x 1) &&& 1431655765)) 2) &&& 858993459)) 4)) &&& 252645135) + (bb_ur (((((x - ((bb_ur x 1) &&& 1431655765)) &&& 858993459) + ((bb_ur (x - ((bb_ur x 1) &&& 1431655765)) 2) &&& 858993459)) + (bb_ur (((x - ((bb_ur x 1) &&& 1431655765)) &&& 858993459) + ((bb_ur (x - ((bb_ur x 1) &&& 1431655765)) 2) &&& 858993459)) 4)) &&& 252645135) 8)) 16)))]) hx hb dJ_bitCount_47 rfl hl (by decide) rfl (fun ls hl => ?_)
  refine lv_iload_n hx hb dJ_bitCount_48 rfl (lv_at hl 0 rfl) ?_
  refine lv_bipush (v := 63) hx hb dJ_bitCount_49 (by decide) ?_
  refine lv_iand hx hb dJ_bitCount_51 ?_
  have er : bb_bc x = (((((((x - ((bb_ur x 1) &&& 1431655765)) &&& 858993459) + ((bb_ur (x - ((bb_ur x 1) &&& 1431655765)) 2) &&& 858993459)) + (bb_ur (((x - ((bb_ur x 1) &&& 1431655765)) &&& 858993459) + ((bb_ur (x - ((bb_ur x 1) &&& 1431655765)) 2) &&& 858993459)) 4)) &&& 252645135) + (bb_ur (((((x - ((bb_ur x 1) &&& 1431655765)) &&& 858993459) + ((bb_ur (x - ((bb_ur x 1) &&& 1431655765)) 2) &&& 858993459)) + (bb_ur (((x - ((bb_ur x 1) &&& 1431655765)) &&& 858993459) + ((bb_ur (x - ((bb_ur x 1) &&& 1431655765)) 2) &&& 858993459)) 4)) &&& 252645135) 8)) + (bb_ur ((((((x - ((bb_ur x 1) &&& 1431655765)) &&& 858993459) + ((bb_ur (x - ((bb_ur x 1) &&& 1431655765)) 2) &&& 858993459)) + (bb_ur (((x - ((bb_ur x 1) &&& 1431655765)) &&& 858993459) + ((bb_ur (x - ((bb_ur x 1) &&& 1431655765)) 2) &&& 858993459)) 4)) &&& 252645135) + (bb_ur (((((x - ((bb_ur x 1) &&& 1431655765)) &&& 858993459) + ((bb_ur (x - ((bb_ur x 1) &&& 1431655765)) 2) &&& 858993459)) + (bb_ur (((x - ((bb_ur x 1) &&& 1431655765)) &&& 858993459) + ((bb_ur (x - ((bb_ur x 1) &&& 1431655765)) 2) &&& 858993459)) 4)) &&& 252645135) 8)) 16)) &&& 63 := by rfl
  exact W.iret (v := (((((((x - ((bb_ur x 1) &&& 1431655765)) &&& 858993459) + ((bb_ur (x - ((bb_ur x 1) &&& 1431655765)) 2) &&& 858993459)) + (bb_ur (((x - ((bb_ur x 1) &&& 1431655765)) &&& 858993459) + ((bb_ur (x - ((bb_ur x 1) &&& 1431655765)) 2) &&& 858993459)) 4)) &&& 252645135) + (bb_ur (((((x - ((bb_ur x 1) &&& 1431655765)) &&& 858993459) + ((bb_ur (x - ((bb_ur x 1) &&& 1431655765)) 2) &&& 858993459)) + (bb_ur (((x - ((bb_ur x 1) &&& 1431655765)) &&& 858993459) + ((bb_ur (x - ((bb_ur x 1) &&& 1431655765)) 2) &&& 858993459)) 4)) &&& 252645135) 8)) + (bb_ur ((((((x - ((bb_ur x 1) &&& 1431655765)) &&& 858993459) + ((bb_ur (x - ((bb_ur x 1) &&& 1431655765)) 2) &&& 858993459)) + (bb_ur (((x - ((bb_ur x 1) &&& 1431655765)) &&& 858993459) + ((bb_ur (x - ((bb_ur x 1) &&& 1431655765)) 2) &&& 858993459)) 4)) &&& 252645135) + (bb_ur (((((x - ((bb_ur x 1) &&& 1431655765)) &&& 858993459) + ((bb_ur (x - ((bb_ur x 1) &&& 1431655765)) 2) &&& 858993459)) + (bb_ur (((x - ((bb_ur x 1) &&& 1431655765)) &&& 858993459) + ((bb_ur (x - ((bb_ur x 1) &&& 1431655765)) 2) &&& 858993459)) 4)) &&& 252645135) 8)) 16)) &&& 63) hx hb hr (fun t ht _ => ⟨by rw [er], ht⟩) (fun _ h => nomatch h) dJ_bitCount_52

set_option maxHeartbeats 4000000 in
set_option maxRecDepth 100000 in
theorem k_weightOf (l : Launch) (dC : Nat → ClassId) (dI : Nat → Nat → Nat) (cA : ClassId) (h0 a0 a1 a2 a3 : Nat) (w pr vo vf : Nat → Int32) (k : Int32) (st : Int32) : Met l yX0_weightOf wsX0_weightOf ({ frames := 1, cells := 0, slots := 0, locals := 21 }) (va_Pc [.ref h0, .int st] (bb_B (dC, dI) vwCl (bb_C h0 a0 a1 a2 a3 cA w pr vo vf k) [(cA, .int)])) (QcRead (bb_ws w st 10)) 0 0 (fun _ => False) := by
  refine Met.ofW (cc := cX0_weightOf) (maxL := 4) (ret := some .int) (by decide) rfl ?_
  intro p e s m args below meth c s₁ B hml hv
  obtain ⟨rfl, hP, hK⟩ := hv
  have hx := B.exec
  have hb := B.bytes
  have hr := B.returns
  have hts := atoms_spec (ws := wsX0_weightOf) B.pre
  have hown : s.vm.findClass RX0 = some m.cls := findClass_of_methodNamed B.named
  have hlocks := B.notSynchronized
  have hin : ∀ w9 ∈ u_ws RX0 TX0 5, w9 ∈ wsX0_weightOf := fun w9 h9 => List.mem_cons_of_mem _ (bb_inX0 w9 h9)
  have hf9 := hts _ (List.mem_cons_of_mem _ bb_fX0_9)
  have hl := lv_entry ([.ref h0, .int st]) (n := 4) (Nat.le_of_ble_eq_true rfl)
  rw [lg_entry_eq]
  generalize (lg_sl ([.ref h0, .int st]) ++ List.replicate (4 - (lg_sl ([.ref h0, .int st])).length) Slot.unset).toArray = ls at hl ⊢
  have hl : lv_has ls 4 [(0, .ref h0), (1, .int st)] := hl
  refine lv_iconst (v := 0) hx hb dX0_weightOf_0 (by decide) ?_
  refine lv_istore_n (lv' := [(2, .int 0), (0, .ref h0), (1, .int st)]) hx hb dX0_weightOf_1 rfl hl (by decide) rfl (fun ls hl => ?_)
  refine lv_iconst (v := 0) hx hb dX0_weightOf_2 (by decide) ?_
  refine lv_istore_n (lv' := [(3, .int 0), (2, .int 0), (0, .ref h0), (1, .int st)]) hx hb dX0_weightOf_3 rfl hl (by decide) rfl (fun ls hl => ?_)
  have hl : lv_has ls 4 [(0, .ref h0), (1, .int st), (2, .int 0), (3, .int 0)] := lv_sub hl [2, 3, 1, 0] rfl
  refine bb_forW (pc := 4) (I := fun j9 ls => lv_has ls 4 [(0, .ref h0), (1, .int st), (2, .int (bb_ws w st j9)), (3, .int (nI j9))]) 10 ?_ ?_ 0 ls (Nat.zero_le _) hl
  · skip
    intro j ls hj hI ihj
    have hl := hI
    refine lv_iload_n hx hb dX0_weightOf_4 rfl (lv_at hl 3 rfl) ?_
    refine lv_bipush (v := nI 10) hx hb dX0_weightOf_5 (by decide) ?_
    refine lv_icmp_ge (tgt := 33) hx hb dX0_weightOf_7 rfl (fun h7 => absurd h7 (nI_ge hj (by decide))) (fun h7 => ?_)
    have q7 := bb_lt h7
    refine lv_iload_n hx hb dX0_weightOf_10 rfl (lv_at hl 1 rfl) ?_
    refine lv_iload_n hx hb dX0_weightOf_11 rfl (lv_at hl 3 rfl) ?_
    refine bb_cS (As := [.int st, .int (nI j)]) (rest := []) (r := bb_I (bb_hb st j)) ⟨hx, hb, hml, hown, hts⟩ (k_holds l st j) (cwS 2 hts gX0_weightOf_X0_holds rfl rfl rfl (by decide +kernel) ⟨Nat.le_of_ble_eq_true rfl, Nat.le_of_ble_eq_true rfl⟩) rfl hl.1 rfl (Nat.le_of_ble_eq_true rfl) dX0_weightOf_12 (Nat.zero_le _) (Nat.zero_le _) ?_
    refine lv_if_eq (tgt := 27) hx hb dX0_weightOf_15 rfl (fun h15 => ?_) (fun h15 => ?_)
    · skip
      have q15 := bb_I_0.mp h15
      refine lv_iinc (v := nI (j + 1)) (lv' := [(3, .int (nI (j + 1))), (0, .ref h0), (1, .int st), (2, .int (bb_ws w st j))]) hx hb dX0_weightOf_27 hl (k := 3) rfl (bb_inc _) (by decide) rfl (fun ls hl => ?_)
      refine lv_goto (tgt := 4) hx hb dX0_weightOf_30 rfl ?_
      have hl : lv_has ls 4 [(0, .ref h0), (1, .int st), (2, .int (bb_ws w st j)), (3, .int (nI (j + 1)))] := lv_sub hl [1, 2, 3, 0] rfl
      have e1 : (bb_ws w st j) = bb_ws w st (j + 1) := by simp [bb_ws, h7, q7, h15, q15]
      have hl : lv_has ls 4 [(0, .ref h0), (1, .int st), (2, .int (bb_ws w st (j + 1))), (3, .int (nI (j + 1)))] := by rw [← e1]; exact hl
      exact ihj ls hl
    · skip
      have q15 := bb_nz h15
      refine lv_iload_n hx hb dX0_weightOf_18 rfl (lv_at hl 2 rfl) ?_
      refine lv_aload_n hx hb dX0_weightOf_19 rfl (lv_at hl 0 rfl) ?_
      refine va_get (D := (dC, dI)) (ci := 0) (v := .ref a0) (C := RX0) (T := TX0) (N := 5) hx hb hts hin hown hK hP 0 rfl rfl 0 (by decide) hf9 (fun _ h9 => h9) rfl dX0_weightOf_20 ?_
      refine lv_iload_n hx hb dX0_weightOf_23 rfl (lv_at hl 3 rfl) ?_
      refine bb_ald hx hb hK hP 1 0 rfl rfl j (by omega) (by decide) dX0_weightOf_24 ?_
      refine lv_iadd hx hb dX0_weightOf_25 ?_
      refine lv_istore_n (lv' := [(2, .int ((bb_ws w st j) + (w j))), (0, .ref h0), (1, .int st), (3, .int (nI j))]) hx hb dX0_weightOf_26 rfl hl (by decide) rfl (fun ls hl => ?_)
      refine lv_iinc (v := nI (j + 1)) (lv' := [(3, .int (nI (j + 1))), (2, .int ((bb_ws w st j) + (w j))), (0, .ref h0), (1, .int st)]) hx hb dX0_weightOf_27 hl (k := 3) rfl (bb_inc _) (by decide) rfl (fun ls hl => ?_)
      refine lv_goto (tgt := 4) hx hb dX0_weightOf_30 rfl ?_
      have hl : lv_has ls 4 [(0, .ref h0), (1, .int st), (2, .int ((bb_ws w st j) + (w j))), (3, .int (nI (j + 1)))] := lv_sub hl [2, 3, 1, 0] rfl
      have e2 : ((bb_ws w st j) + (w j)) = bb_ws w st (j + 1) := by simp [bb_ws, h7, q7, h15, q15]
      have hl : lv_has ls 4 [(0, .ref h0), (1, .int st), (2, .int (bb_ws w st (j + 1))), (3, .int (nI (j + 1)))] := by rw [← e2]; exact hl
      exact ihj ls hl
  · skip
    intro ls hI
    have hl := hI
    refine lv_iload_n hx hb dX0_weightOf_4 rfl (lv_at hl 3 rfl) ?_
    refine lv_bipush (v := nI 10) hx hb dX0_weightOf_5 (by decide) ?_
    refine lv_icmp_ge (tgt := 33) hx hb dX0_weightOf_7 rfl (fun h7 => ?_) (fun h7 => absurd (nI_le (Nat.le_refl _) (by decide)) h7)
    have q7 := bb_nlt h7
    refine lv_iload_n hx hb dX0_weightOf_33 rfl (lv_at hl 2 rfl) ?_
    exact W.iret (v := bb_ws w st 10) hx hb hr (fun t ht _ => ⟨rfl, ht⟩) (fun _ h => nomatch h) dX0_weightOf_34

set_option maxHeartbeats 4000000 in
set_option maxRecDepth 100000 in
theorem k_isEnough (l : Launch) (dC : Nat → ClassId) (dI : Nat → Nat → Nat) (cA : ClassId) (h0 a0 a1 a2 a3 : Nat) (w pr vo vf : Nat → Int32) (k : Int32) (st : Int32) : Met l yX0_isEnough wsX0_isEnough ({ frames := 2, cells := 0, slots := 0, locals := 44 }) (va_Pc [.ref h0, .int st] (bb_B (dC, dI) vwCl (bb_C h0 a0 a1 a2 a3 cA w pr vo vf k) [(cA, .int)])) (QcRead (bb_I (bb_en w k st))) 0 0 (fun _ => False) := by
  refine Met.ofW (cc := cX0_isEnough) (maxL := 2) (ret := some .boolean) (by decide) rfl ?_
  intro p e s m args below meth c s₁ B hml hv
  obtain ⟨rfl, hP, hK⟩ := hv
  have hx := B.exec
  have hb := B.bytes
  have hr := B.returns
  have hts := atoms_spec (ws := wsX0_isEnough) B.pre
  have hown : s.vm.findClass RX0 = some m.cls := findClass_of_methodNamed B.named
  have hlocks := B.notSynchronized
  have hin : ∀ w9 ∈ u_ws RX0 TX0 5, w9 ∈ wsX0_isEnough := fun w9 h9 => List.mem_cons_of_mem _ (bb_inX0 w9 h9)
  have hf22 := hts _ (List.mem_cons_of_mem _ bb_fX0_22)
  have hl := lv_entry ([.ref h0, .int st]) (n := 2) (Nat.le_of_ble_eq_true rfl)
  rw [lg_entry_eq]
  generalize (lg_sl ([.ref h0, .int st]) ++ List.replicate (2 - (lg_sl ([.ref h0, .int st])).length) Slot.unset).toArray = ls at hl ⊢
  have hl : lv_has ls 2 [(0, .ref h0), (1, .int st)] := hl
  refine lv_aload_n hx hb dX0_isEnough_0 rfl (lv_at hl 0 rfl) ?_
  refine lv_iload_n hx hb dX0_isEnough_1 rfl (lv_at hl 1 rfl) ?_
  refine bb_cV (As := [.int st]) (rest := []) (r := bb_ws w st 10) 0 ⟨hx, hb, hml, hown, hts⟩ (k_weightOf l dC dI cA h0 a0 a1 a2 a3 w pr vo vf k st) (cwV 1 hts gX0_isEnough_X0_weightOf rfl rfl rfl (by decide +kernel) ⟨Nat.le_of_ble_eq_true rfl, Nat.le_of_ble_eq_true rfl⟩) hP hK rfl rfl rfl hl.1 rfl (Nat.le_of_ble_eq_true rfl) dX0_isEnough_2 (Nat.zero_le _) (Nat.zero_le _) ?_
  refine lv_aload_n hx hb dX0_isEnough_5 rfl (lv_at hl 0 rfl) ?_
  refine va_get (D := (dC, dI)) (ci := 0) (v := .int k) (C := RX0) (T := TX0) (N := 5) hx hb hts hin hown hK hP 0 rfl rfl 4 (by decide) hf22 (fun _ h9 => h9) rfl dX0_isEnough_6 ?_
  refine lv_icmp_lt (tgt := 16) hx hb dX0_isEnough_9 rfl (fun h9 => ?_) (fun h9 => ?_)
  · skip
    have q9 := bb_nle h9
    refine lv_iconst (v := 0) hx hb dX0_isEnough_16 (by decide) ?_
    have er : bb_I (bb_en w k st) = 0 := by simp [bb_I, bb_en, h9, q9]
    exact W.zret (v := 0) hx hb hr bb_z0 (fun t ht _ => ⟨by rw [er], ht⟩) (fun _ h => nomatch h) dX0_isEnough_17
  · skip
    have q9 := bb_le h9
    refine lv_iconst (v := 1) hx hb dX0_isEnough_12 (by decide) ?_
    refine lv_goto (tgt := 17) hx hb dX0_isEnough_13 rfl ?_
    have er : bb_I (bb_en w k st) = 1 := by simp [bb_I, bb_en, h9, q9]
    exact W.zret (v := 1) hx hb hr bb_z1 (fun t ht _ => ⟨by rw [er], ht⟩) (fun _ h => nomatch h) dX0_isEnough_17

set_option maxHeartbeats 4000000 in
set_option maxRecDepth 100000 in
theorem k_lightestOf (l : Launch) (dC : Nat → ClassId) (dI : Nat → Nat → Nat) (cA : ClassId) (h0 a0 a1 a2 a3 : Nat) (w pr vo vf : Nat → Int32) (k : Int32) (st : Int32) : Met l yX0_lightestOf wsX0_lightestOf ({ frames := 1, cells := 0, slots := 0, locals := 21 }) (va_Pc [.ref h0, .int st] (bb_B (dC, dI) vwCl (bb_C h0 a0 a1 a2 a3 cA w pr vo vf k) [(cA, .int)])) (QcRead (bb_lm w st 10)) 0 0 (fun _ => False) := by
  refine Met.ofW (cc := cX0_lightestOf) (maxL := 4) (ret := some .int) (by decide) rfl ?_
  intro p e s m args below meth c s₁ B hml hv
  obtain ⟨rfl, hP, hK⟩ := hv
  have hx := B.exec
  have hb := B.bytes
  have hr := B.returns
  have hts := atoms_spec (ws := wsX0_lightestOf) B.pre
  have hown : s.vm.findClass RX0 = some m.cls := findClass_of_methodNamed B.named
  have hlocks := B.notSynchronized
  have hin : ∀ w9 ∈ u_ws RX0 TX0 5, w9 ∈ wsX0_lightestOf := fun w9 h9 => List.mem_cons_of_mem _ (bb_inX0 w9 h9)
  have hf9 := hts _ (List.mem_cons_of_mem _ bb_fX0_9)
  have hl := lv_entry ([.ref h0, .int st]) (n := 4) (Nat.le_of_ble_eq_true rfl)
  rw [lg_entry_eq]
  generalize (lg_sl ([.ref h0, .int st]) ++ List.replicate (4 - (lg_sl ([.ref h0, .int st])).length) Slot.unset).toArray = ls at hl ⊢
  have hl : lv_has ls 4 [(0, .ref h0), (1, .int st)] := hl
  refine lv_bipush (v := 50) hx hb dX0_lightestOf_0 (by decide) ?_
  refine lv_istore_n (lv' := [(2, .int 50), (0, .ref h0), (1, .int st)]) hx hb dX0_lightestOf_2 rfl hl (by decide) rfl (fun ls hl => ?_)
  refine lv_iconst (v := 0) hx hb dX0_lightestOf_3 (by decide) ?_
  refine lv_istore_n (lv' := [(3, .int 0), (2, .int 50), (0, .ref h0), (1, .int st)]) hx hb dX0_lightestOf_4 rfl hl (by decide) rfl (fun ls hl => ?_)
  have hl : lv_has ls 4 [(0, .ref h0), (1, .int st), (2, .int 50), (3, .int 0)] := lv_sub hl [2, 3, 1, 0] rfl
  refine bb_forW (pc := 5) (I := fun j9 ls => lv_has ls 4 [(0, .ref h0), (1, .int st), (2, .int (bb_lm w st j9)), (3, .int (nI j9))]) 10 ?_ ?_ 0 ls (Nat.zero_le _) hl
  · skip
    intro j ls hj hI ihj
    have hl := hI
    refine lv_iload_n hx hb dX0_lightestOf_5 rfl (lv_at hl 3 rfl) ?_
    refine lv_bipush (v := nI 10) hx hb dX0_lightestOf_6 (by decide) ?_
    refine lv_icmp_ge (tgt := 36) hx hb dX0_lightestOf_8 rfl (fun h8 => absurd h8 (nI_ge hj (by decide))) (fun h8 => ?_)
    have q8 := bb_lt h8
    refine lv_iload_n hx hb dX0_lightestOf_11 rfl (lv_at hl 1 rfl) ?_
    refine lv_iload_n hx hb dX0_lightestOf_12 rfl (lv_at hl 3 rfl) ?_
    refine bb_cS (As := [.int st, .int (nI j)]) (rest := []) (r := bb_I (bb_hb st j)) ⟨hx, hb, hml, hown, hts⟩ (k_holds l st j) (cwS 2 hts gX0_lightestOf_X0_holds rfl rfl rfl (by decide +kernel) ⟨Nat.le_of_ble_eq_true rfl, Nat.le_of_ble_eq_true rfl⟩) rfl hl.1 rfl (Nat.le_of_ble_eq_true rfl) dX0_lightestOf_13 (Nat.zero_le _) (Nat.zero_le _) ?_
    refine lv_if_eq (tgt := 30) hx hb dX0_lightestOf_16 rfl (fun h16 => ?_) (fun h16 => ?_)
    · skip
      have q16 := bb_I_0.mp h16
      refine lv_iinc (v := nI (j + 1)) (lv' := [(3, .int (nI (j + 1))), (0, .ref h0), (1, .int st), (2, .int (bb_lm w st j))]) hx hb dX0_lightestOf_30 hl (k := 3) rfl (bb_inc _) (by decide) rfl (fun ls hl => ?_)
      refine lv_goto (tgt := 5) hx hb dX0_lightestOf_33 rfl ?_
      have hl : lv_has ls 4 [(0, .ref h0), (1, .int st), (2, .int (bb_lm w st j)), (3, .int (nI (j + 1)))] := lv_sub hl [1, 2, 3, 0] rfl
      have e1 : (bb_lm w st j) = bb_lm w st (j + 1) := by simp [bb_lm, h8, q8, h16, q16]
      have hl : lv_has ls 4 [(0, .ref h0), (1, .int st), (2, .int (bb_lm w st (j + 1))), (3, .int (nI (j + 1)))] := by rw [← e1]; exact hl
      exact ihj ls hl
    · skip
      have q16 := bb_nz h16
      refine lv_iload_n hx hb dX0_lightestOf_19 rfl (lv_at hl 2 rfl) ?_
      refine lv_aload_n hx hb dX0_lightestOf_20 rfl (lv_at hl 0 rfl) ?_
      refine va_get (D := (dC, dI)) (ci := 0) (v := .ref a0) (C := RX0) (T := TX0) (N := 5) hx hb hts hin hown hK hP 0 rfl rfl 0 (by decide) hf9 (fun _ h9 => h9) rfl dX0_lightestOf_21 ?_
      refine lv_iload_n hx hb dX0_lightestOf_24 rfl (lv_at hl 3 rfl) ?_
      refine bb_ald hx hb hK hP 1 0 rfl rfl j (by omega) (by decide) dX0_lightestOf_25 ?_
      refine va_mmin hx hb (hml.trans hl.1.symm) (own := RX0) (index := 142) hown (hts _ (List.mem_cons_of_mem _ bb_mmin_l)) (hts _ (List.mem_cons_of_mem _ bb_mmin_s)) (hts _ (List.mem_cons_of_mem _ bb_mini)) (hts _ (List.mem_cons_of_mem _ bb_mmin_c)) (Nat.le_of_ble_eq_true rfl) (Nat.le_of_ble_eq_true rfl) (Nat.zero_le _) (Nat.zero_le _) dX0_lightestOf_26 ?_
      refine lv_istore_n (lv' := [(2, .int (if (w j) < (bb_lm w st j) then (w j) else (bb_lm w st j))), (0, .ref h0), (1, .int st), (3, .int (nI j))]) hx hb dX0_lightestOf_29 rfl hl (by decide) rfl (fun ls hl => ?_)
      refine lv_iinc (v := nI (j + 1)) (lv' := [(3, .int (nI (j + 1))), (2, .int (if (w j) < (bb_lm w st j) then (w j) else (bb_lm w st j))), (0, .ref h0), (1, .int st)]) hx hb dX0_lightestOf_30 hl (k := 3) rfl (bb_inc _) (by decide) rfl (fun ls hl => ?_)
      refine lv_goto (tgt := 5) hx hb dX0_lightestOf_33 rfl ?_
      have hl : lv_has ls 4 [(0, .ref h0), (1, .int st), (2, .int (if (w j) < (bb_lm w st j) then (w j) else (bb_lm w st j))), (3, .int (nI (j + 1)))] := lv_sub hl [2, 3, 1, 0] rfl
      have e2 : (if (w j) < (bb_lm w st j) then (w j) else (bb_lm w st j)) = bb_lm w st (j + 1) := by simp [bb_lm, h8, q8, h16, q16]
      have hl : lv_has ls 4 [(0, .ref h0), (1, .int st), (2, .int (bb_lm w st (j + 1))), (3, .int (nI (j + 1)))] := by rw [← e2]; exact hl
      exact ihj ls hl
  · skip
    intro ls hI
    have hl := hI
    refine lv_iload_n hx hb dX0_lightestOf_5 rfl (lv_at hl 3 rfl) ?_
    refine lv_bipush (v := nI 10) hx hb dX0_lightestOf_6 (by decide) ?_
    refine lv_icmp_ge (tgt := 36) hx hb dX0_lightestOf_8 rfl (fun h8 => ?_) (fun h8 => absurd (nI_le (Nat.le_refl _) (by decide)) h8)
    have q8 := bb_nlt h8
    refine lv_iload_n hx hb dX0_lightestOf_36 rfl (lv_at hl 2 rfl) ?_
    exact W.iret (v := bb_lm w st 10) hx hb hr (fun t ht _ => ⟨rfl, ht⟩) (fun _ h => nomatch h) dX0_lightestOf_37

set_option maxHeartbeats 4000000 in
set_option maxRecDepth 100000 in
theorem k_isBare (l : Launch) (dC : Nat → ClassId) (dI : Nat → Nat → Nat) (cA : ClassId) (h0 a0 a1 a2 a3 : Nat) (w pr vo vf : Nat → Int32) (k : Int32) (st : Int32) : Met l yX0_isBare wsX0_isBare ({ frames := 2, cells := 0, slots := 0, locals := 44 }) (va_Pc [.ref h0, .int st] (bb_B (dC, dI) vwCl (bb_C h0 a0 a1 a2 a3 cA w pr vo vf k) [(cA, .int)])) (QcRead (bb_I (bb_bare w k st))) 0 0 (fun _ => False) := by
  refine Met.ofW (cc := cX0_isBare) (maxL := 3) (ret := some .boolean) (by decide) rfl ?_
  intro p e s m args below meth c s₁ B hml hv
  obtain ⟨rfl, hP, hK⟩ := hv
  have hx := B.exec
  have hb := B.bytes
  have hr := B.returns
  have hts := atoms_spec (ws := wsX0_isBare) B.pre
  have hown : s.vm.findClass RX0 = some m.cls := findClass_of_methodNamed B.named
  have hlocks := B.notSynchronized
  have hin : ∀ w9 ∈ u_ws RX0 TX0 5, w9 ∈ wsX0_isBare := fun w9 h9 => List.mem_cons_of_mem _ (bb_inX0 w9 h9)
  have hf22 := hts _ (List.mem_cons_of_mem _ bb_fX0_22)
  have hl := lv_entry ([.ref h0, .int st]) (n := 3) (Nat.le_of_ble_eq_true rfl)
  rw [lg_entry_eq]
  generalize (lg_sl ([.ref h0, .int st]) ++ List.replicate (3 - (lg_sl ([.ref h0, .int st])).length) Slot.unset).toArray = ls at hl ⊢
  have hl : lv_has ls 3 [(0, .ref h0), (1, .int st)] := hl
  refine lv_aload_n hx hb dX0_isBare_0 rfl (lv_at hl 0 rfl) ?_
  refine lv_iload_n hx hb dX0_isBare_1 rfl (lv_at hl 1 rfl) ?_
  refine bb_cV (As := [.int st]) (rest := []) (r := bb_ws w st 10) 0 ⟨hx, hb, hml, hown, hts⟩ (k_weightOf l dC dI cA h0 a0 a1 a2 a3 w pr vo vf k st) (cwV 1 hts gX0_isBare_X0_weightOf rfl rfl rfl (by decide +kernel) ⟨Nat.le_of_ble_eq_true rfl, Nat.le_of_ble_eq_true rfl⟩) hP hK rfl rfl rfl hl.1 rfl (Nat.le_of_ble_eq_true rfl) dX0_isBare_2 (Nat.zero_le _) (Nat.zero_le _) ?_
  refine lv_istore_n (lv' := [(2, .int (bb_ws w st 10)), (0, .ref h0), (1, .int st)]) hx hb dX0_isBare_5 rfl hl (by decide) rfl (fun ls hl => ?_)
  refine lv_iload_n hx hb dX0_isBare_6 rfl (lv_at hl 0 rfl) ?_
  refine lv_aload_n hx hb dX0_isBare_7 rfl (lv_at hl 1 rfl) ?_
  refine va_get (D := (dC, dI)) (ci := 0) (v := .int k) (C := RX0) (T := TX0) (N := 5) hx hb hts hin hown hK hP 0 rfl rfl 4 (by decide) hf22 (fun _ h9 => h9) rfl dX0_isBare_8 ?_
  refine lv_icmp_lt (tgt := 32) hx hb dX0_isBare_11 rfl (fun h11 => ?_) (fun h11 => ?_)
  · skip
    have q11 := bb_nle h11
    refine lv_iconst (v := 0) hx hb dX0_isBare_32 (by decide) ?_
    have er : bb_I (bb_bare w k st) = 0 := by simp [bb_I, bb_bare, h11, q11]
    exact W.zret (v := 0) hx hb hr bb_z0 (fun t ht _ => ⟨by rw [er], ht⟩) (fun _ h => nomatch h) dX0_isBare_33
  · skip
    have q11 := bb_le h11
    refine lv_iload_n hx hb dX0_isBare_14 rfl (lv_at hl 0 rfl) ?_
    refine lv_aload_n hx hb dX0_isBare_15 rfl (lv_at hl 1 rfl) ?_
    refine lv_iload_n hx hb dX0_isBare_16 rfl (lv_at hl 2 rfl) ?_
    refine bb_cV (As := [.int st]) (rest := [.int (bb_ws w st 10)]) (r := bb_lm w st 10) 0 ⟨hx, hb, hml, hown, hts⟩ (k_lightestOf l dC dI cA h0 a0 a1 a2 a3 w pr vo vf k st) (cwV 1 hts gX0_isBare_X0_lightestOf rfl rfl rfl (by decide +kernel) ⟨Nat.le_of_ble_eq_true rfl, Nat.le_of_ble_eq_true rfl⟩) hP hK rfl rfl rfl hl.1 rfl (Nat.le_of_ble_eq_true rfl) dX0_isBare_17 (Nat.zero_le _) (Nat.zero_le _) ?_
    refine lv_isub hx hb dX0_isBare_20 ?_
    refine lv_aload_n hx hb dX0_isBare_21 rfl (lv_at hl 1 rfl) ?_
    refine va_get (D := (dC, dI)) (ci := 0) (v := .int k) (C := RX0) (T := TX0) (N := 5) hx hb hts hin hown hK hP 0 rfl rfl 4 (by decide) hf22 (fun _ h9 => h9) rfl dX0_isBare_22 ?_
    refine lv_icmp_ge (tgt := 32) hx hb dX0_isBare_25 rfl (fun h25 => ?_) (fun h25 => ?_)
    · skip
      have q25 := bb_nlt h25
      refine lv_iconst (v := 0) hx hb dX0_isBare_32 (by decide) ?_
      have er : bb_I (bb_bare w k st) = 0 := by simp [bb_I, bb_bare, h11, q11, h25, q25]
      exact W.zret (v := 0) hx hb hr bb_z0 (fun t ht _ => ⟨by rw [er], ht⟩) (fun _ h => nomatch h) dX0_isBare_33
    · skip
      have q25 := bb_lt h25
      refine lv_iconst (v := 1) hx hb dX0_isBare_28 (by decide) ?_
      refine lv_goto (tgt := 33) hx hb dX0_isBare_29 rfl ?_
      have er : bb_I (bb_bare w k st) = 1 := by simp [bb_I, bb_bare, h11, q11, h25, q25]
      exact W.zret (v := 1) hx hb hr bb_z1 (fun t ht _ => ⟨by rw [er], ht⟩) (fun _ h => nomatch h) dX0_isBare_33

set_option maxHeartbeats 4000000 in
set_option maxRecDepth 100000 in
theorem k_isOpen (l : Launch) (dC : Nat → ClassId) (dI : Nat → Nat → Nat) (cA : ClassId) (h0 a0 a1 a2 a3 : Nat) (w pr vo vf : Nat → Int32) (k : Int32) (n b : Nat) (hn0 : n < 10) (hb0 : b < 31) : Met l yX0_isOpen wsX0_isOpen ({ frames := 1, cells := 0, slots := 0, locals := 21 }) (va_Pc [.ref h0, .int (nI n), .int (nI b)] (bb_B (dC, dI) vwCl (bb_C h0 a0 a1 a2 a3 cA w pr vo vf k) [(cA, .int)])) (QcRead (bb_I (bb_op pr vo b n))) 0 0 (fun _ => False) := by
  refine Met.ofW (cc := cX0_isOpen) (maxL := 3) (ret := some .boolean) (by decide) rfl ?_
  intro p e s m args below meth c s₁ B hml hv
  obtain ⟨rfl, hP, hK⟩ := hv
  have hx := B.exec
  have hb := B.bytes
  have hr := B.returns
  have hts := atoms_spec (ws := wsX0_isOpen) B.pre
  have hown : s.vm.findClass RX0 = some m.cls := findClass_of_methodNamed B.named
  have hlocks := B.notSynchronized
  have hin : ∀ w9 ∈ u_ws RX0 TX0 5, w9 ∈ wsX0_isOpen := fun w9 h9 => List.mem_cons_of_mem _ (bb_inX0 w9 h9)
  have hf13 := hts _ (List.mem_cons_of_mem _ bb_fX0_13)
  have hf16 := hts _ (List.mem_cons_of_mem _ bb_fX0_16)
  have hl := lv_entry ([.ref h0, .int (nI n), .int (nI b)]) (n := 3) (Nat.le_of_ble_eq_true rfl)
  rw [lg_entry_eq]
  generalize (lg_sl ([.ref h0, .int (nI n), .int (nI b)]) ++ List.replicate (3 - (lg_sl ([.ref h0, .int (nI n), .int (nI b)])).length) Slot.unset).toArray = ls at hl ⊢
  have hl : lv_has ls 3 [(0, .ref h0), (1, .int (nI n)), (2, .int (nI b))] := hl
  refine lv_aload_n hx hb dX0_isOpen_0 rfl (lv_at hl 0 rfl) ?_
  refine va_get (D := (dC, dI)) (ci := 0) (v := .ref a2) (C := RX0) (T := TX0) (N := 5) hx hb hts hin hown hK hP 0 rfl rfl 2 (by decide) hf16 (fun _ h9 => h9) rfl dX0_isOpen_1 ?_
  refine lv_iload_n hx hb dX0_isOpen_4 rfl (lv_at hl 2 rfl) ?_
  refine bb_ald hx hb hK hP 3 0 rfl rfl b (by omega) (by decide) dX0_isOpen_5 ?_
  refine lv_iload_n hx hb dX0_isOpen_6 rfl (lv_at hl 1 rfl) ?_
  refine bb_cS (As := [.int (vo b), .int (nI n)]) (rest := []) (r := bb_I (bb_hb (vo b) n)) ⟨hx, hb, hml, hown, hts⟩ (k_holds l (vo b) n) (cwS 2 hts gX0_isOpen_X0_holds rfl rfl rfl (by decide +kernel) ⟨Nat.le_of_ble_eq_true rfl, Nat.le_of_ble_eq_true rfl⟩) rfl hl.1 rfl (Nat.le_of_ble_eq_true rfl) dX0_isOpen_7 (Nat.zero_le _) (Nat.zero_le _) ?_
  refine lv_if_ne (tgt := 27) hx hb dX0_isOpen_10 rfl (fun h10 => ?_) (fun h10 => ?_)
  · skip
    have q10 := bb_nz h10
    refine lv_iconst (v := 0) hx hb dX0_isOpen_27 (by decide) ?_
    have er : bb_I (bb_op pr vo b n) = 0 := by simp [bb_I, bb_op, h10, q10]
    exact W.zret (v := 0) hx hb hr bb_z0 (fun t ht _ => ⟨by rw [er], ht⟩) (fun _ h => nomatch h) dX0_isOpen_28
  · skip
    have q10 := bb_I_0.mp h10
    refine lv_aload_n hx hb dX0_isOpen_13 rfl (lv_at hl 0 rfl) ?_
    refine va_get (D := (dC, dI)) (ci := 0) (v := .ref a1) (C := RX0) (T := TX0) (N := 5) hx hb hts hin hown hK hP 0 rfl rfl 1 (by decide) hf13 (fun _ h9 => h9) rfl dX0_isOpen_14 ?_
    refine lv_iload_n hx hb dX0_isOpen_17 rfl (lv_at hl 1 rfl) ?_
    refine bb_ald hx hb hK hP 2 0 rfl rfl n (by omega) (by decide) dX0_isOpen_18 ?_
    refine lv_iload_n hx hb dX0_isOpen_19 rfl (lv_at hl 2 rfl) ?_
    refine lv_icmp_gt (tgt := 27) hx hb dX0_isOpen_20 rfl (fun h20 => ?_) (fun h20 => ?_)
    · skip
      have q20 := bb_nle h20
      refine lv_iconst (v := 0) hx hb dX0_isOpen_27 (by decide) ?_
      have er : bb_I (bb_op pr vo b n) = 0 := by simp [bb_I, bb_op, h10, q10, h20, q20]
      exact W.zret (v := 0) hx hb hr bb_z0 (fun t ht _ => ⟨by rw [er], ht⟩) (fun _ h => nomatch h) dX0_isOpen_28
    · skip
      have q20 := bb_le h20
      refine lv_iconst (v := 1) hx hb dX0_isOpen_23 (by decide) ?_
      refine lv_goto (tgt := 28) hx hb dX0_isOpen_24 rfl ?_
      have er : bb_I (bb_op pr vo b n) = 1 := by simp [bb_I, bb_op, h10, q10, h20, q20]
      exact W.zret (v := 1) hx hb hr bb_z1 (fun t ht _ => ⟨by rw [er], ht⟩) (fun _ h => nomatch h) dX0_isOpen_28

set_option maxHeartbeats 4000000 in
set_option maxRecDepth 100000 in
theorem k_openNodes (l : Launch) (dC : Nat → ClassId) (dI : Nat → Nat → Nat) (cA : ClassId) (h0 a0 a1 a2 a3 : Nat) (w pr vo vf : Nat → Int32) (k : Int32) (b : Nat) (hb0 : b < 31) : Met l yX0_openNodes wsX0_openNodes ({ frames := 2, cells := 0, slots := 0, locals := 43 }) (va_Pc [.ref h0, .int (nI b)] (bb_B (dC, dI) vwCl (bb_C h0 a0 a1 a2 a3 cA w pr vo vf k) [(cA, .int)])) (QcRead (bb_bl (bb_op pr vo b) 10)) 0 0 (fun _ => False) := by
  refine Met.ofW (cc := cX0_openNodes) (maxL := 4) (ret := some .int) (by decide) rfl ?_
  intro p e s m args below meth c s₁ B hml hv
  obtain ⟨rfl, hP, hK⟩ := hv
  have hx := B.exec
  have hb := B.bytes
  have hr := B.returns
  have hts := atoms_spec (ws := wsX0_openNodes) B.pre
  have hown : s.vm.findClass RX0 = some m.cls := findClass_of_methodNamed B.named
  have hlocks := B.notSynchronized
  have hl := lv_entry ([.ref h0, .int (nI b)]) (n := 4) (Nat.le_of_ble_eq_true rfl)
  rw [lg_entry_eq]
  generalize (lg_sl ([.ref h0, .int (nI b)]) ++ List.replicate (4 - (lg_sl ([.ref h0, .int (nI b)])).length) Slot.unset).toArray = ls at hl ⊢
  have hl : lv_has ls 4 [(0, .ref h0), (1, .int (nI b))] := hl
  refine lv_iconst (v := 0) hx hb dX0_openNodes_0 (by decide) ?_
  refine lv_istore_n (lv' := [(2, .int 0), (0, .ref h0), (1, .int (nI b))]) hx hb dX0_openNodes_1 rfl hl (by decide) rfl (fun ls hl => ?_)
  refine lv_iconst (v := 0) hx hb dX0_openNodes_2 (by decide) ?_
  refine lv_istore_n (lv' := [(3, .int 0), (2, .int 0), (0, .ref h0), (1, .int (nI b))]) hx hb dX0_openNodes_3 rfl hl (by decide) rfl (fun ls hl => ?_)
  have hl : lv_has ls 4 [(0, .ref h0), (1, .int (nI b)), (2, .int 0), (3, .int 0)] := lv_sub hl [2, 3, 1, 0] rfl
  refine bb_forW (pc := 4) (I := fun j9 ls => lv_has ls 4 [(0, .ref h0), (1, .int (nI b)), (2, .int (bb_bl (bb_op pr vo b) j9)), (3, .int (nI j9))]) 10 ?_ ?_ 0 ls (Nat.zero_le _) hl
  · skip
    intro j ls hj hI ihj
    have hl := hI
    refine lv_iload_n hx hb dX0_openNodes_4 rfl (lv_at hl 3 rfl) ?_
    refine lv_bipush (v := nI 10) hx hb dX0_openNodes_5 (by decide) ?_
    refine lv_icmp_ge (tgt := 31) hx hb dX0_openNodes_7 rfl (fun h7 => absurd h7 (nI_ge hj (by decide))) (fun h7 => ?_)
    have q7 := bb_lt h7
    refine lv_aload_n hx hb dX0_openNodes_10 rfl (lv_at hl 0 rfl) ?_
    refine lv_iload_n hx hb dX0_openNodes_11 rfl (lv_at hl 3 rfl) ?_
    refine lv_iload_n hx hb dX0_openNodes_12 rfl (lv_at hl 1 rfl) ?_
    refine bb_cV (As := [.int (nI j), .int (nI b)]) (rest := []) (r := bb_I (bb_op pr vo b j)) 0 ⟨hx, hb, hml, hown, hts⟩ (k_isOpen l dC dI cA h0 a0 a1 a2 a3 w pr vo vf k j b (by omega) (by omega)) (cwV 2 hts gX0_openNodes_X0_isOpen rfl rfl rfl (by decide +kernel) ⟨Nat.le_of_ble_eq_true rfl, Nat.le_of_ble_eq_true rfl⟩) hP hK rfl rfl rfl hl.1 rfl (Nat.le_of_ble_eq_true rfl) dX0_openNodes_13 (Nat.zero_le _) (Nat.zero_le _) ?_
    refine lv_if_eq (tgt := 25) hx hb dX0_openNodes_16 rfl (fun h16 => ?_) (fun h16 => ?_)
    · skip
      have q16 := bb_I_0.mp h16
      refine lv_iinc (v := nI (j + 1)) (lv' := [(3, .int (nI (j + 1))), (0, .ref h0), (1, .int (nI b)), (2, .int (bb_bl (bb_op pr vo b) j))]) hx hb dX0_openNodes_25 hl (k := 3) rfl (bb_inc _) (by decide) rfl (fun ls hl => ?_)
      refine lv_goto (tgt := 4) hx hb dX0_openNodes_28 rfl ?_
      have hl : lv_has ls 4 [(0, .ref h0), (1, .int (nI b)), (2, .int (bb_bl (bb_op pr vo b) j)), (3, .int (nI (j + 1)))] := lv_sub hl [1, 2, 3, 0] rfl
      have e1 : (bb_bl (bb_op pr vo b) j) = bb_bl (bb_op pr vo b) (j + 1) := by simp [bb_bl, h7, q7, h16, q16]
      have hl : lv_has ls 4 [(0, .ref h0), (1, .int (nI b)), (2, .int (bb_bl (bb_op pr vo b) (j + 1))), (3, .int (nI (j + 1)))] := by rw [← e1]; exact hl
      exact ihj ls hl
    · skip
      have q16 := bb_nz h16
      refine lv_iload_n hx hb dX0_openNodes_19 rfl (lv_at hl 2 rfl) ?_
      refine lv_iconst (v := 1) hx hb dX0_openNodes_20 (by decide) ?_
      refine lv_iload_n hx hb dX0_openNodes_21 rfl (lv_at hl 3 rfl) ?_
      refine lv_ishl hx hb dX0_openNodes_22 ?_
      refine lv_ior hx hb dX0_openNodes_23 ?_
      refine lv_istore_n (lv' := [(2, .int ((bb_bl (bb_op pr vo b) j) ||| (1 <<< ((nI j) &&& 31)))), (0, .ref h0), (1, .int (nI b)), (3, .int (nI j))]) hx hb dX0_openNodes_24 rfl hl (by decide) rfl (fun ls hl => ?_)
      refine lv_iinc (v := nI (j + 1)) (lv' := [(3, .int (nI (j + 1))), (2, .int ((bb_bl (bb_op pr vo b) j) ||| (1 <<< ((nI j) &&& 31)))), (0, .ref h0), (1, .int (nI b))]) hx hb dX0_openNodes_25 hl (k := 3) rfl (bb_inc _) (by decide) rfl (fun ls hl => ?_)
      refine lv_goto (tgt := 4) hx hb dX0_openNodes_28 rfl ?_
      have hl : lv_has ls 4 [(0, .ref h0), (1, .int (nI b)), (2, .int ((bb_bl (bb_op pr vo b) j) ||| (1 <<< ((nI j) &&& 31)))), (3, .int (nI (j + 1)))] := lv_sub hl [2, 3, 1, 0] rfl
      have e2 : ((bb_bl (bb_op pr vo b) j) ||| (1 <<< ((nI j) &&& 31))) = bb_bl (bb_op pr vo b) (j + 1) := by simp [bb_bl, h7, q7, h16, q16]
      have hl : lv_has ls 4 [(0, .ref h0), (1, .int (nI b)), (2, .int (bb_bl (bb_op pr vo b) (j + 1))), (3, .int (nI (j + 1)))] := by rw [← e2]; exact hl
      exact ihj ls hl
  · skip
    intro ls hI
    have hl := hI
    refine lv_iload_n hx hb dX0_openNodes_4 rfl (lv_at hl 3 rfl) ?_
    refine lv_bipush (v := nI 10) hx hb dX0_openNodes_5 (by decide) ?_
    refine lv_icmp_ge (tgt := 31) hx hb dX0_openNodes_7 rfl (fun h7 => ?_) (fun h7 => absurd (nI_le (Nat.le_refl _) (by decide)) h7)
    have q7 := bb_nlt h7
    refine lv_iload_n hx hb dX0_openNodes_31 rfl (lv_at hl 2 rfl) ?_
    exact W.iret (v := bb_bl (bb_op pr vo b) 10) hx hb hr (fun t ht _ => ⟨rfl, ht⟩) (fun _ h => nomatch h) dX0_openNodes_32

set_option maxHeartbeats 4000000 in
set_option maxRecDepth 100000 in
theorem k_isOnlyValue (l : Launch) (dC : Nat → ClassId) (dI : Nat → Nat → Nat) (cA : ClassId) (h0 a0 a1 a2 a3 : Nat) (w pr vo vf : Nat → Int32) (k : Int32) (b : Nat) (v : Int32) (hb0 : b < 31) : Met l yX0_isOnlyValue wsX0_isOnlyValue ({ frames := 0, cells := 0, slots := 0, locals := 0 }) (va_Pc [.ref h0, .int (nI b), .int v] (bb_B (dC, dI) vwCl (bb_C h0 a0 a1 a2 a3 cA w pr vo vf k) [(cA, .int)])) (QcRead (bb_I (bb_only vf b v))) 0 0 (fun _ => False) := by
  refine Met.ofW (cc := cX0_isOnlyValue) (maxL := 3) (ret := some .boolean) (by decide) rfl ?_
  intro p e s m args below meth c s₁ B hml hv
  obtain ⟨rfl, hP, hK⟩ := hv
  have hx := B.exec
  have hb := B.bytes
  have hr := B.returns
  have hts := atoms_spec (ws := wsX0_isOnlyValue) B.pre
  have hown : s.vm.findClass RX0 = some m.cls := findClass_of_methodNamed B.named
  have hlocks := B.notSynchronized
  have hin : ∀ w9 ∈ u_ws RX0 TX0 5, w9 ∈ wsX0_isOnlyValue := fun w9 h9 => List.mem_cons_of_mem _ (bb_inX0 w9 h9)
  have hf19 := hts _ (List.mem_cons_of_mem _ bb_fX0_19)
  have hl := lv_entry ([.ref h0, .int (nI b), .int v]) (n := 3) (Nat.le_of_ble_eq_true rfl)
  rw [lg_entry_eq]
  generalize (lg_sl ([.ref h0, .int (nI b), .int v]) ++ List.replicate (3 - (lg_sl ([.ref h0, .int (nI b), .int v])).length) Slot.unset).toArray = ls at hl ⊢
  have hl : lv_has ls 3 [(0, .ref h0), (1, .int (nI b)), (2, .int v)] := hl
  refine lv_aload_n hx hb dX0_isOnlyValue_0 rfl (lv_at hl 0 rfl) ?_
  refine va_get (D := (dC, dI)) (ci := 0) (v := .ref a3) (C := RX0) (T := TX0) (N := 5) hx hb hts hin hown hK hP 0 rfl rfl 3 (by decide) hf19 (fun _ h9 => h9) rfl dX0_isOnlyValue_1 ?_
  refine lv_iload_n hx hb dX0_isOnlyValue_4 rfl (lv_at hl 1 rfl) ?_
  refine bb_ald hx hb hK hP 4 0 rfl rfl b (by omega) (by decide) dX0_isOnlyValue_5 ?_
  refine lv_iconst (v := (-1)) hx hb dX0_isOnlyValue_6 (by decide) ?_
  refine lv_icmp_eq (tgt := 20) hx hb dX0_isOnlyValue_7 rfl (fun h7 => ?_) (fun h7 => ?_)
  · skip
    refine lv_iconst (v := 1) hx hb dX0_isOnlyValue_20 (by decide) ?_
    refine lv_goto (tgt := 25) hx hb dX0_isOnlyValue_21 rfl ?_
    have er : bb_I (bb_only vf b v) = 1 := by simp [bb_I, bb_only, h7]
    exact W.zret (v := 1) hx hb hr bb_z1 (fun t ht _ => ⟨by rw [er], ht⟩) (fun _ h => nomatch h) dX0_isOnlyValue_25
  · skip
    refine lv_aload_n hx hb dX0_isOnlyValue_10 rfl (lv_at hl 0 rfl) ?_
    refine va_get (D := (dC, dI)) (ci := 0) (v := .ref a3) (C := RX0) (T := TX0) (N := 5) hx hb hts hin hown hK hP 0 rfl rfl 3 (by decide) hf19 (fun _ h9 => h9) rfl dX0_isOnlyValue_11 ?_
    refine lv_iload_n hx hb dX0_isOnlyValue_14 rfl (lv_at hl 1 rfl) ?_
    refine bb_ald hx hb hK hP 4 0 rfl rfl b (by omega) (by decide) dX0_isOnlyValue_15 ?_
    refine lv_iload_n hx hb dX0_isOnlyValue_16 rfl (lv_at hl 2 rfl) ?_
    refine lv_icmp_ne (tgt := 24) hx hb dX0_isOnlyValue_17 rfl (fun h17 => ?_) (fun h17 => ?_)
    · skip
      refine lv_iconst (v := 0) hx hb dX0_isOnlyValue_24 (by decide) ?_
      have er : bb_I (bb_only vf b v) = 0 := by simp [bb_I, bb_only, h7, h17]
      exact W.zret (v := 0) hx hb hr bb_z0 (fun t ht _ => ⟨by rw [er], ht⟩) (fun _ h => nomatch h) dX0_isOnlyValue_25
    · skip
      refine lv_iconst (v := 1) hx hb dX0_isOnlyValue_20 (by decide) ?_
      refine lv_goto (tgt := 25) hx hb dX0_isOnlyValue_21 rfl ?_
      have er : bb_I (bb_only vf b v) = 1 := by simp [bb_I, bb_only, h7, h17]
      exact W.zret (v := 1) hx hb hr bb_z1 (fun t ht _ => ⟨by rw [er], ht⟩) (fun _ h => nomatch h) dX0_isOnlyValue_25

set_option maxHeartbeats 4000000 in
set_option maxRecDepth 100000 in
theorem k_hasWayToChoose (l : Launch) (dC : Nat → ClassId) (dI : Nat → Nat → Nat) (cA : ClassId) (h0 a0 a1 a2 a3 : Nat) (w pr vo vf : Nat → Int32) (k : Int32) (b : Nat) (hb0 : b < 31) : Met l yX0_hasWayToChoose wsX0_hasWayToChoose ({ frames := 3, cells := 0, slots := 0, locals := 66 }) (va_Pc [.ref h0, .int (nI b)] (bb_B (dC, dI) vwCl (bb_C h0 a0 a1 a2 a3 cA w pr vo vf k) [(cA, .int)])) (QcRead (bb_I (bb_way w k pr vo b))) 0 0 (fun _ => False) := by
  refine Met.ofW (cc := cX0_hasWayToChoose) (maxL := 2) (ret := some .boolean) (by decide) rfl ?_
  intro p e s m args below meth c s₁ B hml hv
  obtain ⟨rfl, hP, hK⟩ := hv
  have hx := B.exec
  have hb := B.bytes
  have hr := B.returns
  have hts := atoms_spec (ws := wsX0_hasWayToChoose) B.pre
  have hown : s.vm.findClass RX0 = some m.cls := findClass_of_methodNamed B.named
  have hlocks := B.notSynchronized
  have hin : ∀ w9 ∈ u_ws RX0 TX0 5, w9 ∈ wsX0_hasWayToChoose := fun w9 h9 => List.mem_cons_of_mem _ (bb_inX0 w9 h9)
  have hf16 := hts _ (List.mem_cons_of_mem _ bb_fX0_16)
  have hl := lv_entry ([.ref h0, .int (nI b)]) (n := 2) (Nat.le_of_ble_eq_true rfl)
  rw [lg_entry_eq]
  generalize (lg_sl ([.ref h0, .int (nI b)]) ++ List.replicate (2 - (lg_sl ([.ref h0, .int (nI b)])).length) Slot.unset).toArray = ls at hl ⊢
  have hl : lv_has ls 2 [(0, .ref h0), (1, .int (nI b))] := hl
  refine lv_aload_n hx hb dX0_hasWayToChoose_0 rfl (lv_at hl 0 rfl) ?_
  refine lv_aload_n hx hb dX0_hasWayToChoose_1 rfl (lv_at hl 0 rfl) ?_
  refine va_get (D := (dC, dI)) (ci := 0) (v := .ref a2) (C := RX0) (T := TX0) (N := 5) hx hb hts hin hown hK hP 0 rfl rfl 2 (by decide) hf16 (fun _ h9 => h9) rfl dX0_hasWayToChoose_2 ?_
  refine lv_iload_n hx hb dX0_hasWayToChoose_5 rfl (lv_at hl 1 rfl) ?_
  refine bb_ald hx hb hK hP 3 0 rfl rfl b (by omega) (by decide) dX0_hasWayToChoose_6 ?_
  refine lv_aload_n hx hb dX0_hasWayToChoose_7 rfl (lv_at hl 0 rfl) ?_
  refine lv_iload_n hx hb dX0_hasWayToChoose_8 rfl (lv_at hl 1 rfl) ?_
  refine bb_cV (As := [.int (nI b)]) (rest := [.int (vo b), .ref h0]) (r := bb_bl (bb_op pr vo b) 10) 0 ⟨hx, hb, hml, hown, hts⟩ (k_openNodes l dC dI cA h0 a0 a1 a2 a3 w pr vo vf k b (by omega)) (cwV 1 hts gX0_hasWayToChoose_X0_openNodes rfl rfl rfl (by decide +kernel) ⟨Nat.le_of_ble_eq_true rfl, Nat.le_of_ble_eq_true rfl⟩) hP hK rfl rfl rfl hl.1 rfl (Nat.le_of_ble_eq_true rfl) dX0_hasWayToChoose_9 (Nat.zero_le _) (Nat.zero_le _) ?_
  refine lv_ior hx hb dX0_hasWayToChoose_12 ?_
  refine bb_cV (As := [.int ((vo b) ||| (bb_bl (bb_op pr vo b) 10))]) (rest := []) (r := bb_I (bb_en w k ((vo b) ||| (bb_bl (bb_op pr vo b) 10)))) 0 ⟨hx, hb, hml, hown, hts⟩ (k_isEnough l dC dI cA h0 a0 a1 a2 a3 w pr vo vf k ((vo b) ||| (bb_bl (bb_op pr vo b) 10))) (cwV 1 hts gX0_hasWayToChoose_X0_isEnough rfl rfl rfl (by decide +kernel) ⟨Nat.le_of_ble_eq_true rfl, Nat.le_of_ble_eq_true rfl⟩) hP hK rfl rfl rfl hl.1 rfl (Nat.le_of_ble_eq_true rfl) dX0_hasWayToChoose_13 (Nat.zero_le _) (Nat.zero_le _) ?_
  have er : bb_I (bb_way w k pr vo b) = bb_I (bb_en w k ((vo b) ||| (bb_bl (bb_op pr vo b) 10))) := by simp [bb_way]
  exact W.zret (v := bb_I (bb_en w k ((vo b) ||| (bb_bl (bb_op pr vo b) 10)))) hx hb hr (bb_zI _) (fun t ht _ => ⟨by rw [er], ht⟩) (fun _ h => nomatch h) dX0_hasWayToChoose_16

set_option maxHeartbeats 4000000 in
set_option maxRecDepth 100000 in
theorem k_isSafe (l : Launch) (dC : Nat → ClassId) (dI : Nat → Nat → Nat) (cA : ClassId) (h0 a0 a1 a2 a3 : Nat) (w pr vo vf : Nat → Int32) (k : Int32) (b : Nat) (v : Int32) (hb0 : b ≤ 31) : Met l yX0_isSafe wsX0_isSafe ({ frames := 4, cells := 0, slots := 0, locals := 87 }) (va_Pc [.ref h0, .int (nI b), .int v] (bb_B (dC, dI) vwCl (bb_C h0 a0 a1 a2 a3 cA w pr vo vf k) [(cA, .int)])) (QcRead (bb_I (bb_saf w k pr vo vf b v))) 0 0 (fun _ => False) := by
  refine Met.ofW (cc := cX0_isSafe) (maxL := 4) (ret := some .boolean) (by decide) rfl ?_
  intro p e s m args below meth c s₁ B hml hv
  obtain ⟨rfl, hP, hK⟩ := hv
  have hx := B.exec
  have hb := B.bytes
  have hr := B.returns
  have hts := atoms_spec (ws := wsX0_isSafe) B.pre
  have hown : s.vm.findClass RX0 = some m.cls := findClass_of_methodNamed B.named
  have hlocks := B.notSynchronized
  have hin : ∀ w9 ∈ u_ws RX0 TX0 5, w9 ∈ wsX0_isSafe := fun w9 h9 => List.mem_cons_of_mem _ (bb_inX0 w9 h9)
  have hf19 := hts _ (List.mem_cons_of_mem _ bb_fX0_19)
  have hl := lv_entry ([.ref h0, .int (nI b), .int v]) (n := 4) (Nat.le_of_ble_eq_true rfl)
  rw [lg_entry_eq]
  generalize (lg_sl ([.ref h0, .int (nI b), .int v]) ++ List.replicate (4 - (lg_sl ([.ref h0, .int (nI b), .int v])).length) Slot.unset).toArray = ls at hl ⊢
  have hl : lv_has ls 4 [(0, .ref h0), (1, .int (nI b)), (2, .int v)] := hl
  refine lv_iconst (v := 0) hx hb dX0_isSafe_0 (by decide) ?_
  refine lv_istore_n (lv' := [(3, .int 0), (0, .ref h0), (1, .int (nI b)), (2, .int v)]) hx hb dX0_isSafe_1 rfl hl (by decide) rfl (fun ls hl => ?_)
  have hl : lv_has ls 4 [(0, .ref h0), (1, .int (nI b)), (2, .int v), (3, .int 0)] := lv_sub hl [1, 2, 3, 0] rfl
  refine bb_forW (pc := 2) (I := fun j9 ls => lv_has ls 4 [(0, .ref h0), (1, .int (nI b)), (2, .int v), (3, .int (nI j9))] ∧ bb_al (fun c9 => !(decide (vf c9 ≠ v) && bb_way w k pr vo c9)) j9 = true) b ?_ ?_ 0 ls (Nat.zero_le _) ⟨hl, rfl⟩
  · skip
    intro j ls hj hI ihj
    obtain ⟨hl, hno⟩ := hI
    refine lv_iload_n hx hb dX0_isSafe_2 rfl (lv_at hl 3 rfl) ?_
    refine lv_iload_n hx hb dX0_isSafe_3 rfl (lv_at hl 1 rfl) ?_
    refine lv_icmp_ge (tgt := 33) hx hb dX0_isSafe_4 rfl (fun h4 => absurd h4 (nI_ge hj (by omega))) (fun h4 => ?_)
    have q4 := bb_lt h4
    refine lv_aload_n hx hb dX0_isSafe_7 rfl (lv_at hl 0 rfl) ?_
    refine va_get (D := (dC, dI)) (ci := 0) (v := .ref a3) (C := RX0) (T := TX0) (N := 5) hx hb hts hin hown hK hP 0 rfl rfl 3 (by decide) hf19 (fun _ h9 => h9) rfl dX0_isSafe_8 ?_
    refine lv_iload_n hx hb dX0_isSafe_11 rfl (lv_at hl 3 rfl) ?_
    refine bb_ald hx hb hK hP 4 0 rfl rfl j (by omega) (by decide) dX0_isSafe_12 ?_
    refine lv_iload_n hx hb dX0_isSafe_13 rfl (lv_at hl 2 rfl) ?_
    refine lv_icmp_eq (tgt := 27) hx hb dX0_isSafe_14 rfl (fun h14 => ?_) (fun h14 => ?_)
    · skip
      refine lv_iinc (v := nI (j + 1)) (lv' := [(3, .int (nI (j + 1))), (0, .ref h0), (1, .int (nI b)), (2, .int v)]) hx hb dX0_isSafe_27 hl (k := 3) rfl (bb_inc _) (by decide) rfl (fun ls hl => ?_)
      refine lv_goto (tgt := 2) hx hb dX0_isSafe_30 rfl ?_
      have hl : lv_has ls 4 [(0, .ref h0), (1, .int (nI b)), (2, .int v), (3, .int (nI (j + 1)))] := lv_sub hl [1, 2, 3, 0] rfl
      exact ihj ls ⟨hl, by exact bb_al_step hno (by simp [h4, q4, h14])⟩
    · skip
      refine lv_aload_n hx hb dX0_isSafe_17 rfl (lv_at hl 0 rfl) ?_
      refine lv_iload_n hx hb dX0_isSafe_18 rfl (lv_at hl 3 rfl) ?_
      refine bb_cV (As := [.int (nI j)]) (rest := []) (r := bb_I (bb_way w k pr vo j)) 0 ⟨hx, hb, hml, hown, hts⟩ (k_hasWayToChoose l dC dI cA h0 a0 a1 a2 a3 w pr vo vf k j (by omega)) (cwV 1 hts gX0_isSafe_X0_hasWayToChoose rfl rfl rfl (by decide +kernel) ⟨Nat.le_of_ble_eq_true rfl, Nat.le_of_ble_eq_true rfl⟩) hP hK rfl rfl rfl hl.1 rfl (Nat.le_of_ble_eq_true rfl) dX0_isSafe_19 (Nat.zero_le _) (Nat.zero_le _) ?_
      refine lv_if_eq (tgt := 27) hx hb dX0_isSafe_22 rfl (fun h22 => ?_) (fun h22 => ?_)
      · skip
        have q22 := bb_I_0.mp h22
        refine lv_iinc (v := nI (j + 1)) (lv' := [(3, .int (nI (j + 1))), (0, .ref h0), (1, .int (nI b)), (2, .int v)]) hx hb dX0_isSafe_27 hl (k := 3) rfl (bb_inc _) (by decide) rfl (fun ls hl => ?_)
        refine lv_goto (tgt := 2) hx hb dX0_isSafe_30 rfl ?_
        have hl : lv_has ls 4 [(0, .ref h0), (1, .int (nI b)), (2, .int v), (3, .int (nI (j + 1)))] := lv_sub hl [1, 2, 3, 0] rfl
        exact ihj ls ⟨hl, by exact bb_al_step hno (by simp [h4, q4, h14, h22, q22])⟩
      · skip
        have q22 := bb_nz h22
        refine lv_iconst (v := 0) hx hb dX0_isSafe_25 (by decide) ?_
        have er : bb_I (bb_saf w k pr vo vf b v) = 0 := by unfold bb_saf; rw [bb_al_no (j := j) (by simp [h4, q4, h14, h22, q22]) hj]; rfl
        exact W.zret (v := 0) hx hb hr bb_z0 (fun t ht _ => ⟨by rw [er], ht⟩) (fun _ h => nomatch h) dX0_isSafe_26
  · skip
    intro ls hI
    obtain ⟨hl, hno⟩ := hI
    refine lv_iload_n hx hb dX0_isSafe_2 rfl (lv_at hl 3 rfl) ?_
    refine lv_iload_n hx hb dX0_isSafe_3 rfl (lv_at hl 1 rfl) ?_
    refine lv_icmp_ge (tgt := 33) hx hb dX0_isSafe_4 rfl (fun h4 => ?_) (fun h4 => absurd (nI_le (Nat.le_refl _) (by omega)) h4)
    have q4 := bb_nlt h4
    refine lv_iconst (v := 1) hx hb dX0_isSafe_33 (by decide) ?_
    have er : bb_I (bb_saf w k pr vo vf b v) = 1 := by unfold bb_saf; rw [hno]; rfl
    exact W.zret (v := 1) hx hb hr bb_z1 (fun t ht _ => ⟨by rw [er], ht⟩) (fun _ h => nomatch h) dX0_isSafe_34

set_option maxHeartbeats 4000000 in
set_option maxRecDepth 100000 in
theorem k_chosenValue (l : Launch) (dC : Nat → ClassId) (dI : Nat → Nat → Nat) (cA : ClassId) (h0 a0 a1 a2 a3 : Nat) (w pr vo vf : Nat → Int32) (k : Int32) (b : Nat) (hb0 : b < 31) : Met l yX0_chosenValue wsX0_chosenValue ({ frames := 3, cells := 0, slots := 0, locals := 65 }) (va_Pc [.ref h0, .int (nI b)] (bb_B (dC, dI) vwCl (bb_C h0 a0 a1 a2 a3 cA w pr vo vf k) [(cA, .int)])) (QcRead (bb_cho w k vo vf b)) 0 0 (fun _ => False) := by
  refine Met.ofW (cc := cX0_chosenValue) (maxL := 2) (ret := some .int) (by decide) rfl ?_
  intro p e s m args below meth c s₁ B hml hv
  obtain ⟨rfl, hP, hK⟩ := hv
  have hx := B.exec
  have hb := B.bytes
  have hr := B.returns
  have hts := atoms_spec (ws := wsX0_chosenValue) B.pre
  have hown : s.vm.findClass RX0 = some m.cls := findClass_of_methodNamed B.named
  have hlocks := B.notSynchronized
  have hin : ∀ w9 ∈ u_ws RX0 TX0 5, w9 ∈ wsX0_chosenValue := fun w9 h9 => List.mem_cons_of_mem _ (bb_inX0 w9 h9)
  have hf16 := hts _ (List.mem_cons_of_mem _ bb_fX0_16)
  have hf19 := hts _ (List.mem_cons_of_mem _ bb_fX0_19)
  have hl := lv_entry ([.ref h0, .int (nI b)]) (n := 2) (Nat.le_of_ble_eq_true rfl)
  rw [lg_entry_eq]
  generalize (lg_sl ([.ref h0, .int (nI b)]) ++ List.replicate (2 - (lg_sl ([.ref h0, .int (nI b)])).length) Slot.unset).toArray = ls at hl ⊢
  have hl : lv_has ls 2 [(0, .ref h0), (1, .int (nI b))] := hl
  refine lv_aload_n hx hb dX0_chosenValue_0 rfl (lv_at hl 0 rfl) ?_
  refine lv_aload_n hx hb dX0_chosenValue_1 rfl (lv_at hl 0 rfl) ?_
  refine va_get (D := (dC, dI)) (ci := 0) (v := .ref a2) (C := RX0) (T := TX0) (N := 5) hx hb hts hin hown hK hP 0 rfl rfl 2 (by decide) hf16 (fun _ h9 => h9) rfl dX0_chosenValue_2 ?_
  refine lv_iload_n hx hb dX0_chosenValue_5 rfl (lv_at hl 1 rfl) ?_
  refine bb_ald hx hb hK hP 3 0 rfl rfl b (by omega) (by decide) dX0_chosenValue_6 ?_
  refine bb_cV (As := [.int (vo b)]) (rest := []) (r := bb_I (bb_en w k (vo b))) 0 ⟨hx, hb, hml, hown, hts⟩ (k_isEnough l dC dI cA h0 a0 a1 a2 a3 w pr vo vf k (vo b)) (cwV 1 hts gX0_chosenValue_X0_isEnough rfl rfl rfl (by decide +kernel) ⟨Nat.le_of_ble_eq_true rfl, Nat.le_of_ble_eq_true rfl⟩) hP hK rfl rfl rfl hl.1 rfl (Nat.le_of_ble_eq_true rfl) dX0_chosenValue_7 (Nat.zero_le _) (Nat.zero_le _) ?_
  refine lv_if_eq (tgt := 22) hx hb dX0_chosenValue_10 rfl (fun h10 => ?_) (fun h10 => ?_)
  · skip
    have q10 := bb_I_0.mp h10
    refine lv_iconst (v := (-1)) hx hb dX0_chosenValue_22 (by decide) ?_
    have er : bb_cho w k vo vf b = (-1) := by simp [bb_cho, h10, q10]
    exact W.iret (v := (-1)) hx hb hr (fun t ht _ => ⟨by rw [er], ht⟩) (fun _ h => nomatch h) dX0_chosenValue_23
  · skip
    have q10 := bb_nz h10
    refine lv_aload_n hx hb dX0_chosenValue_13 rfl (lv_at hl 0 rfl) ?_
    refine va_get (D := (dC, dI)) (ci := 0) (v := .ref a3) (C := RX0) (T := TX0) (N := 5) hx hb hts hin hown hK hP 0 rfl rfl 3 (by decide) hf19 (fun _ h9 => h9) rfl dX0_chosenValue_14 ?_
    refine lv_iload_n hx hb dX0_chosenValue_17 rfl (lv_at hl 1 rfl) ?_
    refine bb_ald hx hb hK hP 4 0 rfl rfl b (by omega) (by decide) dX0_chosenValue_18 ?_
    refine lv_goto (tgt := 23) hx hb dX0_chosenValue_19 rfl ?_
    have er : bb_cho w k vo vf b = vf b := by simp [bb_cho, h10, q10]
    exact W.iret (v := vf b) hx hb hr (fun t ht _ => ⟨by rw [er], ht⟩) (fun _ h => nomatch h) dX0_chosenValue_23

set_option maxHeartbeats 4000000 in
set_option maxRecDepth 100000 in
theorem k_highestPromise (l : Launch) (dC : Nat → ClassId) (dI : Nat → Nat → Nat) (cA : ClassId) (h0 a0 a1 a2 a3 : Nat) (w pr vo vf : Nat → Int32) (k : Int32) (st : Int32) : Met l yX0_highestPromise wsX0_highestPromise ({ frames := 1, cells := 0, slots := 0, locals := 21 }) (va_Pc [.ref h0, .int st] (bb_B (dC, dI) vwCl (bb_C h0 a0 a1 a2 a3 cA w pr vo vf k) [(cA, .int)])) (QcRead (bb_hm pr st 10)) 0 0 (fun _ => False) := by
  refine Met.ofW (cc := cX0_highestPromise) (maxL := 4) (ret := some .int) (by decide) rfl ?_
  intro p e s m args below meth c s₁ B hml hv
  obtain ⟨rfl, hP, hK⟩ := hv
  have hx := B.exec
  have hb := B.bytes
  have hr := B.returns
  have hts := atoms_spec (ws := wsX0_highestPromise) B.pre
  have hown : s.vm.findClass RX0 = some m.cls := findClass_of_methodNamed B.named
  have hlocks := B.notSynchronized
  have hin : ∀ w9 ∈ u_ws RX0 TX0 5, w9 ∈ wsX0_highestPromise := fun w9 h9 => List.mem_cons_of_mem _ (bb_inX0 w9 h9)
  have hf13 := hts _ (List.mem_cons_of_mem _ bb_fX0_13)
  have hl := lv_entry ([.ref h0, .int st]) (n := 4) (Nat.le_of_ble_eq_true rfl)
  rw [lg_entry_eq]
  generalize (lg_sl ([.ref h0, .int st]) ++ List.replicate (4 - (lg_sl ([.ref h0, .int st])).length) Slot.unset).toArray = ls at hl ⊢
  have hl : lv_has ls 4 [(0, .ref h0), (1, .int st)] := hl
  refine lv_iconst (v := 0) hx hb dX0_highestPromise_0 (by decide) ?_
  refine lv_istore_n (lv' := [(2, .int 0), (0, .ref h0), (1, .int st)]) hx hb dX0_highestPromise_1 rfl hl (by decide) rfl (fun ls hl => ?_)
  refine lv_iconst (v := 0) hx hb dX0_highestPromise_2 (by decide) ?_
  refine lv_istore_n (lv' := [(3, .int 0), (2, .int 0), (0, .ref h0), (1, .int st)]) hx hb dX0_highestPromise_3 rfl hl (by decide) rfl (fun ls hl => ?_)
  have hl : lv_has ls 4 [(0, .ref h0), (1, .int st), (2, .int 0), (3, .int 0)] := lv_sub hl [2, 3, 1, 0] rfl
  refine bb_forW (pc := 4) (I := fun j9 ls => lv_has ls 4 [(0, .ref h0), (1, .int st), (2, .int (bb_hm pr st j9)), (3, .int (nI j9))]) 10 ?_ ?_ 0 ls (Nat.zero_le _) hl
  · skip
    intro j ls hj hI ihj
    have hl := hI
    refine lv_iload_n hx hb dX0_highestPromise_4 rfl (lv_at hl 3 rfl) ?_
    refine lv_bipush (v := nI 10) hx hb dX0_highestPromise_5 (by decide) ?_
    refine lv_icmp_ge (tgt := 35) hx hb dX0_highestPromise_7 rfl (fun h7 => absurd h7 (nI_ge hj (by decide))) (fun h7 => ?_)
    have q7 := bb_lt h7
    refine lv_iload_n hx hb dX0_highestPromise_10 rfl (lv_at hl 1 rfl) ?_
    refine lv_iload_n hx hb dX0_highestPromise_11 rfl (lv_at hl 3 rfl) ?_
    refine bb_cS (As := [.int st, .int (nI j)]) (rest := []) (r := bb_I (bb_hb st j)) ⟨hx, hb, hml, hown, hts⟩ (k_holds l st j) (cwS 2 hts gX0_highestPromise_X0_holds rfl rfl rfl (by decide +kernel) ⟨Nat.le_of_ble_eq_true rfl, Nat.le_of_ble_eq_true rfl⟩) rfl hl.1 rfl (Nat.le_of_ble_eq_true rfl) dX0_highestPromise_12 (Nat.zero_le _) (Nat.zero_le _) ?_
    refine lv_if_eq (tgt := 29) hx hb dX0_highestPromise_15 rfl (fun h15 => ?_) (fun h15 => ?_)
    · skip
      have q15 := bb_I_0.mp h15
      refine lv_iinc (v := nI (j + 1)) (lv' := [(3, .int (nI (j + 1))), (0, .ref h0), (1, .int st), (2, .int (bb_hm pr st j))]) hx hb dX0_highestPromise_29 hl (k := 3) rfl (bb_inc _) (by decide) rfl (fun ls hl => ?_)
      refine lv_goto (tgt := 4) hx hb dX0_highestPromise_32 rfl ?_
      have hl : lv_has ls 4 [(0, .ref h0), (1, .int st), (2, .int (bb_hm pr st j)), (3, .int (nI (j + 1)))] := lv_sub hl [1, 2, 3, 0] rfl
      have e1 : (bb_hm pr st j) = bb_hm pr st (j + 1) := by simp [bb_hm, h7, q7, h15, q15]
      have hl : lv_has ls 4 [(0, .ref h0), (1, .int st), (2, .int (bb_hm pr st (j + 1))), (3, .int (nI (j + 1)))] := by rw [← e1]; exact hl
      exact ihj ls hl
    · skip
      have q15 := bb_nz h15
      refine lv_iload_n hx hb dX0_highestPromise_18 rfl (lv_at hl 2 rfl) ?_
      refine lv_aload_n hx hb dX0_highestPromise_19 rfl (lv_at hl 0 rfl) ?_
      refine va_get (D := (dC, dI)) (ci := 0) (v := .ref a1) (C := RX0) (T := TX0) (N := 5) hx hb hts hin hown hK hP 0 rfl rfl 1 (by decide) hf13 (fun _ h9 => h9) rfl dX0_highestPromise_20 ?_
      refine lv_iload_n hx hb dX0_highestPromise_23 rfl (lv_at hl 3 rfl) ?_
      refine bb_ald hx hb hK hP 2 0 rfl rfl j (by omega) (by decide) dX0_highestPromise_24 ?_
      refine va_mmax hx hb (hml.trans hl.1.symm) (own := RX0) (index := 150) hown (hts _ (List.mem_cons_of_mem _ bb_mmax_l)) (hts _ (List.mem_cons_of_mem _ bb_mmax_s)) (hts _ (List.mem_cons_of_mem _ bb_mini)) (hts _ (List.mem_cons_of_mem _ bb_mmax_c)) (Nat.le_of_ble_eq_true rfl) (Nat.le_of_ble_eq_true rfl) (Nat.zero_le _) (Nat.zero_le _) dX0_highestPromise_25 ?_
      refine lv_istore_n (lv' := [(2, .int (if (bb_hm pr st j) < (pr j) then (pr j) else (bb_hm pr st j))), (0, .ref h0), (1, .int st), (3, .int (nI j))]) hx hb dX0_highestPromise_28 rfl hl (by decide) rfl (fun ls hl => ?_)
      refine lv_iinc (v := nI (j + 1)) (lv' := [(3, .int (nI (j + 1))), (2, .int (if (bb_hm pr st j) < (pr j) then (pr j) else (bb_hm pr st j))), (0, .ref h0), (1, .int st)]) hx hb dX0_highestPromise_29 hl (k := 3) rfl (bb_inc _) (by decide) rfl (fun ls hl => ?_)
      refine lv_goto (tgt := 4) hx hb dX0_highestPromise_32 rfl ?_
      have hl : lv_has ls 4 [(0, .ref h0), (1, .int st), (2, .int (if (bb_hm pr st j) < (pr j) then (pr j) else (bb_hm pr st j))), (3, .int (nI (j + 1)))] := lv_sub hl [2, 3, 1, 0] rfl
      have e2 : (if (bb_hm pr st j) < (pr j) then (pr j) else (bb_hm pr st j)) = bb_hm pr st (j + 1) := by simp [bb_hm, h7, q7, h15, q15]
      have hl : lv_has ls 4 [(0, .ref h0), (1, .int st), (2, .int (bb_hm pr st (j + 1))), (3, .int (nI (j + 1)))] := by rw [← e2]; exact hl
      exact ihj ls hl
  · skip
    intro ls hI
    have hl := hI
    refine lv_iload_n hx hb dX0_highestPromise_4 rfl (lv_at hl 3 rfl) ?_
    refine lv_bipush (v := nI 10) hx hb dX0_highestPromise_5 (by decide) ?_
    refine lv_icmp_ge (tgt := 35) hx hb dX0_highestPromise_7 rfl (fun h7 => ?_) (fun h7 => absurd (nI_le (Nat.le_refl _) (by decide)) h7)
    have q7 := bb_nlt h7
    refine lv_iload_n hx hb dX0_highestPromise_35 rfl (lv_at hl 2 rfl) ?_
    exact W.iret (v := bb_hm pr st 10) hx hb hr (fun t ht _ => ⟨rfl, ht⟩) (fun _ h => nomatch h) dX0_highestPromise_36

set_option maxHeartbeats 4000000 in
set_option maxRecDepth 100000 in
theorem k_ballotsVotedIn (l : Launch) (dC : Nat → ClassId) (dI : Nat → Nat → Nat) (cA : ClassId) (h0 a0 a1 a2 a3 : Nat) (w pr vo vf : Nat → Int32) (k : Int32) (n : Nat) : Met l yX0_ballotsVotedIn wsX0_ballotsVotedIn ({ frames := 1, cells := 0, slots := 0, locals := 21 }) (va_Pc [.ref h0, .int (nI n)] (bb_B (dC, dI) vwCl (bb_C h0 a0 a1 a2 a3 cA w pr vo vf k) [(cA, .int)])) (QcRead (nI (bb_cn (fun b9 => bb_hb (vo b9) n) 31))) 0 0 (fun _ => False) := by
  refine Met.ofW (cc := cX0_ballotsVotedIn) (maxL := 4) (ret := some .int) (by decide) rfl ?_
  intro p e s m args below meth c s₁ B hml hv
  obtain ⟨rfl, hP, hK⟩ := hv
  have hx := B.exec
  have hb := B.bytes
  have hr := B.returns
  have hts := atoms_spec (ws := wsX0_ballotsVotedIn) B.pre
  have hown : s.vm.findClass RX0 = some m.cls := findClass_of_methodNamed B.named
  have hlocks := B.notSynchronized
  have hin : ∀ w9 ∈ u_ws RX0 TX0 5, w9 ∈ wsX0_ballotsVotedIn := fun w9 h9 => List.mem_cons_of_mem _ (bb_inX0 w9 h9)
  have hf16 := hts _ (List.mem_cons_of_mem _ bb_fX0_16)
  have hl := lv_entry ([.ref h0, .int (nI n)]) (n := 4) (Nat.le_of_ble_eq_true rfl)
  rw [lg_entry_eq]
  generalize (lg_sl ([.ref h0, .int (nI n)]) ++ List.replicate (4 - (lg_sl ([.ref h0, .int (nI n)])).length) Slot.unset).toArray = ls at hl ⊢
  have hl : lv_has ls 4 [(0, .ref h0), (1, .int (nI n))] := hl
  refine lv_iconst (v := 0) hx hb dX0_ballotsVotedIn_0 (by decide) ?_
  refine lv_istore_n (lv' := [(2, .int 0), (0, .ref h0), (1, .int (nI n))]) hx hb dX0_ballotsVotedIn_1 rfl hl (by decide) rfl (fun ls hl => ?_)
  refine lv_iconst (v := 0) hx hb dX0_ballotsVotedIn_2 (by decide) ?_
  refine lv_istore_n (lv' := [(3, .int 0), (2, .int 0), (0, .ref h0), (1, .int (nI n))]) hx hb dX0_ballotsVotedIn_3 rfl hl (by decide) rfl (fun ls hl => ?_)
  have hl : lv_has ls 4 [(0, .ref h0), (1, .int (nI n)), (2, .int 0), (3, .int 0)] := lv_sub hl [2, 3, 1, 0] rfl
  refine bb_forW (pc := 4) (I := fun j9 ls => lv_has ls 4 [(0, .ref h0), (1, .int (nI n)), (2, .int (nI (bb_cn (fun b9 => bb_hb (vo b9) n) j9))), (3, .int (nI j9))]) 31 ?_ ?_ 0 ls (Nat.zero_le _) hl
  · skip
    intro j ls hj hI ihj
    have hl := hI
    refine lv_iload_n hx hb dX0_ballotsVotedIn_4 rfl (lv_at hl 3 rfl) ?_
    refine lv_bipush (v := nI 31) hx hb dX0_ballotsVotedIn_5 (by decide) ?_
    refine lv_icmp_ge (tgt := 32) hx hb dX0_ballotsVotedIn_7 rfl (fun h7 => absurd h7 (nI_ge hj (by decide))) (fun h7 => ?_)
    have q7 := bb_lt h7
    refine lv_aload_n hx hb dX0_ballotsVotedIn_10 rfl (lv_at hl 0 rfl) ?_
    refine va_get (D := (dC, dI)) (ci := 0) (v := .ref a2) (C := RX0) (T := TX0) (N := 5) hx hb hts hin hown hK hP 0 rfl rfl 2 (by decide) hf16 (fun _ h9 => h9) rfl dX0_ballotsVotedIn_11 ?_
    refine lv_iload_n hx hb dX0_ballotsVotedIn_14 rfl (lv_at hl 3 rfl) ?_
    refine bb_ald hx hb hK hP 3 0 rfl rfl j (by omega) (by decide) dX0_ballotsVotedIn_15 ?_
    refine lv_iload_n hx hb dX0_ballotsVotedIn_16 rfl (lv_at hl 1 rfl) ?_
    refine bb_cS (As := [.int (vo j), .int (nI n)]) (rest := []) (r := bb_I (bb_hb (vo j) n)) ⟨hx, hb, hml, hown, hts⟩ (k_holds l (vo j) n) (cwS 2 hts gX0_ballotsVotedIn_X0_holds rfl rfl rfl (by decide +kernel) ⟨Nat.le_of_ble_eq_true rfl, Nat.le_of_ble_eq_true rfl⟩) rfl hl.1 rfl (Nat.le_of_ble_eq_true rfl) dX0_ballotsVotedIn_17 (Nat.zero_le _) (Nat.zero_le _) ?_
    refine lv_if_eq (tgt := 26) hx hb dX0_ballotsVotedIn_20 rfl (fun h20 => ?_) (fun h20 => ?_)
    · skip
      have q20 := bb_I_0.mp h20
      refine lv_iinc (v := nI (j + 1)) (lv' := [(3, .int (nI (j + 1))), (0, .ref h0), (1, .int (nI n)), (2, .int (nI (bb_cn (fun b9 => bb_hb (vo b9) n) j)))]) hx hb dX0_ballotsVotedIn_26 hl (k := 3) rfl (bb_inc _) (by decide) rfl (fun ls hl => ?_)
      refine lv_goto (tgt := 4) hx hb dX0_ballotsVotedIn_29 rfl ?_
      have hl : lv_has ls 4 [(0, .ref h0), (1, .int (nI n)), (2, .int (nI (bb_cn (fun b9 => bb_hb (vo b9) n) j))), (3, .int (nI (j + 1)))] := lv_sub hl [1, 2, 3, 0] rfl
      have e1 : (nI (bb_cn (fun b9 => bb_hb (vo b9) n) j)) = nI (bb_cn (fun b9 => bb_hb (vo b9) n) (j + 1)) := by simp [bb_cn, h7, q7, h20, q20]
      have hl : lv_has ls 4 [(0, .ref h0), (1, .int (nI n)), (2, .int (nI (bb_cn (fun b9 => bb_hb (vo b9) n) (j + 1)))), (3, .int (nI (j + 1)))] := by rw [← e1]; exact hl
      exact ihj ls hl
    · skip
      have q20 := bb_nz h20
      refine lv_iinc (v := nI ((bb_cn (fun b9 => bb_hb (vo b9) n) j) + 1)) (lv' := [(2, .int (nI ((bb_cn (fun b9 => bb_hb (vo b9) n) j) + 1))), (0, .ref h0), (1, .int (nI n)), (3, .int (nI j))]) hx hb dX0_ballotsVotedIn_23 hl (k := 2) rfl (bb_inc _) (by decide) rfl (fun ls hl => ?_)
      refine lv_iinc (v := nI (j + 1)) (lv' := [(3, .int (nI (j + 1))), (2, .int (nI ((bb_cn (fun b9 => bb_hb (vo b9) n) j) + 1))), (0, .ref h0), (1, .int (nI n))]) hx hb dX0_ballotsVotedIn_26 hl (k := 3) rfl (bb_inc _) (by decide) rfl (fun ls hl => ?_)
      refine lv_goto (tgt := 4) hx hb dX0_ballotsVotedIn_29 rfl ?_
      have hl : lv_has ls 4 [(0, .ref h0), (1, .int (nI n)), (2, .int (nI ((bb_cn (fun b9 => bb_hb (vo b9) n) j) + 1))), (3, .int (nI (j + 1)))] := lv_sub hl [2, 3, 1, 0] rfl
      have e2 : (nI ((bb_cn (fun b9 => bb_hb (vo b9) n) j) + 1)) = nI (bb_cn (fun b9 => bb_hb (vo b9) n) (j + 1)) := by simp [bb_cn, h7, q7, h20, q20]
      have hl : lv_has ls 4 [(0, .ref h0), (1, .int (nI n)), (2, .int (nI (bb_cn (fun b9 => bb_hb (vo b9) n) (j + 1)))), (3, .int (nI (j + 1)))] := by rw [← e2]; exact hl
      exact ihj ls hl
  · skip
    intro ls hI
    have hl := hI
    refine lv_iload_n hx hb dX0_ballotsVotedIn_4 rfl (lv_at hl 3 rfl) ?_
    refine lv_bipush (v := nI 31) hx hb dX0_ballotsVotedIn_5 (by decide) ?_
    refine lv_icmp_ge (tgt := 32) hx hb dX0_ballotsVotedIn_7 rfl (fun h7 => ?_) (fun h7 => absurd (nI_le (Nat.le_refl _) (by decide)) h7)
    have q7 := bb_nlt h7
    refine lv_iload_n hx hb dX0_ballotsVotedIn_32 rfl (lv_at hl 2 rfl) ?_
    exact W.iret (v := nI (bb_cn (fun b9 => bb_hb (vo b9) n) 31)) hx hb hr (fun t ht _ => ⟨rfl, ht⟩) (fun _ h => nomatch h) dX0_ballotsVotedIn_33

set_option maxHeartbeats 4000000 in
set_option maxRecDepth 100000 in
theorem k_lastBallotBelow (l : Launch) (dC : Nat → ClassId) (dI : Nat → Nat → Nat) (cA : ClassId) (h0 a0 a1 a2 a3 : Nat) (w pr vo vf : Nat → Int32) (k : Int32) (b : Nat) (st : Int32) (hb0 : b ≤ 31) : Met l yX0_lastBallotBelow wsX0_lastBallotBelow ({ frames := 0, cells := 0, slots := 0, locals := 0 }) (va_Pc [.ref h0, .int (nI b), .int st] (bb_B (dC, dI) vwCl (bb_C h0 a0 a1 a2 a3 cA w pr vo vf k) [(cA, .int)])) (QcRead (bb_la (fun c9 => decide (vo c9 &&& st ≠ 0)) b)) 0 0 (fun _ => False) := by
  refine Met.ofW (cc := cX0_lastBallotBelow) (maxL := 4) (ret := some .int) (by decide) rfl ?_
  intro p e s m args below meth c s₁ B hml hv
  obtain ⟨rfl, hP, hK⟩ := hv
  have hx := B.exec
  have hb := B.bytes
  have hr := B.returns
  have hts := atoms_spec (ws := wsX0_lastBallotBelow) B.pre
  have hown : s.vm.findClass RX0 = some m.cls := findClass_of_methodNamed B.named
  have hlocks := B.notSynchronized
  have hin : ∀ w9 ∈ u_ws RX0 TX0 5, w9 ∈ wsX0_lastBallotBelow := fun w9 h9 => List.mem_cons_of_mem _ (bb_inX0 w9 h9)
  have hf16 := hts _ (List.mem_cons_of_mem _ bb_fX0_16)
  have hl := lv_entry ([.ref h0, .int (nI b), .int st]) (n := 4) (Nat.le_of_ble_eq_true rfl)
  rw [lg_entry_eq]
  generalize (lg_sl ([.ref h0, .int (nI b), .int st]) ++ List.replicate (4 - (lg_sl ([.ref h0, .int (nI b), .int st])).length) Slot.unset).toArray = ls at hl ⊢
  have hl : lv_has ls 4 [(0, .ref h0), (1, .int (nI b)), (2, .int st)] := hl
  refine lv_iload_n hx hb dX0_lastBallotBelow_0 rfl (lv_at hl 1 rfl) ?_
  refine lv_iconst (v := 1) hx hb dX0_lastBallotBelow_1 (by decide) ?_
  refine lv_isub hx hb dX0_lastBallotBelow_2 ?_
  refine lv_istore_n (lv' := [(3, .int ((nI b) - 1)), (0, .ref h0), (1, .int (nI b)), (2, .int st)]) hx hb dX0_lastBallotBelow_3 rfl hl (by decide) rfl (fun ls hl => ?_)
  have hl : lv_has ls 4 [(0, .ref h0), (1, .int (nI b)), (2, .int st), (3, .int ((nI b) - 1))] := lv_sub hl [1, 2, 3, 0] rfl
  refine bb_downW (pc := 4) (I := fun j9 ls => lv_has ls 4 [(0, .ref h0), (1, .int (nI b)), (2, .int st), (3, .int (nI j9 - 1))] ∧ bb_la (fun c9 => decide (vo c9 &&& st ≠ 0)) b = bb_la (fun c9 => decide (vo c9 &&& st ≠ 0)) j9 ∧ j9 ≤ b) ?_ ?_ b ls ⟨hl, rfl, Nat.le_refl _⟩
  · skip
    intro j ls hI ihj
    obtain ⟨hl, hla, hjb⟩ := hI
    refine lv_iload_n hx hb dX0_lastBallotBelow_4 rfl (lv_at hl 3 rfl) ?_
    refine lv_if_lt (tgt := 27) hx hb dX0_lastBallotBelow_5 rfl (fun h5 => absurd h5 (by rw [nI_pred]; exact nI_pos (by omega))) (fun h5 => ?_)
    refine lv_aload_n hx hb dX0_lastBallotBelow_8 rfl (lv_at hl 0 rfl) ?_
    refine va_get (D := (dC, dI)) (ci := 0) (v := .ref a2) (C := RX0) (T := TX0) (N := 5) hx hb hts hin hown hK hP 0 rfl rfl 2 (by decide) hf16 (fun _ h9 => h9) rfl dX0_lastBallotBelow_9 ?_
    refine lv_iload_n hx hb dX0_lastBallotBelow_12 rfl (lv_at hl 3 rfl) ?_
    refine bb_topi (y := nI j) (nI_pred j) ?_
    refine bb_ald hx hb hK hP 3 0 rfl rfl j (by omega) (by decide) dX0_lastBallotBelow_13 ?_
    refine lv_iload_n hx hb dX0_lastBallotBelow_14 rfl (lv_at hl 2 rfl) ?_
    refine lv_iand hx hb dX0_lastBallotBelow_15 ?_
    refine lv_if_eq (tgt := 21) hx hb dX0_lastBallotBelow_16 rfl (fun h16 => ?_) (fun h16 => ?_)
    · skip
      refine lv_iinc (v := nI j - 1) (lv' := [(3, .int (nI j - 1)), (0, .ref h0), (1, .int (nI b)), (2, .int st)]) hx hb dX0_lastBallotBelow_21 hl (k := 3) rfl (bb_dec _) (by decide) rfl (fun ls hl => ?_)
      refine lv_goto (tgt := 4) hx hb dX0_lastBallotBelow_24 rfl ?_
      have hl : lv_has ls 4 [(0, .ref h0), (1, .int (nI b)), (2, .int st), (3, .int (nI j - 1))] := lv_sub hl [1, 2, 3, 0] rfl
      exact ihj ls ⟨hl, by rw [hla]; simp [bb_la, h5, h16], by omega⟩
    · skip
      refine lv_iload_n hx hb dX0_lastBallotBelow_19 rfl (lv_at hl 3 rfl) ?_
      refine bb_topi (y := nI j) (nI_pred j) ?_
      have er : bb_la (fun c9 => decide (vo c9 &&& st ≠ 0)) b = nI j := by rw [hla]; simp [bb_la, h5, h16]
      exact W.iret (v := nI j) hx hb hr (fun t ht _ => ⟨by rw [er], ht⟩) (fun _ h => nomatch h) dX0_lastBallotBelow_20
  · skip
    intro ls hI
    obtain ⟨hl, hla, hjb⟩ := hI
    refine lv_iload_n hx hb dX0_lastBallotBelow_4 rfl (lv_at hl 3 rfl) ?_
    refine lv_if_lt (tgt := 27) hx hb dX0_lastBallotBelow_5 rfl (fun h5 => ?_) (fun h5 => absurd (by decide) h5)
    refine lv_iconst (v := (-1)) hx hb dX0_lastBallotBelow_27 (by decide) ?_
    have er : bb_la (fun c9 => decide (vo c9 &&& st ≠ 0)) b = (-1) := by rw [hla]; simp [bb_la, h5]
    exact W.iret (v := (-1)) hx hb hr (fun t ht _ => ⟨by rw [er], ht⟩) (fun _ h => nomatch h) dX0_lastBallotBelow_28

set_option maxHeartbeats 4000000 in
set_option maxRecDepth 100000 in
theorem k_ballotsWithChosen (l : Launch) (dC : Nat → ClassId) (dI : Nat → Nat → Nat) (cA : ClassId) (h0 a0 a1 a2 a3 : Nat) (w pr vo vf : Nat → Int32) (k : Int32)  : Met l yX0_ballotsWithChosen wsX0_ballotsWithChosen ({ frames := 4, cells := 0, slots := 0, locals := 86 }) (va_Pc [.ref h0] (bb_B (dC, dI) vwCl (bb_C h0 a0 a1 a2 a3 cA w pr vo vf k) [(cA, .int)])) (QcRead (nI (bb_cn (fun b9 => decide (bb_cho w k vo vf b9 ≠ -1)) 31))) 0 0 (fun _ => False) := by
  refine Met.ofW (cc := cX0_ballotsWithChosen) (maxL := 3) (ret := some .int) (by decide) rfl ?_
  intro p e s m args below meth c s₁ B hml hv
  obtain ⟨rfl, hP, hK⟩ := hv
  have hx := B.exec
  have hb := B.bytes
  have hr := B.returns
  have hts := atoms_spec (ws := wsX0_ballotsWithChosen) B.pre
  have hown : s.vm.findClass RX0 = some m.cls := findClass_of_methodNamed B.named
  have hlocks := B.notSynchronized
  have hl := lv_entry ([.ref h0]) (n := 3) (Nat.le_of_ble_eq_true rfl)
  rw [lg_entry_eq]
  generalize (lg_sl ([.ref h0]) ++ List.replicate (3 - (lg_sl ([.ref h0])).length) Slot.unset).toArray = ls at hl ⊢
  have hl : lv_has ls 3 [(0, .ref h0)] := hl
  refine lv_iconst (v := 0) hx hb dX0_ballotsWithChosen_0 (by decide) ?_
  refine lv_istore_n (lv' := [(1, .int 0), (0, .ref h0)]) hx hb dX0_ballotsWithChosen_1 rfl hl (by decide) rfl (fun ls hl => ?_)
  refine lv_iconst (v := 0) hx hb dX0_ballotsWithChosen_2 (by decide) ?_
  refine lv_istore_n (lv' := [(2, .int 0), (1, .int 0), (0, .ref h0)]) hx hb dX0_ballotsWithChosen_3 rfl hl (by decide) rfl (fun ls hl => ?_)
  have hl : lv_has ls 3 [(0, .ref h0), (1, .int 0), (2, .int 0)] := lv_sub hl [2, 1, 0] rfl
  refine bb_forW (pc := 4) (I := fun j9 ls => lv_has ls 3 [(0, .ref h0), (1, .int (nI (bb_cn (fun b9 => decide (bb_cho w k vo vf b9 ≠ -1)) j9))), (2, .int (nI j9))]) 31 ?_ ?_ 0 ls (Nat.zero_le _) hl
  · skip
    intro j ls hj hI ihj
    have hl := hI
    refine lv_iload_n hx hb dX0_ballotsWithChosen_4 rfl (lv_at hl 2 rfl) ?_
    refine lv_bipush (v := nI 31) hx hb dX0_ballotsWithChosen_5 (by decide) ?_
    refine lv_icmp_ge (tgt := 28) hx hb dX0_ballotsWithChosen_7 rfl (fun h7 => absurd h7 (nI_ge hj (by decide))) (fun h7 => ?_)
    have q7 := bb_lt h7
    refine lv_aload_n hx hb dX0_ballotsWithChosen_10 rfl (lv_at hl 0 rfl) ?_
    refine lv_iload_n hx hb dX0_ballotsWithChosen_11 rfl (lv_at hl 2 rfl) ?_
    refine bb_cV (As := [.int (nI j)]) (rest := []) (r := bb_cho w k vo vf j) 0 ⟨hx, hb, hml, hown, hts⟩ (k_chosenValue l dC dI cA h0 a0 a1 a2 a3 w pr vo vf k j (by omega)) (cwV 1 hts gX0_ballotsWithChosen_X0_chosenValue rfl rfl rfl (by decide +kernel) ⟨Nat.le_of_ble_eq_true rfl, Nat.le_of_ble_eq_true rfl⟩) hP hK rfl rfl rfl hl.1 rfl (Nat.le_of_ble_eq_true rfl) dX0_ballotsWithChosen_12 (Nat.zero_le _) (Nat.zero_le _) ?_
    refine lv_iconst (v := (-1)) hx hb dX0_ballotsWithChosen_15 (by decide) ?_
    refine lv_icmp_eq (tgt := 22) hx hb dX0_ballotsWithChosen_16 rfl (fun h16 => ?_) (fun h16 => ?_)
    · skip
      refine lv_iinc (v := nI (j + 1)) (lv' := [(2, .int (nI (j + 1))), (0, .ref h0), (1, .int (nI (bb_cn (fun b9 => decide (bb_cho w k vo vf b9 ≠ -1)) j)))]) hx hb dX0_ballotsWithChosen_22 hl (k := 2) rfl (bb_inc _) (by decide) rfl (fun ls hl => ?_)
      refine lv_goto (tgt := 4) hx hb dX0_ballotsWithChosen_25 rfl ?_
      have hl : lv_has ls 3 [(0, .ref h0), (1, .int (nI (bb_cn (fun b9 => decide (bb_cho w k vo vf b9 ≠ -1)) j))), (2, .int (nI (j + 1)))] := lv_sub hl [1, 2, 0] rfl
      have e1 : (nI (bb_cn (fun b9 => decide (bb_cho w k vo vf b9 ≠ -1)) j)) = nI (bb_cn (fun b9 => decide (bb_cho w k vo vf b9 ≠ -1)) (j + 1)) := by simp [bb_cn, h7, q7, h16]
      have hl : lv_has ls 3 [(0, .ref h0), (1, .int (nI (bb_cn (fun b9 => decide (bb_cho w k vo vf b9 ≠ -1)) (j + 1)))), (2, .int (nI (j + 1)))] := by rw [← e1]; exact hl
      exact ihj ls hl
    · skip
      refine lv_iinc (v := nI ((bb_cn (fun b9 => decide (bb_cho w k vo vf b9 ≠ -1)) j) + 1)) (lv' := [(1, .int (nI ((bb_cn (fun b9 => decide (bb_cho w k vo vf b9 ≠ -1)) j) + 1))), (0, .ref h0), (2, .int (nI j))]) hx hb dX0_ballotsWithChosen_19 hl (k := 1) rfl (bb_inc _) (by decide) rfl (fun ls hl => ?_)
      refine lv_iinc (v := nI (j + 1)) (lv' := [(2, .int (nI (j + 1))), (1, .int (nI ((bb_cn (fun b9 => decide (bb_cho w k vo vf b9 ≠ -1)) j) + 1))), (0, .ref h0)]) hx hb dX0_ballotsWithChosen_22 hl (k := 2) rfl (bb_inc _) (by decide) rfl (fun ls hl => ?_)
      refine lv_goto (tgt := 4) hx hb dX0_ballotsWithChosen_25 rfl ?_
      have hl : lv_has ls 3 [(0, .ref h0), (1, .int (nI ((bb_cn (fun b9 => decide (bb_cho w k vo vf b9 ≠ -1)) j) + 1))), (2, .int (nI (j + 1)))] := lv_sub hl [2, 1, 0] rfl
      have e2 : (nI ((bb_cn (fun b9 => decide (bb_cho w k vo vf b9 ≠ -1)) j) + 1)) = nI (bb_cn (fun b9 => decide (bb_cho w k vo vf b9 ≠ -1)) (j + 1)) := by simp [bb_cn, h7, q7, h16]
      have hl : lv_has ls 3 [(0, .ref h0), (1, .int (nI (bb_cn (fun b9 => decide (bb_cho w k vo vf b9 ≠ -1)) (j + 1)))), (2, .int (nI (j + 1)))] := by rw [← e2]; exact hl
      exact ihj ls hl
  · skip
    intro ls hI
    have hl := hI
    refine lv_iload_n hx hb dX0_ballotsWithChosen_4 rfl (lv_at hl 2 rfl) ?_
    refine lv_bipush (v := nI 31) hx hb dX0_ballotsWithChosen_5 (by decide) ?_
    refine lv_icmp_ge (tgt := 28) hx hb dX0_ballotsWithChosen_7 rfl (fun h7 => ?_) (fun h7 => absurd (nI_le (Nat.le_refl _) (by decide)) h7)
    have q7 := bb_nlt h7
    refine lv_iload_n hx hb dX0_ballotsWithChosen_28 rfl (lv_at hl 1 rfl) ?_
    exact W.iret (v := nI (bb_cn (fun b9 => decide (bb_cho w k vo vf b9 ≠ -1)) 31)) hx hb hr (fun t ht _ => ⟨rfl, ht⟩) (fun _ h => nomatch h) dX0_ballotsWithChosen_29

set_option maxHeartbeats 4000000 in
set_option maxRecDepth 100000 in
theorem k_allVotes (l : Launch) (dC : Nat → ClassId) (dI : Nat → Nat → Nat) (cA : ClassId) (h0 a0 a1 a2 a3 : Nat) (w pr vo vf : Nat → Int32) (k : Int32)  : Met l yX0_allVotes wsX0_allVotes ({ frames := 1, cells := 0, slots := 0, locals := 20 }) (va_Pc [.ref h0] (bb_B (dC, dI) vwCl (bb_C h0 a0 a1 a2 a3 cA w pr vo vf k) [(cA, .int)])) (QcRead (bb_vs vo 31)) 0 0 (fun _ => False) := by
  refine Met.ofW (cc := cX0_allVotes) (maxL := 3) (ret := some .int) (by decide) rfl ?_
  intro p e s m args below meth c s₁ B hml hv
  obtain ⟨rfl, hP, hK⟩ := hv
  have hx := B.exec
  have hb := B.bytes
  have hr := B.returns
  have hts := atoms_spec (ws := wsX0_allVotes) B.pre
  have hown : s.vm.findClass RX0 = some m.cls := findClass_of_methodNamed B.named
  have hlocks := B.notSynchronized
  have hin : ∀ w9 ∈ u_ws RX0 TX0 5, w9 ∈ wsX0_allVotes := fun w9 h9 => List.mem_cons_of_mem _ (bb_inX0 w9 h9)
  have hf16 := hts _ (List.mem_cons_of_mem _ bb_fX0_16)
  have hl := lv_entry ([.ref h0]) (n := 3) (Nat.le_of_ble_eq_true rfl)
  rw [lg_entry_eq]
  generalize (lg_sl ([.ref h0]) ++ List.replicate (3 - (lg_sl ([.ref h0])).length) Slot.unset).toArray = ls at hl ⊢
  have hl : lv_has ls 3 [(0, .ref h0)] := hl
  refine lv_iconst (v := 0) hx hb dX0_allVotes_0 (by decide) ?_
  refine lv_istore_n (lv' := [(1, .int 0), (0, .ref h0)]) hx hb dX0_allVotes_1 rfl hl (by decide) rfl (fun ls hl => ?_)
  refine lv_iconst (v := 0) hx hb dX0_allVotes_2 (by decide) ?_
  refine lv_istore_n (lv' := [(2, .int 0), (1, .int 0), (0, .ref h0)]) hx hb dX0_allVotes_3 rfl hl (by decide) rfl (fun ls hl => ?_)
  have hl : lv_has ls 3 [(0, .ref h0), (1, .int 0), (2, .int 0)] := lv_sub hl [2, 1, 0] rfl
  refine bb_forW (pc := 4) (I := fun j9 ls => lv_has ls 3 [(0, .ref h0), (1, .int (bb_vs vo j9)), (2, .int (nI j9))]) 31 ?_ ?_ 0 ls (Nat.zero_le _) hl
  · skip
    intro j ls hj hI ihj
    have hl := hI
    refine lv_iload_n hx hb dX0_allVotes_4 rfl (lv_at hl 2 rfl) ?_
    refine lv_bipush (v := nI 31) hx hb dX0_allVotes_5 (by decide) ?_
    refine lv_icmp_ge (tgt := 28) hx hb dX0_allVotes_7 rfl (fun h7 => absurd h7 (nI_ge hj (by decide))) (fun h7 => ?_)
    have q7 := bb_lt h7
    refine lv_iload_n hx hb dX0_allVotes_10 rfl (lv_at hl 1 rfl) ?_
    refine lv_aload_n hx hb dX0_allVotes_11 rfl (lv_at hl 0 rfl) ?_
    refine va_get (D := (dC, dI)) (ci := 0) (v := .ref a2) (C := RX0) (T := TX0) (N := 5) hx hb hts hin hown hK hP 0 rfl rfl 2 (by decide) hf16 (fun _ h9 => h9) rfl dX0_allVotes_12 ?_
    refine lv_iload_n hx hb dX0_allVotes_15 rfl (lv_at hl 2 rfl) ?_
    refine bb_ald hx hb hK hP 3 0 rfl rfl j (by omega) (by decide) dX0_allVotes_16 ?_
    refine bb_cS (As := [.int (vo j)]) (rest := [.int (bb_vs vo j)]) (r := bb_bc (vo j)) ⟨hx, hb, hml, hown, hts⟩ (k_bitCount l (vo j)) (va_cwS 1 hts gX0_allVotes_J_bitCount rfl rfl rfl (by decide +kernel) ⟨Nat.le_of_ble_eq_true rfl, Nat.le_of_ble_eq_true rfl⟩) rfl hl.1 rfl (Nat.le_of_ble_eq_true rfl) dX0_allVotes_17 (Nat.zero_le _) (Nat.zero_le _) ?_
    refine lv_iadd hx hb dX0_allVotes_20 ?_
    refine lv_istore_n (lv' := [(1, .int ((bb_vs vo j) + (bb_bc (vo j)))), (0, .ref h0), (2, .int (nI j))]) hx hb dX0_allVotes_21 rfl hl (by decide) rfl (fun ls hl => ?_)
    refine lv_iinc (v := nI (j + 1)) (lv' := [(2, .int (nI (j + 1))), (1, .int ((bb_vs vo j) + (bb_bc (vo j)))), (0, .ref h0)]) hx hb dX0_allVotes_22 hl (k := 2) rfl (bb_inc _) (by decide) rfl (fun ls hl => ?_)
    refine lv_goto (tgt := 4) hx hb dX0_allVotes_25 rfl ?_
    have hl : lv_has ls 3 [(0, .ref h0), (1, .int ((bb_vs vo j) + (bb_bc (vo j)))), (2, .int (nI (j + 1)))] := lv_sub hl [2, 1, 0] rfl
    have e1 : ((bb_vs vo j) + (bb_bc (vo j))) = bb_vs vo (j + 1) := by simp [bb_vs, h7, q7]
    have hl : lv_has ls 3 [(0, .ref h0), (1, .int (bb_vs vo (j + 1))), (2, .int (nI (j + 1)))] := by rw [← e1]; exact hl
    exact ihj ls hl
  · skip
    intro ls hI
    have hl := hI
    refine lv_iload_n hx hb dX0_allVotes_4 rfl (lv_at hl 2 rfl) ?_
    refine lv_bipush (v := nI 31) hx hb dX0_allVotes_5 (by decide) ?_
    refine lv_icmp_ge (tgt := 28) hx hb dX0_allVotes_7 rfl (fun h7 => ?_) (fun h7 => absurd (nI_le (Nat.le_refl _) (by decide)) h7)
    have q7 := bb_nlt h7
    refine lv_iload_n hx hb dX0_allVotes_28 rfl (lv_at hl 1 rfl) ?_
    exact W.iret (v := bb_vs vo 31) hx hb hr (fun t ht _ => ⟨rfl, ht⟩) (fun _ h => nomatch h) dX0_allVotes_29

set_option maxHeartbeats 4000000 in
set_option maxRecDepth 100000 in
theorem k_differentChosen (l : Launch) (dC : Nat → ClassId) (dI : Nat → Nat → Nat) (cA : ClassId) (h0 a0 a1 a2 a3 : Nat) (w pr vo vf : Nat → Int32) (k : Int32)  : Met l yX0_differentChosen wsX0_differentChosen ({ frames := 4, cells := 0, slots := 0, locals := 86 }) (va_Pc [.ref h0] (bb_B (dC, dI) vwCl (bb_C h0 a0 a1 a2 a3 cA w pr vo vf k) [(cA, .int)])) (QcRead (bb_bc (bb_se (bb_cho w k vo vf) 31))) 0 0 (fun _ => False) := by
  refine Met.ofW (cc := cX0_differentChosen) (maxL := 4) (ret := some .int) (by decide) rfl ?_
  intro p e s m args below meth c s₁ B hml hv
  obtain ⟨rfl, hP, hK⟩ := hv
  have hx := B.exec
  have hb := B.bytes
  have hr := B.returns
  have hts := atoms_spec (ws := wsX0_differentChosen) B.pre
  have hown : s.vm.findClass RX0 = some m.cls := findClass_of_methodNamed B.named
  have hlocks := B.notSynchronized
  have hl := lv_entry ([.ref h0]) (n := 4) (Nat.le_of_ble_eq_true rfl)
  rw [lg_entry_eq]
  generalize (lg_sl ([.ref h0]) ++ List.replicate (4 - (lg_sl ([.ref h0])).length) Slot.unset).toArray = ls at hl ⊢
  have hl : lv_has ls 4 [(0, .ref h0)] := hl
  refine lv_iconst (v := 0) hx hb dX0_differentChosen_0 (by decide) ?_
  refine lv_istore_n (lv' := [(1, .int 0), (0, .ref h0)]) hx hb dX0_differentChosen_1 rfl hl (by decide) rfl (fun ls hl => ?_)
  refine lv_iconst (v := 0) hx hb dX0_differentChosen_2 (by decide) ?_
  refine lv_istore_n (lv' := [(2, .int 0), (1, .int 0), (0, .ref h0)]) hx hb dX0_differentChosen_3 rfl hl (by decide) rfl (fun ls hl => ?_)
  have hl : lv_has ls 4 [(0, .ref h0), (1, .int 0), (2, .int 0)] := lv_sub hl [2, 1, 0] rfl
  refine bb_forW (pc := 4) (I := fun j9 ls => lv_has ls 4 [(0, .ref h0), (1, .int (bb_se (bb_cho w k vo vf) j9)), (2, .int (nI j9))]) 31 ?_ ?_ 0 ls (Nat.zero_le _) hl
  · skip
    intro j ls hj hI ihj
    have hl := hI
    refine lv_iload_n hx hb dX0_differentChosen_4 rfl (lv_at hl 2 rfl) ?_
    refine lv_bipush (v := nI 31) hx hb dX0_differentChosen_5 (by decide) ?_
    refine lv_icmp_ge (tgt := 33) hx hb dX0_differentChosen_7 rfl (fun h7 => absurd h7 (nI_ge hj (by decide))) (fun h7 => ?_)
    have q7 := bb_lt h7
    refine lv_aload_n hx hb dX0_differentChosen_10 rfl (lv_at hl 0 rfl) ?_
    refine lv_iload_n hx hb dX0_differentChosen_11 rfl (lv_at hl 2 rfl) ?_
    refine bb_cV (As := [.int (nI j)]) (rest := []) (r := bb_cho w k vo vf j) 0 ⟨hx, hb, hml, hown, hts⟩ (k_chosenValue l dC dI cA h0 a0 a1 a2 a3 w pr vo vf k j (by omega)) (cwV 1 hts gX0_differentChosen_X0_chosenValue rfl rfl rfl (by decide +kernel) ⟨Nat.le_of_ble_eq_true rfl, Nat.le_of_ble_eq_true rfl⟩) hP hK rfl rfl rfl hl.1 rfl (Nat.le_of_ble_eq_true rfl) dX0_differentChosen_12 (Nat.zero_le _) (Nat.zero_le _) ?_
    refine lv_istore_n (lv' := [(3, .int (bb_cho w k vo vf j)), (0, .ref h0), (1, .int (bb_se (bb_cho w k vo vf) j)), (2, .int (nI j))]) hx hb dX0_differentChosen_15 rfl hl (by decide) rfl (fun ls hl => ?_)
    refine lv_iload_n hx hb dX0_differentChosen_16 rfl (lv_at hl 0 rfl) ?_
    refine lv_iconst (v := (-1)) hx hb dX0_differentChosen_17 (by decide) ?_
    refine lv_icmp_eq (tgt := 27) hx hb dX0_differentChosen_18 rfl (fun h18 => ?_) (fun h18 => ?_)
    · skip
      refine lv_iinc (v := nI (j + 1)) (lv' := [(2, .int (nI (j + 1))), (3, .int (bb_cho w k vo vf j)), (0, .ref h0), (1, .int (bb_se (bb_cho w k vo vf) j))]) hx hb dX0_differentChosen_27 hl (k := 3) rfl (bb_inc _) (by decide) rfl (fun ls hl => ?_)
      refine lv_goto (tgt := 4) hx hb dX0_differentChosen_30 rfl ?_
      have hl : lv_has ls 4 [(0, .ref h0), (1, .int (bb_se (bb_cho w k vo vf) j)), (2, .int (nI (j + 1)))] := lv_sub hl [2, 3, 0] rfl
      have e1 : (bb_se (bb_cho w k vo vf) j) = bb_se (bb_cho w k vo vf) (j + 1) := by simp [bb_se, h7, q7, h18]
      have hl : lv_has ls 4 [(0, .ref h0), (1, .int (bb_se (bb_cho w k vo vf) (j + 1))), (2, .int (nI (j + 1)))] := by rw [← e1]; exact hl
      exact ihj ls hl
    · skip
      refine lv_iload_n hx hb dX0_differentChosen_21 rfl (lv_at hl 2 rfl) ?_
      refine lv_iconst (v := 1) hx hb dX0_differentChosen_22 (by decide) ?_
      refine lv_iload_n hx hb dX0_differentChosen_23 rfl (lv_at hl 0 rfl) ?_
      refine lv_ishl hx hb dX0_differentChosen_24 ?_
      refine lv_ior hx hb dX0_differentChosen_25 ?_
      refine lv_istore_n (lv' := [(1, .int ((bb_se (bb_cho w k vo vf) j) ||| (1 <<< ((bb_cho w k vo vf j) &&& 31)))), (3, .int (bb_cho w k vo vf j)), (0, .ref h0), (2, .int (nI j))]) hx hb dX0_differentChosen_26 rfl hl (by decide) rfl (fun ls hl => ?_)
      refine lv_iinc (v := nI (j + 1)) (lv' := [(2, .int (nI (j + 1))), (1, .int ((bb_se (bb_cho w k vo vf) j) ||| (1 <<< ((bb_cho w k vo vf j) &&& 31)))), (3, .int (bb_cho w k vo vf j)), (0, .ref h0)]) hx hb dX0_differentChosen_27 hl (k := 3) rfl (bb_inc _) (by decide) rfl (fun ls hl => ?_)
      refine lv_goto (tgt := 4) hx hb dX0_differentChosen_30 rfl ?_
      have hl : lv_has ls 4 [(0, .ref h0), (1, .int ((bb_se (bb_cho w k vo vf) j) ||| (1 <<< ((bb_cho w k vo vf j) &&& 31)))), (2, .int (nI (j + 1)))] := lv_sub hl [3, 1, 0] rfl
      have e2 : ((bb_se (bb_cho w k vo vf) j) ||| (1 <<< ((bb_cho w k vo vf j) &&& 31))) = bb_se (bb_cho w k vo vf) (j + 1) := by simp [bb_se, h7, q7, h18]
      have hl : lv_has ls 4 [(0, .ref h0), (1, .int (bb_se (bb_cho w k vo vf) (j + 1))), (2, .int (nI (j + 1)))] := by rw [← e2]; exact hl
      exact ihj ls hl
  · skip
    intro ls hI
    have hl := hI
    refine lv_iload_n hx hb dX0_differentChosen_4 rfl (lv_at hl 2 rfl) ?_
    refine lv_bipush (v := nI 31) hx hb dX0_differentChosen_5 (by decide) ?_
    refine lv_icmp_ge (tgt := 33) hx hb dX0_differentChosen_7 rfl (fun h7 => ?_) (fun h7 => absurd (nI_le (Nat.le_refl _) (by decide)) h7)
    have q7 := bb_nlt h7
    refine lv_iload_n hx hb dX0_differentChosen_33 rfl (lv_at hl 1 rfl) ?_
    refine bb_cS (As := [.int (bb_se (bb_cho w k vo vf) 31)]) (rest := []) (r := bb_bc (bb_se (bb_cho w k vo vf) 31)) ⟨hx, hb, hml, hown, hts⟩ (k_bitCount l (bb_se (bb_cho w k vo vf) 31)) (va_cwS 1 hts gX0_differentChosen_J_bitCount rfl rfl rfl (by decide +kernel) ⟨Nat.le_of_ble_eq_true rfl, Nat.le_of_ble_eq_true rfl⟩) rfl hl.1 rfl (Nat.le_of_ble_eq_true rfl) dX0_differentChosen_34 (Nat.zero_le _) (Nat.zero_le _) ?_
    exact W.iret (v := bb_bc (bb_se (bb_cho w k vo vf) 31)) hx hb hr (fun t ht _ => ⟨rfl, ht⟩) (fun _ h => nomatch h) dX0_differentChosen_37
end
section
set_option maxHeartbeats 4000000 in
set_option maxRecDepth 100000 in
theorem k_requireNode (l : Launch)  (n : Nat) (hn0 : n < 10) : Met l yX0_requireNode wsX0_requireNode ({ frames := 0, cells := 0, slots := 0, locals := 0 }) (va_Pc [.int (nI n)] (fun _ => True)) (bb_QV) 0 0 (fun _ => False) := by
  refine Met.ofW (cc := cX0_requireNode) (maxL := 1) (ret := none) (by decide) rfl ?_
  intro p e s m args below meth c s₁ B hml hv
  obtain ⟨rfl, -⟩ := hv
  have hx := B.exec
  have hb := B.bytes
  have hr := B.returns
  have hts := atoms_spec (ws := wsX0_requireNode) B.pre
  have hown : s.vm.findClass RX0 = some m.cls := findClass_of_methodNamed B.named
  have hlocks := B.notSynchronized
  have hl := lv_entry ([.int (nI n)]) (n := 1) (Nat.le_of_ble_eq_true rfl)
  rw [lg_entry_eq]
  generalize (lg_sl ([.int (nI n)]) ++ List.replicate (1 - (lg_sl ([.int (nI n)])).length) Slot.unset).toArray = ls at hl ⊢
  have hl : lv_has ls 1 [(0, .int (nI n))] := hl
  refine lv_iload_n hx hb dX0_requireNode_0 rfl (lv_at hl 0 rfl) ?_
  refine lv_if_lt (tgt := 10) hx hb dX0_requireNode_1 rfl (fun h1 => absurd h1 (nI_pos (by omega))) (fun h1 => ?_)
  refine lv_iload_n hx hb dX0_requireNode_4 rfl (lv_at hl 0 rfl) ?_
  refine lv_bipush (v := nI 10) hx hb dX0_requireNode_5 (by decide) ?_
  refine lv_icmp_lt (tgt := 20) hx hb dX0_requireNode_7 rfl (fun h7 => ?_) (fun h7 => absurd (nI_lt hn0 (by decide)) h7)
  have q7 := bb_nle h7
  exact W.vret hx hb hr (fun t ht _ => ⟨rfl, ht⟩) (fun _ h => nomatch h) dX0_requireNode_20

set_option maxHeartbeats 4000000 in
set_option maxRecDepth 100000 in
theorem k_requireSet (l : Launch)  (n : Nat) (hn0 : n < 1024) : Met l yX0_requireSet wsX0_requireSet ({ frames := 0, cells := 0, slots := 0, locals := 0 }) (va_Pc [.int (nI n)] (fun _ => True)) (bb_QV) 0 0 (fun _ => False) := by
  refine Met.ofW (cc := cX0_requireSet) (maxL := 1) (ret := none) (by decide) rfl ?_
  intro p e s m args below meth c s₁ B hml hv
  obtain ⟨rfl, -⟩ := hv
  have hx := B.exec
  have hb := B.bytes
  have hr := B.returns
  have hts := atoms_spec (ws := wsX0_requireSet) B.pre
  have hown : s.vm.findClass RX0 = some m.cls := findClass_of_methodNamed B.named
  have hlocks := B.notSynchronized
  have hl := lv_entry ([.int (nI n)]) (n := 1) (Nat.le_of_ble_eq_true rfl)
  rw [lg_entry_eq]
  generalize (lg_sl ([.int (nI n)]) ++ List.replicate (1 - (lg_sl ([.int (nI n)])).length) Slot.unset).toArray = ls at hl ⊢
  have hl : lv_has ls 1 [(0, .int (nI n))] := hl
  refine lv_iload_n hx hb dX0_requireSet_0 rfl (lv_at hl 0 rfl) ?_
  refine lv_if_lt (tgt := 11) hx hb dX0_requireSet_1 rfl (fun h1 => absurd h1 (nI_pos (by omega))) (fun h1 => ?_)
  refine lv_iload_n hx hb dX0_requireSet_4 rfl (lv_at hl 0 rfl) ?_
  refine lv_sipush (v := nI 1024) hx hb dX0_requireSet_5 (by decide) ?_
  refine lv_icmp_lt (tgt := 21) hx hb dX0_requireSet_8 rfl (fun h8 => ?_) (fun h8 => absurd (nI_lt hn0 (by decide)) h8)
  have q8 := bb_nle h8
  exact W.vret hx hb hr (fun t ht _ => ⟨rfl, ht⟩) (fun _ h => nomatch h) dX0_requireSet_21

set_option maxHeartbeats 4000000 in
set_option maxRecDepth 100000 in
theorem k_requireBallot (l : Launch)  (n : Nat) (hn0 : n < 31) : Met l yX0_requireBallot wsX0_requireBallot ({ frames := 0, cells := 0, slots := 0, locals := 0 }) (va_Pc [.int (nI n)] (fun _ => True)) (bb_QV) 0 0 (fun _ => False) := by
  refine Met.ofW (cc := cX0_requireBallot) (maxL := 1) (ret := none) (by decide) rfl ?_
  intro p e s m args below meth c s₁ B hml hv
  obtain ⟨rfl, -⟩ := hv
  have hx := B.exec
  have hb := B.bytes
  have hr := B.returns
  have hts := atoms_spec (ws := wsX0_requireBallot) B.pre
  have hown : s.vm.findClass RX0 = some m.cls := findClass_of_methodNamed B.named
  have hlocks := B.notSynchronized
  have hl := lv_entry ([.int (nI n)]) (n := 1) (Nat.le_of_ble_eq_true rfl)
  rw [lg_entry_eq]
  generalize (lg_sl ([.int (nI n)]) ++ List.replicate (1 - (lg_sl ([.int (nI n)])).length) Slot.unset).toArray = ls at hl ⊢
  have hl : lv_has ls 1 [(0, .int (nI n))] := hl
  refine lv_iload_n hx hb dX0_requireBallot_0 rfl (lv_at hl 0 rfl) ?_
  refine lv_if_lt (tgt := 10) hx hb dX0_requireBallot_1 rfl (fun h1 => absurd h1 (nI_pos (by omega))) (fun h1 => ?_)
  refine lv_iload_n hx hb dX0_requireBallot_4 rfl (lv_at hl 0 rfl) ?_
  refine lv_bipush (v := nI 31) hx hb dX0_requireBallot_5 (by decide) ?_
  refine lv_icmp_lt (tgt := 20) hx hb dX0_requireBallot_7 rfl (fun h7 => ?_) (fun h7 => absurd (nI_lt hn0 (by decide)) h7)
  have q7 := bb_nle h7
  exact W.vret hx hb hr (fun t ht _ => ⟨rfl, ht⟩) (fun _ h => nomatch h) dX0_requireBallot_20

set_option maxHeartbeats 4000000 in
set_option maxRecDepth 100000 in
theorem k_requireValue (l : Launch)  (n : Nat) (hn0 : n < 10) : Met l yX0_requireValue wsX0_requireValue ({ frames := 0, cells := 0, slots := 0, locals := 0 }) (va_Pc [.int (nI n)] (fun _ => True)) (bb_QV) 0 0 (fun _ => False) := by
  refine Met.ofW (cc := cX0_requireValue) (maxL := 1) (ret := none) (by decide) rfl ?_
  intro p e s m args below meth c s₁ B hml hv
  obtain ⟨rfl, -⟩ := hv
  have hx := B.exec
  have hb := B.bytes
  have hr := B.returns
  have hts := atoms_spec (ws := wsX0_requireValue) B.pre
  have hown : s.vm.findClass RX0 = some m.cls := findClass_of_methodNamed B.named
  have hlocks := B.notSynchronized
  have hl := lv_entry ([.int (nI n)]) (n := 1) (Nat.le_of_ble_eq_true rfl)
  rw [lg_entry_eq]
  generalize (lg_sl ([.int (nI n)]) ++ List.replicate (1 - (lg_sl ([.int (nI n)])).length) Slot.unset).toArray = ls at hl ⊢
  have hl : lv_has ls 1 [(0, .int (nI n))] := hl
  refine lv_iload_n hx hb dX0_requireValue_0 rfl (lv_at hl 0 rfl) ?_
  refine lv_if_lt (tgt := 10) hx hb dX0_requireValue_1 rfl (fun h1 => absurd h1 (nI_pos (by omega))) (fun h1 => ?_)
  refine lv_iload_n hx hb dX0_requireValue_4 rfl (lv_at hl 0 rfl) ?_
  refine lv_bipush (v := nI 10) hx hb dX0_requireValue_5 (by decide) ?_
  refine lv_icmp_lt (tgt := 20) hx hb dX0_requireValue_7 rfl (fun h7 => ?_) (fun h7 => absurd (nI_lt hn0 (by decide)) h7)
  have q7 := bb_nle h7
  exact W.vret hx hb hr (fun t ht _ => ⟨rfl, ht⟩) (fun _ h => nomatch h) dX0_requireValue_20

set_option maxHeartbeats 4000000 in
set_option maxRecDepth 100000 in
theorem k_chosen (l : Launch) (dC : Nat → ClassId) (dI : Nat → Nat → Nat) (cA : ClassId) (h0 a0 a1 a2 a3 : Nat) (w pr vo vf : Nat → Int32) (k : Int32) (b : Nat) (hb0 : b < 31) : Met l yX0_chosen wsX0_chosen ({ frames := 4, cells := 0, slots := 0, locals := 86 }) (va_Pc [.ref h0, .int (nI b)] (bb_B (dC, dI) vwCl (bb_C h0 a0 a1 a2 a3 cA w pr vo vf k) [(cA, .int)])) (QcRead (bb_cho w k vo vf b)) 0 0 (fun _ => False) := by
  refine Met.ofW (cc := cX0_chosen) (maxL := 2) (ret := some .int) (by decide) rfl ?_
  intro p e s m args below meth c s₁ B hml hv
  obtain ⟨rfl, hP, hK⟩ := hv
  have hx := B.exec
  have hb := B.bytes
  have hr := B.returns
  have hts := atoms_spec (ws := wsX0_chosen) B.pre
  have hown : s.vm.findClass RX0 = some m.cls := findClass_of_methodNamed B.named
  have hlocks := B.notSynchronized
  have hl := lv_entry ([.ref h0, .int (nI b)]) (n := 2) (Nat.le_of_ble_eq_true rfl)
  rw [lg_entry_eq]
  generalize (lg_sl ([.ref h0, .int (nI b)]) ++ List.replicate (2 - (lg_sl ([.ref h0, .int (nI b)])).length) Slot.unset).toArray = ls at hl ⊢
  have hl : lv_has ls 2 [(0, .ref h0), (1, .int (nI b))] := hl
  refine lv_iload_n hx hb dX0_chosen_0 rfl (lv_at hl 1 rfl) ?_
  refine bb_cSv (As := [.int (nI b)]) (rest := []) ⟨hx, hb, hml, hown, hts⟩ (k_requireBallot l b (by omega)) (cwS 1 hts gX0_chosen_X0_requireBallot rfl rfl rfl (by decide +kernel) ⟨Nat.le_of_ble_eq_true rfl, Nat.le_of_ble_eq_true rfl⟩) rfl hl.1 rfl (Nat.le_of_ble_eq_true rfl) dX0_chosen_1 (Nat.zero_le _) (Nat.zero_le _) ?_
  refine lv_aload_n hx hb dX0_chosen_4 rfl (lv_at hl 0 rfl) ?_
  refine lv_iload_n hx hb dX0_chosen_5 rfl (lv_at hl 1 rfl) ?_
  refine bb_cV (As := [.int (nI b)]) (rest := []) (r := bb_cho w k vo vf b) 0 ⟨hx, hb, hml, hown, hts⟩ (k_chosenValue l dC dI cA h0 a0 a1 a2 a3 w pr vo vf k b (by omega)) (cwV 1 hts gX0_chosen_X0_chosenValue rfl rfl rfl (by decide +kernel) ⟨Nat.le_of_ble_eq_true rfl, Nat.le_of_ble_eq_true rfl⟩) hP hK rfl rfl rfl hl.1 rfl (Nat.le_of_ble_eq_true rfl) dX0_chosen_6 (Nat.zero_le _) (Nat.zero_le _) ?_
  exact W.iret (v := bb_cho w k vo vf b) hx hb hr (fun t ht _ => ⟨rfl, ht⟩) (fun _ h => nomatch h) dX0_chosen_9

set_option maxHeartbeats 4000000 in
set_option maxRecDepth 100000 in
theorem k_can (l : Launch) (dC : Nat → ClassId) (dI : Nat → Nat → Nat) (cA : ClassId) (h0 a0 a1 a2 a3 : Nat) (w pr vo vf : Nat → Int32) (k : Int32) (b : Nat) (hb0 : b < 31) (v : Nat) (hv0 : v < 10) : Met l yX0_can wsX0_can ({ frames := 4, cells := 0, slots := 0, locals := 87 }) (va_Pc [.ref h0, .int (nI b), .int (nI v)] (bb_B (dC, dI) vwCl (bb_C h0 a0 a1 a2 a3 cA w pr vo vf k) [(cA, .int)])) (QcRead (bb_I (bb_only vf b (nI v) && bb_way w k pr vo b))) 0 0 (fun _ => False) := by
  refine Met.ofW (cc := cX0_can) (maxL := 3) (ret := some .boolean) (by decide) rfl ?_
  intro p e s m args below meth c s₁ B hml hv
  obtain ⟨rfl, hP, hK⟩ := hv
  have hx := B.exec
  have hb := B.bytes
  have hr := B.returns
  have hts := atoms_spec (ws := wsX0_can) B.pre
  have hown : s.vm.findClass RX0 = some m.cls := findClass_of_methodNamed B.named
  have hlocks := B.notSynchronized
  have hl := lv_entry ([.ref h0, .int (nI b), .int (nI v)]) (n := 3) (Nat.le_of_ble_eq_true rfl)
  rw [lg_entry_eq]
  generalize (lg_sl ([.ref h0, .int (nI b), .int (nI v)]) ++ List.replicate (3 - (lg_sl ([.ref h0, .int (nI b), .int (nI v)])).length) Slot.unset).toArray = ls at hl ⊢
  have hl : lv_has ls 3 [(0, .ref h0), (1, .int (nI b)), (2, .int (nI v))] := hl
  refine lv_iload_n hx hb dX0_can_0 rfl (lv_at hl 1 rfl) ?_
  refine bb_cSv (As := [.int (nI b)]) (rest := []) ⟨hx, hb, hml, hown, hts⟩ (k_requireBallot l b (by omega)) (cwS 1 hts gX0_can_X0_requireBallot rfl rfl rfl (by decide +kernel) ⟨Nat.le_of_ble_eq_true rfl, Nat.le_of_ble_eq_true rfl⟩) rfl hl.1 rfl (Nat.le_of_ble_eq_true rfl) dX0_can_1 (Nat.zero_le _) (Nat.zero_le _) ?_
  refine lv_iload_n hx hb dX0_can_4 rfl (lv_at hl 2 rfl) ?_
  refine bb_cSv (As := [.int (nI v)]) (rest := []) ⟨hx, hb, hml, hown, hts⟩ (k_requireValue l v (by omega)) (cwS 1 hts gX0_can_X0_requireValue rfl rfl rfl (by decide +kernel) ⟨Nat.le_of_ble_eq_true rfl, Nat.le_of_ble_eq_true rfl⟩) rfl hl.1 rfl (Nat.le_of_ble_eq_true rfl) dX0_can_5 (Nat.zero_le _) (Nat.zero_le _) ?_
  refine lv_aload_n hx hb dX0_can_8 rfl (lv_at hl 0 rfl) ?_
  refine lv_iload_n hx hb dX0_can_9 rfl (lv_at hl 1 rfl) ?_
  refine lv_iload_n hx hb dX0_can_10 rfl (lv_at hl 2 rfl) ?_
  refine bb_cV (As := [.int (nI b), .int (nI v)]) (rest := []) (r := bb_I (bb_only vf b (nI v))) 0 ⟨hx, hb, hml, hown, hts⟩ (k_isOnlyValue l dC dI cA h0 a0 a1 a2 a3 w pr vo vf k b (nI v) (by omega)) (cwV 2 hts gX0_can_X0_isOnlyValue rfl rfl rfl (by decide +kernel) ⟨Nat.le_of_ble_eq_true rfl, Nat.le_of_ble_eq_true rfl⟩) hP hK rfl rfl rfl hl.1 rfl (Nat.le_of_ble_eq_true rfl) dX0_can_11 (Nat.zero_le _) (Nat.zero_le _) ?_
  refine lv_if_eq (tgt := 29) hx hb dX0_can_14 rfl (fun h14 => ?_) (fun h14 => ?_)
  · skip
    have q14 := bb_I_0.mp h14
    refine lv_iconst (v := 0) hx hb dX0_can_29 (by decide) ?_
    have er : bb_I (bb_only vf b (nI v) && bb_way w k pr vo b) = 0 := by simp [bb_I, h14, q14]
    exact W.zret (v := 0) hx hb hr bb_z0 (fun t ht _ => ⟨by rw [er], ht⟩) (fun _ h => nomatch h) dX0_can_30
  · skip
    have q14 := bb_nz h14
    refine lv_aload_n hx hb dX0_can_17 rfl (lv_at hl 0 rfl) ?_
    refine lv_iload_n hx hb dX0_can_18 rfl (lv_at hl 1 rfl) ?_
    refine bb_cV (As := [.int (nI b)]) (rest := []) (r := bb_I (bb_way w k pr vo b)) 0 ⟨hx, hb, hml, hown, hts⟩ (k_hasWayToChoose l dC dI cA h0 a0 a1 a2 a3 w pr vo vf k b (by omega)) (cwV 1 hts gX0_can_X0_hasWayToChoose rfl rfl rfl (by decide +kernel) ⟨Nat.le_of_ble_eq_true rfl, Nat.le_of_ble_eq_true rfl⟩) hP hK rfl rfl rfl hl.1 rfl (Nat.le_of_ble_eq_true rfl) dX0_can_19 (Nat.zero_le _) (Nat.zero_le _) ?_
    refine lv_if_eq (tgt := 29) hx hb dX0_can_22 rfl (fun h22 => ?_) (fun h22 => ?_)
    · skip
      have q22 := bb_I_0.mp h22
      refine lv_iconst (v := 0) hx hb dX0_can_29 (by decide) ?_
      have er : bb_I (bb_only vf b (nI v) && bb_way w k pr vo b) = 0 := by simp [bb_I, h14, q14, h22, q22]
      exact W.zret (v := 0) hx hb hr bb_z0 (fun t ht _ => ⟨by rw [er], ht⟩) (fun _ h => nomatch h) dX0_can_30
    · skip
      have q22 := bb_nz h22
      refine lv_iconst (v := 1) hx hb dX0_can_25 (by decide) ?_
      refine lv_goto (tgt := 30) hx hb dX0_can_26 rfl ?_
      have er : bb_I (bb_only vf b (nI v) && bb_way w k pr vo b) = 1 := by simp [bb_I, h14, q14, h22, q22]
      exact W.zret (v := 1) hx hb hr bb_z1 (fun t ht _ => ⟨by rw [er], ht⟩) (fun _ h => nomatch h) dX0_can_30

set_option maxHeartbeats 4000000 in
set_option maxRecDepth 100000 in
theorem k_safe (l : Launch) (dC : Nat → ClassId) (dI : Nat → Nat → Nat) (cA : ClassId) (h0 a0 a1 a2 a3 : Nat) (w pr vo vf : Nat → Int32) (k : Int32) (b : Nat) (hb0 : b < 31) (v : Nat) (hv0 : v < 10) : Met l yX0_safe wsX0_safe ({ frames := 5, cells := 0, slots := 0, locals := 110 }) (va_Pc [.ref h0, .int (nI b), .int (nI v)] (bb_B (dC, dI) vwCl (bb_C h0 a0 a1 a2 a3 cA w pr vo vf k) [(cA, .int)])) (QcRead (bb_I (bb_saf w k pr vo vf b (nI v)))) 0 0 (fun _ => False) := by
  refine Met.ofW (cc := cX0_safe) (maxL := 3) (ret := some .boolean) (by decide) rfl ?_
  intro p e s m args below meth c s₁ B hml hv
  obtain ⟨rfl, hP, hK⟩ := hv
  have hx := B.exec
  have hb := B.bytes
  have hr := B.returns
  have hts := atoms_spec (ws := wsX0_safe) B.pre
  have hown : s.vm.findClass RX0 = some m.cls := findClass_of_methodNamed B.named
  have hlocks := B.notSynchronized
  have hl := lv_entry ([.ref h0, .int (nI b), .int (nI v)]) (n := 3) (Nat.le_of_ble_eq_true rfl)
  rw [lg_entry_eq]
  generalize (lg_sl ([.ref h0, .int (nI b), .int (nI v)]) ++ List.replicate (3 - (lg_sl ([.ref h0, .int (nI b), .int (nI v)])).length) Slot.unset).toArray = ls at hl ⊢
  have hl : lv_has ls 3 [(0, .ref h0), (1, .int (nI b)), (2, .int (nI v))] := hl
  refine lv_iload_n hx hb dX0_safe_0 rfl (lv_at hl 1 rfl) ?_
  refine bb_cSv (As := [.int (nI b)]) (rest := []) ⟨hx, hb, hml, hown, hts⟩ (k_requireBallot l b (by omega)) (cwS 1 hts gX0_safe_X0_requireBallot rfl rfl rfl (by decide +kernel) ⟨Nat.le_of_ble_eq_true rfl, Nat.le_of_ble_eq_true rfl⟩) rfl hl.1 rfl (Nat.le_of_ble_eq_true rfl) dX0_safe_1 (Nat.zero_le _) (Nat.zero_le _) ?_
  refine lv_iload_n hx hb dX0_safe_4 rfl (lv_at hl 2 rfl) ?_
  refine bb_cSv (As := [.int (nI v)]) (rest := []) ⟨hx, hb, hml, hown, hts⟩ (k_requireValue l v (by omega)) (cwS 1 hts gX0_safe_X0_requireValue rfl rfl rfl (by decide +kernel) ⟨Nat.le_of_ble_eq_true rfl, Nat.le_of_ble_eq_true rfl⟩) rfl hl.1 rfl (Nat.le_of_ble_eq_true rfl) dX0_safe_5 (Nat.zero_le _) (Nat.zero_le _) ?_
  refine lv_aload_n hx hb dX0_safe_8 rfl (lv_at hl 0 rfl) ?_
  refine lv_iload_n hx hb dX0_safe_9 rfl (lv_at hl 1 rfl) ?_
  refine lv_iload_n hx hb dX0_safe_10 rfl (lv_at hl 2 rfl) ?_
  refine bb_cV (As := [.int (nI b), .int (nI v)]) (rest := []) (r := bb_I (bb_saf w k pr vo vf b (nI v))) 0 ⟨hx, hb, hml, hown, hts⟩ (k_isSafe l dC dI cA h0 a0 a1 a2 a3 w pr vo vf k b (nI v) (by omega)) (cwV 2 hts gX0_safe_X0_isSafe rfl rfl rfl (by decide +kernel) ⟨Nat.le_of_ble_eq_true rfl, Nat.le_of_ble_eq_true rfl⟩) hP hK rfl rfl rfl hl.1 rfl (Nat.le_of_ble_eq_true rfl) dX0_safe_11 (Nat.zero_le _) (Nat.zero_le _) ?_
  exact W.zret (v := bb_I (bb_saf w k pr vo vf b (nI v))) hx hb hr (bb_zI _) (fun t ht _ => ⟨rfl, ht⟩) (fun _ h => nomatch h) dX0_safe_14

set_option maxHeartbeats 4000000 in
set_option maxRecDepth 100000 in
theorem k_free (l : Launch) (dC : Nat → ClassId) (dI : Nat → Nat → Nat) (cA : ClassId) (h0 a0 a1 a2 a3 : Nat) (w pr vo vf : Nat → Int32) (k : Int32) (b : Nat) (hb0 : b < 31) : Met l yX0_free wsX0_free ({ frames := 5, cells := 0, slots := 0, locals := 110 }) (va_Pc [.ref h0, .int (nI b)] (bb_B (dC, dI) vwCl (bb_C h0 a0 a1 a2 a3 cA w pr vo vf k) [(cA, .int)])) (QcRead (nI (bb_cn (fun v9 => bb_saf w k pr vo vf b (nI v9)) 10))) 0 0 (fun _ => False) := by
  refine Met.ofW (cc := cX0_free) (maxL := 4) (ret := some .int) (by decide) rfl ?_
  intro p e s m args below meth c s₁ B hml hv
  obtain ⟨rfl, hP, hK⟩ := hv
  have hx := B.exec
  have hb := B.bytes
  have hr := B.returns
  have hts := atoms_spec (ws := wsX0_free) B.pre
  have hown : s.vm.findClass RX0 = some m.cls := findClass_of_methodNamed B.named
  have hlocks := B.notSynchronized
  have hl := lv_entry ([.ref h0, .int (nI b)]) (n := 4) (Nat.le_of_ble_eq_true rfl)
  rw [lg_entry_eq]
  generalize (lg_sl ([.ref h0, .int (nI b)]) ++ List.replicate (4 - (lg_sl ([.ref h0, .int (nI b)])).length) Slot.unset).toArray = ls at hl ⊢
  have hl : lv_has ls 4 [(0, .ref h0), (1, .int (nI b))] := hl
  refine lv_iload_n hx hb dX0_free_0 rfl (lv_at hl 1 rfl) ?_
  refine bb_cSv (As := [.int (nI b)]) (rest := []) ⟨hx, hb, hml, hown, hts⟩ (k_requireBallot l b (by omega)) (cwS 1 hts gX0_free_X0_requireBallot rfl rfl rfl (by decide +kernel) ⟨Nat.le_of_ble_eq_true rfl, Nat.le_of_ble_eq_true rfl⟩) rfl hl.1 rfl (Nat.le_of_ble_eq_true rfl) dX0_free_1 (Nat.zero_le _) (Nat.zero_le _) ?_
  refine lv_iconst (v := 0) hx hb dX0_free_4 (by decide) ?_
  refine lv_istore_n (lv' := [(2, .int 0), (0, .ref h0), (1, .int (nI b))]) hx hb dX0_free_5 rfl hl (by decide) rfl (fun ls hl => ?_)
  refine lv_iconst (v := 0) hx hb dX0_free_6 (by decide) ?_
  refine lv_istore_n (lv' := [(3, .int 0), (2, .int 0), (0, .ref h0), (1, .int (nI b))]) hx hb dX0_free_7 rfl hl (by decide) rfl (fun ls hl => ?_)
  have hl : lv_has ls 4 [(0, .ref h0), (1, .int (nI b)), (2, .int 0), (3, .int 0)] := lv_sub hl [2, 3, 1, 0] rfl
  refine bb_forW (pc := 8) (I := fun j9 ls => lv_has ls 4 [(0, .ref h0), (1, .int (nI b)), (2, .int (nI (bb_cn (fun v9 => bb_saf w k pr vo vf b (nI v9)) j9))), (3, .int (nI j9))]) 10 ?_ ?_ 0 ls (Nat.zero_le _) hl
  · skip
    intro j ls hj hI ihj
    have hl := hI
    refine lv_iload_n hx hb dX0_free_8 rfl (lv_at hl 3 rfl) ?_
    refine lv_bipush (v := nI 10) hx hb dX0_free_9 (by decide) ?_
    refine lv_icmp_ge (tgt := 32) hx hb dX0_free_11 rfl (fun h11 => absurd h11 (nI_ge hj (by decide))) (fun h11 => ?_)
    have q11 := bb_lt h11
    refine lv_aload_n hx hb dX0_free_14 rfl (lv_at hl 0 rfl) ?_
    refine lv_iload_n hx hb dX0_free_15 rfl (lv_at hl 1 rfl) ?_
    refine lv_iload_n hx hb dX0_free_16 rfl (lv_at hl 3 rfl) ?_
    refine bb_cV (As := [.int (nI b), .int (nI j)]) (rest := []) (r := bb_I (bb_saf w k pr vo vf b (nI j))) 0 ⟨hx, hb, hml, hown, hts⟩ (k_isSafe l dC dI cA h0 a0 a1 a2 a3 w pr vo vf k b (nI j) (by omega)) (cwV 2 hts gX0_free_X0_isSafe rfl rfl rfl (by decide +kernel) ⟨Nat.le_of_ble_eq_true rfl, Nat.le_of_ble_eq_true rfl⟩) hP hK rfl rfl rfl hl.1 rfl (Nat.le_of_ble_eq_true rfl) dX0_free_17 (Nat.zero_le _) (Nat.zero_le _) ?_
    refine lv_if_eq (tgt := 26) hx hb dX0_free_20 rfl (fun h20 => ?_) (fun h20 => ?_)
    · skip
      have q20 := bb_I_0.mp h20
      refine lv_iinc (v := nI (j + 1)) (lv' := [(3, .int (nI (j + 1))), (0, .ref h0), (1, .int (nI b)), (2, .int (nI (bb_cn (fun v9 => bb_saf w k pr vo vf b (nI v9)) j)))]) hx hb dX0_free_26 hl (k := 3) rfl (bb_inc _) (by decide) rfl (fun ls hl => ?_)
      refine lv_goto (tgt := 8) hx hb dX0_free_29 rfl ?_
      have hl : lv_has ls 4 [(0, .ref h0), (1, .int (nI b)), (2, .int (nI (bb_cn (fun v9 => bb_saf w k pr vo vf b (nI v9)) j))), (3, .int (nI (j + 1)))] := lv_sub hl [1, 2, 3, 0] rfl
      have e1 : (nI (bb_cn (fun v9 => bb_saf w k pr vo vf b (nI v9)) j)) = nI (bb_cn (fun v9 => bb_saf w k pr vo vf b (nI v9)) (j + 1)) := by simp [bb_cn, h11, q11, h20, q20]
      have hl : lv_has ls 4 [(0, .ref h0), (1, .int (nI b)), (2, .int (nI (bb_cn (fun v9 => bb_saf w k pr vo vf b (nI v9)) (j + 1)))), (3, .int (nI (j + 1)))] := by rw [← e1]; exact hl
      exact ihj ls hl
    · skip
      have q20 := bb_nz h20
      refine lv_iinc (v := nI ((bb_cn (fun v9 => bb_saf w k pr vo vf b (nI v9)) j) + 1)) (lv' := [(2, .int (nI ((bb_cn (fun v9 => bb_saf w k pr vo vf b (nI v9)) j) + 1))), (0, .ref h0), (1, .int (nI b)), (3, .int (nI j))]) hx hb dX0_free_23 hl (k := 2) rfl (bb_inc _) (by decide) rfl (fun ls hl => ?_)
      refine lv_iinc (v := nI (j + 1)) (lv' := [(3, .int (nI (j + 1))), (2, .int (nI ((bb_cn (fun v9 => bb_saf w k pr vo vf b (nI v9)) j) + 1))), (0, .ref h0), (1, .int (nI b))]) hx hb dX0_free_26 hl (k := 3) rfl (bb_inc _) (by decide) rfl (fun ls hl => ?_)
      refine lv_goto (tgt := 8) hx hb dX0_free_29 rfl ?_
      have hl : lv_has ls 4 [(0, .ref h0), (1, .int (nI b)), (2, .int (nI ((bb_cn (fun v9 => bb_saf w k pr vo vf b (nI v9)) j) + 1))), (3, .int (nI (j + 1)))] := lv_sub hl [2, 3, 1, 0] rfl
      have e2 : (nI ((bb_cn (fun v9 => bb_saf w k pr vo vf b (nI v9)) j) + 1)) = nI (bb_cn (fun v9 => bb_saf w k pr vo vf b (nI v9)) (j + 1)) := by simp [bb_cn, h11, q11, h20, q20]
      have hl : lv_has ls 4 [(0, .ref h0), (1, .int (nI b)), (2, .int (nI (bb_cn (fun v9 => bb_saf w k pr vo vf b (nI v9)) (j + 1)))), (3, .int (nI (j + 1)))] := by rw [← e2]; exact hl
      exact ihj ls hl
  · skip
    intro ls hI
    have hl := hI
    refine lv_iload_n hx hb dX0_free_8 rfl (lv_at hl 3 rfl) ?_
    refine lv_bipush (v := nI 10) hx hb dX0_free_9 (by decide) ?_
    refine lv_icmp_ge (tgt := 32) hx hb dX0_free_11 rfl (fun h11 => ?_) (fun h11 => absurd (nI_le (Nat.le_refl _) (by decide)) h11)
    have q11 := bb_nlt h11
    refine lv_iload_n hx hb dX0_free_32 rfl (lv_at hl 2 rfl) ?_
    exact W.iret (v := nI (bb_cn (fun v9 => bb_saf w k pr vo vf b (nI v9)) 10)) hx hb hr (fun t ht _ => ⟨rfl, ht⟩) (fun _ h => nomatch h) dX0_free_33

set_option maxHeartbeats 4000000 in
set_option maxRecDepth 100000 in
theorem k_enough (l : Launch) (dC : Nat → ClassId) (dI : Nat → Nat → Nat) (cA : ClassId) (h0 a0 a1 a2 a3 : Nat) (w pr vo vf : Nat → Int32) (k : Int32) (a : Nat) (ha0 : a < 1024) : Met l yX0_enough wsX0_enough ({ frames := 3, cells := 0, slots := 0, locals := 65 }) (va_Pc [.ref h0, .int (nI a)] (bb_B (dC, dI) vwCl (bb_C h0 a0 a1 a2 a3 cA w pr vo vf k) [(cA, .int)])) (QcRead (bb_I (bb_en w k (nI a)))) 0 0 (fun _ => False) := by
  refine Met.ofW (cc := cX0_enough) (maxL := 2) (ret := some .boolean) (by decide) rfl ?_
  intro p e s m args below meth c s₁ B hml hv
  obtain ⟨rfl, hP, hK⟩ := hv
  have hx := B.exec
  have hb := B.bytes
  have hr := B.returns
  have hts := atoms_spec (ws := wsX0_enough) B.pre
  have hown : s.vm.findClass RX0 = some m.cls := findClass_of_methodNamed B.named
  have hlocks := B.notSynchronized
  have hl := lv_entry ([.ref h0, .int (nI a)]) (n := 2) (Nat.le_of_ble_eq_true rfl)
  rw [lg_entry_eq]
  generalize (lg_sl ([.ref h0, .int (nI a)]) ++ List.replicate (2 - (lg_sl ([.ref h0, .int (nI a)])).length) Slot.unset).toArray = ls at hl ⊢
  have hl : lv_has ls 2 [(0, .ref h0), (1, .int (nI a))] := hl
  refine lv_iload_n hx hb dX0_enough_0 rfl (lv_at hl 1 rfl) ?_
  refine bb_cSv (As := [.int (nI a)]) (rest := []) ⟨hx, hb, hml, hown, hts⟩ (k_requireSet l a (by omega)) (cwS 1 hts gX0_enough_X0_requireSet rfl rfl rfl (by decide +kernel) ⟨Nat.le_of_ble_eq_true rfl, Nat.le_of_ble_eq_true rfl⟩) rfl hl.1 rfl (Nat.le_of_ble_eq_true rfl) dX0_enough_1 (Nat.zero_le _) (Nat.zero_le _) ?_
  refine lv_aload_n hx hb dX0_enough_4 rfl (lv_at hl 0 rfl) ?_
  refine lv_iload_n hx hb dX0_enough_5 rfl (lv_at hl 1 rfl) ?_
  refine bb_cV (As := [.int (nI a)]) (rest := []) (r := bb_I (bb_en w k (nI a))) 0 ⟨hx, hb, hml, hown, hts⟩ (k_isEnough l dC dI cA h0 a0 a1 a2 a3 w pr vo vf k (nI a)) (cwV 1 hts gX0_enough_X0_isEnough rfl rfl rfl (by decide +kernel) ⟨Nat.le_of_ble_eq_true rfl, Nat.le_of_ble_eq_true rfl⟩) hP hK rfl rfl rfl hl.1 rfl (Nat.le_of_ble_eq_true rfl) dX0_enough_6 (Nat.zero_le _) (Nat.zero_le _) ?_
  exact W.zret (v := bb_I (bb_en w k (nI a))) hx hb hr (bb_zI _) (fun t ht _ => ⟨rfl, ht⟩) (fun _ h => nomatch h) dX0_enough_9

set_option maxHeartbeats 4000000 in
set_option maxRecDepth 100000 in
theorem k_blocks (l : Launch) (dC : Nat → ClassId) (dI : Nat → Nat → Nat) (cA : ClassId) (h0 a0 a1 a2 a3 : Nat) (w pr vo vf : Nat → Int32) (k : Int32) (a : Nat) (ha0 : a < 1024) : Met l yX0_blocks wsX0_blocks ({ frames := 3, cells := 0, slots := 0, locals := 65 }) (va_Pc [.ref h0, .int (nI a)] (bb_B (dC, dI) vwCl (bb_C h0 a0 a1 a2 a3 cA w pr vo vf k) [(cA, .int)])) (QcRead (bb_I (!bb_en w k (1023 &&& bb_not (nI a))))) 0 0 (fun _ => False) := by
  refine Met.ofW (cc := cX0_blocks) (maxL := 2) (ret := some .boolean) (by decide) rfl ?_
  intro p e s m args below meth c s₁ B hml hv
  obtain ⟨rfl, hP, hK⟩ := hv
  have hx := B.exec
  have hb := B.bytes
  have hr := B.returns
  have hts := atoms_spec (ws := wsX0_blocks) B.pre
  have hown : s.vm.findClass RX0 = some m.cls := findClass_of_methodNamed B.named
  have hlocks := B.notSynchronized
  have hl := lv_entry ([.ref h0, .int (nI a)]) (n := 2) (Nat.le_of_ble_eq_true rfl)
  rw [lg_entry_eq]
  generalize (lg_sl ([.ref h0, .int (nI a)]) ++ List.replicate (2 - (lg_sl ([.ref h0, .int (nI a)])).length) Slot.unset).toArray = ls at hl ⊢
  have hl : lv_has ls 2 [(0, .ref h0), (1, .int (nI a))] := hl
  refine lv_iload_n hx hb dX0_blocks_0 rfl (lv_at hl 1 rfl) ?_
  refine bb_cSv (As := [.int (nI a)]) (rest := []) ⟨hx, hb, hml, hown, hts⟩ (k_requireSet l a (by omega)) (cwS 1 hts gX0_blocks_X0_requireSet rfl rfl rfl (by decide +kernel) ⟨Nat.le_of_ble_eq_true rfl, Nat.le_of_ble_eq_true rfl⟩) rfl hl.1 rfl (Nat.le_of_ble_eq_true rfl) dX0_blocks_1 (Nat.zero_le _) (Nat.zero_le _) ?_
  refine lv_aload_n hx hb dX0_blocks_4 rfl (lv_at hl 0 rfl) ?_
  refine lv_sipush (v := 1023) hx hb dX0_blocks_5 (by decide) ?_
  refine lv_iload_n hx hb dX0_blocks_8 rfl (lv_at hl 1 rfl) ?_
  refine lv_iconst (v := (-1)) hx hb dX0_blocks_9 (by decide) ?_
  refine lv_ixor hx hb dX0_blocks_10 ?_
  refine bb_topi (y := bb_not (nI a)) rfl ?_
  refine lv_iand hx hb dX0_blocks_11 ?_
  refine bb_cV (As := [.int (1023 &&& (bb_not (nI a)))]) (rest := []) (r := bb_I (bb_en w k (1023 &&& (bb_not (nI a))))) 0 ⟨hx, hb, hml, hown, hts⟩ (k_isEnough l dC dI cA h0 a0 a1 a2 a3 w pr vo vf k (1023 &&& (bb_not (nI a)))) (cwV 1 hts gX0_blocks_X0_isEnough rfl rfl rfl (by decide +kernel) ⟨Nat.le_of_ble_eq_true rfl, Nat.le_of_ble_eq_true rfl⟩) hP hK rfl rfl rfl hl.1 rfl (Nat.le_of_ble_eq_true rfl) dX0_blocks_12 (Nat.zero_le _) (Nat.zero_le _) ?_
  refine lv_if_ne (tgt := 22) hx hb dX0_blocks_15 rfl (fun h15 => ?_) (fun h15 => ?_)
  · skip
    have q15 := bb_nz h15
    refine lv_iconst (v := 0) hx hb dX0_blocks_22 (by decide) ?_
    have er : bb_I (!bb_en w k (1023 &&& bb_not (nI a))) = 0 := by simp [bb_I, h15, q15]
    exact W.zret (v := 0) hx hb hr bb_z0 (fun t ht _ => ⟨by rw [er], ht⟩) (fun _ h => nomatch h) dX0_blocks_23
  · skip
    have q15 := bb_I_0.mp h15
    refine lv_iconst (v := 1) hx hb dX0_blocks_18 (by decide) ?_
    refine lv_goto (tgt := 23) hx hb dX0_blocks_19 rfl ?_
    have er : bb_I (!bb_en w k (1023 &&& bb_not (nI a))) = 1 := by simp [bb_I, h15, q15]
    exact W.zret (v := 1) hx hb hr bb_z1 (fun t ht _ => ⟨by rw [er], ht⟩) (fun _ h => nomatch h) dX0_blocks_23

set_option maxHeartbeats 4000000 in
set_option maxRecDepth 100000 in
theorem k_sets (l : Launch) (dC : Nat → ClassId) (dI : Nat → Nat → Nat) (cA : ClassId) (h0 a0 a1 a2 a3 : Nat) (w pr vo vf : Nat → Int32) (k : Int32)  : Met l yX0_sets wsX0_sets ({ frames := 3, cells := 0, slots := 0, locals := 65 }) (va_Pc [.ref h0] (bb_B (dC, dI) vwCl (bb_C h0 a0 a1 a2 a3 cA w pr vo vf k) [(cA, .int)])) (QcRead (nI (bb_cn (fun x9 => bb_en w k (nI x9)) 1024))) 0 0 (fun _ => False) := by
  refine Met.ofW (cc := cX0_sets) (maxL := 3) (ret := some .int) (by decide) rfl ?_
  intro p e s m args below meth c s₁ B hml hv
  obtain ⟨rfl, hP, hK⟩ := hv
  have hx := B.exec
  have hb := B.bytes
  have hr := B.returns
  have hts := atoms_spec (ws := wsX0_sets) B.pre
  have hown : s.vm.findClass RX0 = some m.cls := findClass_of_methodNamed B.named
  have hlocks := B.notSynchronized
  have hl := lv_entry ([.ref h0]) (n := 3) (Nat.le_of_ble_eq_true rfl)
  rw [lg_entry_eq]
  generalize (lg_sl ([.ref h0]) ++ List.replicate (3 - (lg_sl ([.ref h0])).length) Slot.unset).toArray = ls at hl ⊢
  have hl : lv_has ls 3 [(0, .ref h0)] := hl
  refine lv_iconst (v := 0) hx hb dX0_sets_0 (by decide) ?_
  refine lv_istore_n (lv' := [(1, .int 0), (0, .ref h0)]) hx hb dX0_sets_1 rfl hl (by decide) rfl (fun ls hl => ?_)
  refine lv_iconst (v := 0) hx hb dX0_sets_2 (by decide) ?_
  refine lv_istore_n (lv' := [(2, .int 0), (1, .int 0), (0, .ref h0)]) hx hb dX0_sets_3 rfl hl (by decide) rfl (fun ls hl => ?_)
  have hl : lv_has ls 3 [(0, .ref h0), (1, .int 0), (2, .int 0)] := lv_sub hl [2, 1, 0] rfl
  refine bb_forW (pc := 4) (I := fun j9 ls => lv_has ls 3 [(0, .ref h0), (1, .int (nI (bb_cn (fun x9 => bb_en w k (nI x9)) j9))), (2, .int (nI j9))]) 1024 ?_ ?_ 0 ls (Nat.zero_le _) hl
  · skip
    intro j ls hj hI ihj
    have hl := hI
    refine lv_iload_n hx hb dX0_sets_4 rfl (lv_at hl 2 rfl) ?_
    refine lv_sipush (v := nI 1024) hx hb dX0_sets_5 (by decide) ?_
    refine lv_icmp_ge (tgt := 28) hx hb dX0_sets_8 rfl (fun h8 => absurd h8 (nI_ge hj (by decide))) (fun h8 => ?_)
    have q8 := bb_lt h8
    refine lv_aload_n hx hb dX0_sets_11 rfl (lv_at hl 0 rfl) ?_
    refine lv_iload_n hx hb dX0_sets_12 rfl (lv_at hl 2 rfl) ?_
    refine bb_cV (As := [.int (nI j)]) (rest := []) (r := bb_I (bb_en w k (nI j))) 0 ⟨hx, hb, hml, hown, hts⟩ (k_isEnough l dC dI cA h0 a0 a1 a2 a3 w pr vo vf k (nI j)) (cwV 1 hts gX0_sets_X0_isEnough rfl rfl rfl (by decide +kernel) ⟨Nat.le_of_ble_eq_true rfl, Nat.le_of_ble_eq_true rfl⟩) hP hK rfl rfl rfl hl.1 rfl (Nat.le_of_ble_eq_true rfl) dX0_sets_13 (Nat.zero_le _) (Nat.zero_le _) ?_
    refine lv_if_eq (tgt := 22) hx hb dX0_sets_16 rfl (fun h16 => ?_) (fun h16 => ?_)
    · skip
      have q16 := bb_I_0.mp h16
      refine lv_iinc (v := nI (j + 1)) (lv' := [(2, .int (nI (j + 1))), (0, .ref h0), (1, .int (nI (bb_cn (fun x9 => bb_en w k (nI x9)) j)))]) hx hb dX0_sets_22 hl (k := 2) rfl (bb_inc _) (by decide) rfl (fun ls hl => ?_)
      refine lv_goto (tgt := 4) hx hb dX0_sets_25 rfl ?_
      have hl : lv_has ls 3 [(0, .ref h0), (1, .int (nI (bb_cn (fun x9 => bb_en w k (nI x9)) j))), (2, .int (nI (j + 1)))] := lv_sub hl [1, 2, 0] rfl
      have e1 : (nI (bb_cn (fun x9 => bb_en w k (nI x9)) j)) = nI (bb_cn (fun x9 => bb_en w k (nI x9)) (j + 1)) := by simp [bb_cn, h8, q8, h16, q16]
      have hl : lv_has ls 3 [(0, .ref h0), (1, .int (nI (bb_cn (fun x9 => bb_en w k (nI x9)) (j + 1)))), (2, .int (nI (j + 1)))] := by rw [← e1]; exact hl
      exact ihj ls hl
    · skip
      have q16 := bb_nz h16
      refine lv_iinc (v := nI ((bb_cn (fun x9 => bb_en w k (nI x9)) j) + 1)) (lv' := [(1, .int (nI ((bb_cn (fun x9 => bb_en w k (nI x9)) j) + 1))), (0, .ref h0), (2, .int (nI j))]) hx hb dX0_sets_19 hl (k := 1) rfl (bb_inc _) (by decide) rfl (fun ls hl => ?_)
      refine lv_iinc (v := nI (j + 1)) (lv' := [(2, .int (nI (j + 1))), (1, .int (nI ((bb_cn (fun x9 => bb_en w k (nI x9)) j) + 1))), (0, .ref h0)]) hx hb dX0_sets_22 hl (k := 2) rfl (bb_inc _) (by decide) rfl (fun ls hl => ?_)
      refine lv_goto (tgt := 4) hx hb dX0_sets_25 rfl ?_
      have hl : lv_has ls 3 [(0, .ref h0), (1, .int (nI ((bb_cn (fun x9 => bb_en w k (nI x9)) j) + 1))), (2, .int (nI (j + 1)))] := lv_sub hl [2, 1, 0] rfl
      have e2 : (nI ((bb_cn (fun x9 => bb_en w k (nI x9)) j) + 1)) = nI (bb_cn (fun x9 => bb_en w k (nI x9)) (j + 1)) := by simp [bb_cn, h8, q8, h16, q16]
      have hl : lv_has ls 3 [(0, .ref h0), (1, .int (nI (bb_cn (fun x9 => bb_en w k (nI x9)) (j + 1)))), (2, .int (nI (j + 1)))] := by rw [← e2]; exact hl
      exact ihj ls hl
  · skip
    intro ls hI
    have hl := hI
    refine lv_iload_n hx hb dX0_sets_4 rfl (lv_at hl 2 rfl) ?_
    refine lv_sipush (v := nI 1024) hx hb dX0_sets_5 (by decide) ?_
    refine lv_icmp_ge (tgt := 28) hx hb dX0_sets_8 rfl (fun h8 => ?_) (fun h8 => absurd (nI_le (Nat.le_refl _) (by decide)) h8)
    have q8 := bb_nlt h8
    refine lv_iload_n hx hb dX0_sets_28 rfl (lv_at hl 1 rfl) ?_
    exact W.iret (v := nI (bb_cn (fun x9 => bb_en w k (nI x9)) 1024)) hx hb hr (fun t ht _ => ⟨rfl, ht⟩) (fun _ h => nomatch h) dX0_sets_29

set_option maxHeartbeats 4000000 in
set_option maxRecDepth 100000 in
theorem k_least (l : Launch) (dC : Nat → ClassId) (dI : Nat → Nat → Nat) (cA : ClassId) (h0 a0 a1 a2 a3 : Nat) (w pr vo vf : Nat → Int32) (k : Int32)  : Met l yX0_least wsX0_least ({ frames := 3, cells := 0, slots := 0, locals := 65 }) (va_Pc [.ref h0] (bb_B (dC, dI) vwCl (bb_C h0 a0 a1 a2 a3 cA w pr vo vf k) [(cA, .int)])) (QcRead (bb_lc w k 1024)) 0 0 (fun _ => False) := by
  refine Met.ofW (cc := cX0_least) (maxL := 4) (ret := some .int) (by decide) rfl ?_
  intro p e s m args below meth c s₁ B hml hv
  obtain ⟨rfl, hP, hK⟩ := hv
  have hx := B.exec
  have hb := B.bytes
  have hr := B.returns
  have hts := atoms_spec (ws := wsX0_least) B.pre
  have hown : s.vm.findClass RX0 = some m.cls := findClass_of_methodNamed B.named
  have hlocks := B.notSynchronized
  have hl := lv_entry ([.ref h0]) (n := 4) (Nat.le_of_ble_eq_true rfl)
  rw [lg_entry_eq]
  generalize (lg_sl ([.ref h0]) ++ List.replicate (4 - (lg_sl ([.ref h0])).length) Slot.unset).toArray = ls at hl ⊢
  have hl : lv_has ls 4 [(0, .ref h0)] := hl
  refine lv_iconst (v := (-1)) hx hb dX0_least_0 (by decide) ?_
  refine lv_istore_n (lv' := [(1, .int (-1)), (0, .ref h0)]) hx hb dX0_least_1 rfl hl (by decide) rfl (fun ls hl => ?_)
  refine lv_iconst (v := 0) hx hb dX0_least_2 (by decide) ?_
  refine lv_istore_n (lv' := [(2, .int 0), (1, .int (-1)), (0, .ref h0)]) hx hb dX0_least_3 rfl hl (by decide) rfl (fun ls hl => ?_)
  have hl : lv_has ls 4 [(0, .ref h0), (1, .int (-1)), (2, .int 0)] := lv_sub hl [2, 1, 0] rfl
  refine bb_forW (pc := 4) (I := fun j9 ls => lv_has ls 4 [(0, .ref h0), (1, .int (bb_lc w k j9)), (2, .int (nI j9))]) 1024 ?_ ?_ 0 ls (Nat.zero_le _) hl
  · skip
    intro j ls hj hI ihj
    have hl := hI
    refine lv_iload_n hx hb dX0_least_4 rfl (lv_at hl 2 rfl) ?_
    refine lv_sipush (v := nI 1024) hx hb dX0_least_5 (by decide) ?_
    refine lv_icmp_ge (tgt := 42) hx hb dX0_least_8 rfl (fun h8 => absurd h8 (nI_ge hj (by decide))) (fun h8 => ?_)
    have q8 := bb_lt h8
    refine lv_iload_n hx hb dX0_least_11 rfl (lv_at hl 2 rfl) ?_
    refine bb_cS (As := [.int (nI j)]) (rest := []) (r := bb_bc (nI j)) ⟨hx, hb, hml, hown, hts⟩ (k_bitCount l (nI j)) (va_cwS 1 hts gX0_least_J_bitCount rfl rfl rfl (by decide +kernel) ⟨Nat.le_of_ble_eq_true rfl, Nat.le_of_ble_eq_true rfl⟩) rfl hl.1 rfl (Nat.le_of_ble_eq_true rfl) dX0_least_12 (Nat.zero_le _) (Nat.zero_le _) ?_
    refine lv_istore_n (lv' := [(3, .int (bb_bc (nI j))), (0, .ref h0), (1, .int (bb_lc w k j)), (2, .int (nI j))]) hx hb dX0_least_15 rfl hl (by decide) rfl (fun ls hl => ?_)
    refine lv_iload_n hx hb dX0_least_16 rfl (lv_at hl 2 rfl) ?_
    refine lv_iconst (v := (-1)) hx hb dX0_least_17 (by decide) ?_
    refine lv_icmp_eq (tgt := 26) hx hb dX0_least_18 rfl (fun h18 => ?_) (fun h18 => ?_)
    · skip
      refine lv_aload_n hx hb dX0_least_26 rfl (lv_at hl 1 rfl) ?_
      refine lv_iload_n hx hb dX0_least_27 rfl (lv_at hl 3 rfl) ?_
      refine bb_cV (As := [.int (nI j)]) (rest := []) (r := bb_I (bb_en w k (nI j))) 0 ⟨hx, hb, hml, hown, hts⟩ (k_isEnough l dC dI cA h0 a0 a1 a2 a3 w pr vo vf k (nI j)) (cwV 1 hts gX0_least_X0_isEnough rfl rfl rfl (by decide +kernel) ⟨Nat.le_of_ble_eq_true rfl, Nat.le_of_ble_eq_true rfl⟩) hP hK rfl rfl rfl hl.1 rfl (Nat.le_of_ble_eq_true rfl) dX0_least_28 (Nat.zero_le _) (Nat.zero_le _) ?_
      refine lv_if_eq (tgt := 36) hx hb dX0_least_31 rfl (fun h31 => ?_) (fun h31 => ?_)
      · skip
        have q31 := bb_I_0.mp h31
        refine lv_iinc (v := nI (j + 1)) (lv' := [(2, .int (nI (j + 1))), (3, .int (bb_bc (nI j))), (0, .ref h0), (1, .int (bb_lc w k j))]) hx hb dX0_least_36 hl (k := 3) rfl (bb_inc _) (by decide) rfl (fun ls hl => ?_)
        refine lv_goto (tgt := 4) hx hb dX0_least_39 rfl ?_
        have hl : lv_has ls 4 [(0, .ref h0), (1, .int (bb_lc w k j)), (2, .int (nI (j + 1)))] := lv_sub hl [2, 3, 0] rfl
        have e1 : (bb_lc w k j) = bb_lc w k (j + 1) := by simp [bb_lc, h8, q8, h18, h31, q31]
        have hl : lv_has ls 4 [(0, .ref h0), (1, .int (bb_lc w k (j + 1))), (2, .int (nI (j + 1)))] := by rw [← e1]; exact hl
        exact ihj ls hl
      · skip
        have q31 := bb_nz h31
        refine lv_iload_n hx hb dX0_least_34 rfl (lv_at hl 0 rfl) ?_
        refine lv_istore_n (lv' := [(1, .int (bb_bc (nI j))), (3, .int (bb_bc (nI j))), (0, .ref h0), (2, .int (nI j))]) hx hb dX0_least_35 rfl hl (by decide) rfl (fun ls hl => ?_)
        refine lv_iinc (v := nI (j + 1)) (lv' := [(2, .int (nI (j + 1))), (1, .int (bb_bc (nI j))), (3, .int (bb_bc (nI j))), (0, .ref h0)]) hx hb dX0_least_36 hl (k := 3) rfl (bb_inc _) (by decide) rfl (fun ls hl => ?_)
        refine lv_goto (tgt := 4) hx hb dX0_least_39 rfl ?_
        have hl : lv_has ls 4 [(0, .ref h0), (1, .int (bb_bc (nI j))), (2, .int (nI (j + 1)))] := lv_sub hl [3, 1, 0] rfl
        have e2 : (bb_bc (nI j)) = bb_lc w k (j + 1) := by simp [bb_lc, h8, q8, h18, h31, q31]
        have hl : lv_has ls 4 [(0, .ref h0), (1, .int (bb_lc w k (j + 1))), (2, .int (nI (j + 1)))] := by rw [← e2]; exact hl
        exact ihj ls hl
    · skip
      refine lv_iload_n hx hb dX0_least_21 rfl (lv_at hl 0 rfl) ?_
      refine lv_iload_n hx hb dX0_least_22 rfl (lv_at hl 2 rfl) ?_
      refine lv_icmp_ge (tgt := 36) hx hb dX0_least_23 rfl (fun h23 => ?_) (fun h23 => ?_)
      · skip
        have q23 := bb_nlt h23
        refine lv_iinc (v := nI (j + 1)) (lv' := [(2, .int (nI (j + 1))), (3, .int (bb_bc (nI j))), (0, .ref h0), (1, .int (bb_lc w k j))]) hx hb dX0_least_36 hl (k := 3) rfl (bb_inc _) (by decide) rfl (fun ls hl => ?_)
        refine lv_goto (tgt := 4) hx hb dX0_least_39 rfl ?_
        have hl : lv_has ls 4 [(0, .ref h0), (1, .int (bb_lc w k j)), (2, .int (nI (j + 1)))] := lv_sub hl [2, 3, 0] rfl
        have e3 : (bb_lc w k j) = bb_lc w k (j + 1) := by simp [bb_lc, h8, q8, h18, h23, q23]
        have hl : lv_has ls 4 [(0, .ref h0), (1, .int (bb_lc w k (j + 1))), (2, .int (nI (j + 1)))] := by rw [← e3]; exact hl
        exact ihj ls hl
      · skip
        have q23 := bb_lt h23
        refine lv_aload_n hx hb dX0_least_26 rfl (lv_at hl 1 rfl) ?_
        refine lv_iload_n hx hb dX0_least_27 rfl (lv_at hl 3 rfl) ?_
        refine bb_cV (As := [.int (nI j)]) (rest := []) (r := bb_I (bb_en w k (nI j))) 0 ⟨hx, hb, hml, hown, hts⟩ (k_isEnough l dC dI cA h0 a0 a1 a2 a3 w pr vo vf k (nI j)) (cwV 1 hts gX0_least_X0_isEnough rfl rfl rfl (by decide +kernel) ⟨Nat.le_of_ble_eq_true rfl, Nat.le_of_ble_eq_true rfl⟩) hP hK rfl rfl rfl hl.1 rfl (Nat.le_of_ble_eq_true rfl) dX0_least_28 (Nat.zero_le _) (Nat.zero_le _) ?_
        refine lv_if_eq (tgt := 36) hx hb dX0_least_31 rfl (fun h31 => ?_) (fun h31 => ?_)
        · skip
          have q31 := bb_I_0.mp h31
          refine lv_iinc (v := nI (j + 1)) (lv' := [(2, .int (nI (j + 1))), (3, .int (bb_bc (nI j))), (0, .ref h0), (1, .int (bb_lc w k j))]) hx hb dX0_least_36 hl (k := 3) rfl (bb_inc _) (by decide) rfl (fun ls hl => ?_)
          refine lv_goto (tgt := 4) hx hb dX0_least_39 rfl ?_
          have hl : lv_has ls 4 [(0, .ref h0), (1, .int (bb_lc w k j)), (2, .int (nI (j + 1)))] := lv_sub hl [2, 3, 0] rfl
          have e4 : (bb_lc w k j) = bb_lc w k (j + 1) := by simp [bb_lc, h8, q8, h18, h23, q23, h31, q31]
          have hl : lv_has ls 4 [(0, .ref h0), (1, .int (bb_lc w k (j + 1))), (2, .int (nI (j + 1)))] := by rw [← e4]; exact hl
          exact ihj ls hl
        · skip
          have q31 := bb_nz h31
          refine lv_iload_n hx hb dX0_least_34 rfl (lv_at hl 0 rfl) ?_
          refine lv_istore_n (lv' := [(1, .int (bb_bc (nI j))), (3, .int (bb_bc (nI j))), (0, .ref h0), (2, .int (nI j))]) hx hb dX0_least_35 rfl hl (by decide) rfl (fun ls hl => ?_)
          refine lv_iinc (v := nI (j + 1)) (lv' := [(2, .int (nI (j + 1))), (1, .int (bb_bc (nI j))), (3, .int (bb_bc (nI j))), (0, .ref h0)]) hx hb dX0_least_36 hl (k := 3) rfl (bb_inc _) (by decide) rfl (fun ls hl => ?_)
          refine lv_goto (tgt := 4) hx hb dX0_least_39 rfl ?_
          have hl : lv_has ls 4 [(0, .ref h0), (1, .int (bb_bc (nI j))), (2, .int (nI (j + 1)))] := lv_sub hl [3, 1, 0] rfl
          have e5 : (bb_bc (nI j)) = bb_lc w k (j + 1) := by simp [bb_lc, h8, q8, h18, h23, q23, h31, q31]
          have hl : lv_has ls 4 [(0, .ref h0), (1, .int (bb_lc w k (j + 1))), (2, .int (nI (j + 1)))] := by rw [← e5]; exact hl
          exact ihj ls hl
  · skip
    intro ls hI
    have hl := hI
    refine lv_iload_n hx hb dX0_least_4 rfl (lv_at hl 2 rfl) ?_
    refine lv_sipush (v := nI 1024) hx hb dX0_least_5 (by decide) ?_
    refine lv_icmp_ge (tgt := 42) hx hb dX0_least_8 rfl (fun h8 => ?_) (fun h8 => absurd (nI_le (Nat.le_refl _) (by decide)) h8)
    have q8 := bb_nlt h8
    refine lv_iload_n hx hb dX0_least_42 rfl (lv_at hl 1 rfl) ?_
    exact W.iret (v := bb_lc w k 1024) hx hb hr (fun t ht _ => ⟨rfl, ht⟩) (fun _ h => nomatch h) dX0_least_43

set_option maxHeartbeats 4000000 in
set_option maxRecDepth 100000 in
theorem k_meet (l : Launch) (dC : Nat → ClassId) (dI : Nat → Nat → Nat) (cA : ClassId) (h0 a0 a1 a2 a3 : Nat) (w pr vo vf : Nat → Int32) (k : Int32)  : Met l yX0_meet wsX0_meet ({ frames := 3, cells := 0, slots := 0, locals := 65 }) (va_Pc [.ref h0] (bb_B (dC, dI) vwCl (bb_C h0 a0 a1 a2 a3 cA w pr vo vf k) [(cA, .int)])) (QcRead (bb_I (bb_al (fun x9 => !(bb_en w k (nI x9) && bb_en w k (1023 &&& bb_not (nI x9)))) 1024))) 0 0 (fun _ => False) := by
  refine Met.ofW (cc := cX0_meet) (maxL := 2) (ret := some .boolean) (by decide) rfl ?_
  intro p e s m args below meth c s₁ B hml hv
  obtain ⟨rfl, hP, hK⟩ := hv
  have hx := B.exec
  have hb := B.bytes
  have hr := B.returns
  have hts := atoms_spec (ws := wsX0_meet) B.pre
  have hown : s.vm.findClass RX0 = some m.cls := findClass_of_methodNamed B.named
  have hlocks := B.notSynchronized
  have hl := lv_entry ([.ref h0]) (n := 2) (Nat.le_of_ble_eq_true rfl)
  rw [lg_entry_eq]
  generalize (lg_sl ([.ref h0]) ++ List.replicate (2 - (lg_sl ([.ref h0])).length) Slot.unset).toArray = ls at hl ⊢
  have hl : lv_has ls 2 [(0, .ref h0)] := hl
  refine lv_iconst (v := 0) hx hb dX0_meet_0 (by decide) ?_
  refine lv_istore_n (lv' := [(1, .int 0), (0, .ref h0)]) hx hb dX0_meet_1 rfl hl (by decide) rfl (fun ls hl => ?_)
  have hl : lv_has ls 2 [(0, .ref h0), (1, .int 0)] := lv_sub hl [1, 0] rfl
  refine bb_forW (pc := 2) (I := fun j9 ls => lv_has ls 2 [(0, .ref h0), (1, .int (nI j9))] ∧ bb_al (fun x9 => !(bb_en w k (nI x9) && bb_en w k (1023 &&& bb_not (nI x9)))) j9 = true) 1024 ?_ ?_ 0 ls (Nat.zero_le _) ⟨hl, rfl⟩
  · skip
    intro j ls hj hI ihj
    obtain ⟨hl, hno⟩ := hI
    refine lv_iload_n hx hb dX0_meet_2 rfl (lv_at hl 1 rfl) ?_
    refine lv_sipush (v := nI 1024) hx hb dX0_meet_3 (by decide) ?_
    refine lv_icmp_ge (tgt := 39) hx hb dX0_meet_6 rfl (fun h6 => absurd h6 (nI_ge hj (by decide))) (fun h6 => ?_)
    have q6 := bb_lt h6
    refine lv_aload_n hx hb dX0_meet_9 rfl (lv_at hl 0 rfl) ?_
    refine lv_iload_n hx hb dX0_meet_10 rfl (lv_at hl 1 rfl) ?_
    refine bb_cV (As := [.int (nI j)]) (rest := []) (r := bb_I (bb_en w k (nI j))) 0 ⟨hx, hb, hml, hown, hts⟩ (k_isEnough l dC dI cA h0 a0 a1 a2 a3 w pr vo vf k (nI j)) (cwV 1 hts gX0_meet_X0_isEnough rfl rfl rfl (by decide +kernel) ⟨Nat.le_of_ble_eq_true rfl, Nat.le_of_ble_eq_true rfl⟩) hP hK rfl rfl rfl hl.1 rfl (Nat.le_of_ble_eq_true rfl) dX0_meet_11 (Nat.zero_le _) (Nat.zero_le _) ?_
    refine lv_if_eq (tgt := 33) hx hb dX0_meet_14 rfl (fun h14 => ?_) (fun h14 => ?_)
    · skip
      have q14 := bb_I_0.mp h14
      refine lv_iinc (v := nI (j + 1)) (lv' := [(1, .int (nI (j + 1))), (0, .ref h0)]) hx hb dX0_meet_33 hl (k := 1) rfl (bb_inc _) (by decide) rfl (fun ls hl => ?_)
      refine lv_goto (tgt := 2) hx hb dX0_meet_36 rfl ?_
      have hl : lv_has ls 2 [(0, .ref h0), (1, .int (nI (j + 1)))] := lv_sub hl [1, 0] rfl
      exact ihj ls ⟨hl, by exact bb_al_step hno (by simp [h6, q6, h14, q14])⟩
    · skip
      have q14 := bb_nz h14
      refine lv_aload_n hx hb dX0_meet_17 rfl (lv_at hl 0 rfl) ?_
      refine lv_sipush (v := 1023) hx hb dX0_meet_18 (by decide) ?_
      refine lv_iload_n hx hb dX0_meet_21 rfl (lv_at hl 1 rfl) ?_
      refine lv_iconst (v := (-1)) hx hb dX0_meet_22 (by decide) ?_
      refine lv_ixor hx hb dX0_meet_23 ?_
      refine bb_topi (y := bb_not (nI j)) rfl ?_
      refine lv_iand hx hb dX0_meet_24 ?_
      refine bb_cV (As := [.int (1023 &&& (bb_not (nI j)))]) (rest := []) (r := bb_I (bb_en w k (1023 &&& (bb_not (nI j))))) 0 ⟨hx, hb, hml, hown, hts⟩ (k_isEnough l dC dI cA h0 a0 a1 a2 a3 w pr vo vf k (1023 &&& (bb_not (nI j)))) (cwV 1 hts gX0_meet_X0_isEnough rfl rfl rfl (by decide +kernel) ⟨Nat.le_of_ble_eq_true rfl, Nat.le_of_ble_eq_true rfl⟩) hP hK rfl rfl rfl hl.1 rfl (Nat.le_of_ble_eq_true rfl) dX0_meet_25 (Nat.zero_le _) (Nat.zero_le _) ?_
      refine lv_if_eq (tgt := 33) hx hb dX0_meet_28 rfl (fun h28 => ?_) (fun h28 => ?_)
      · skip
        have q28 := bb_I_0.mp h28
        refine lv_iinc (v := nI (j + 1)) (lv' := [(1, .int (nI (j + 1))), (0, .ref h0)]) hx hb dX0_meet_33 hl (k := 1) rfl (bb_inc _) (by decide) rfl (fun ls hl => ?_)
        refine lv_goto (tgt := 2) hx hb dX0_meet_36 rfl ?_
        have hl : lv_has ls 2 [(0, .ref h0), (1, .int (nI (j + 1)))] := lv_sub hl [1, 0] rfl
        exact ihj ls ⟨hl, by exact bb_al_step hno (by simp [h6, q6, h14, q14, h28, q28])⟩
      · skip
        have q28 := bb_nz h28
        refine lv_iconst (v := 0) hx hb dX0_meet_31 (by decide) ?_
        have er : bb_I (bb_al (fun x9 => !(bb_en w k (nI x9) && bb_en w k (1023 &&& bb_not (nI x9)))) 1024) = 0 := by rw [bb_al_no (j := j) (by simp [h6, q6, h14, q14, h28, q28]) hj]; rfl
        exact W.zret (v := 0) hx hb hr bb_z0 (fun t ht _ => ⟨by rw [er], ht⟩) (fun _ h => nomatch h) dX0_meet_32
  · skip
    intro ls hI
    obtain ⟨hl, hno⟩ := hI
    refine lv_iload_n hx hb dX0_meet_2 rfl (lv_at hl 1 rfl) ?_
    refine lv_sipush (v := nI 1024) hx hb dX0_meet_3 (by decide) ?_
    refine lv_icmp_ge (tgt := 39) hx hb dX0_meet_6 rfl (fun h6 => ?_) (fun h6 => absurd (nI_le (Nat.le_refl _) (by decide)) h6)
    have q6 := bb_nlt h6
    refine lv_iconst (v := 1) hx hb dX0_meet_39 (by decide) ?_
    have er : bb_I (bb_al (fun x9 => !(bb_en w k (nI x9) && bb_en w k (1023 &&& bb_not (nI x9)))) 1024) = 1 := by rw [hno]; rfl
    exact W.zret (v := 1) hx hb hr bb_z1 (fun t ht _ => ⟨by rw [er], ht⟩) (fun _ h => nomatch h) dX0_meet_40

set_option maxHeartbeats 4000000 in
set_option maxRecDepth 100000 in
theorem k_bare (l : Launch) (dC : Nat → ClassId) (dI : Nat → Nat → Nat) (cA : ClassId) (h0 a0 a1 a2 a3 : Nat) (w pr vo vf : Nat → Int32) (k : Int32)  : Met l yX0_bare wsX0_bare ({ frames := 3, cells := 0, slots := 0, locals := 66 }) (va_Pc [.ref h0] (bb_B (dC, dI) vwCl (bb_C h0 a0 a1 a2 a3 cA w pr vo vf k) [(cA, .int)])) (QcRead (nI (bb_cn (fun x9 => bb_bare w k (nI x9)) 1024))) 0 0 (fun _ => False) := by
  refine Met.ofW (cc := cX0_bare) (maxL := 3) (ret := some .int) (by decide) rfl ?_
  intro p e s m args below meth c s₁ B hml hv
  obtain ⟨rfl, hP, hK⟩ := hv
  have hx := B.exec
  have hb := B.bytes
  have hr := B.returns
  have hts := atoms_spec (ws := wsX0_bare) B.pre
  have hown : s.vm.findClass RX0 = some m.cls := findClass_of_methodNamed B.named
  have hlocks := B.notSynchronized
  have hl := lv_entry ([.ref h0]) (n := 3) (Nat.le_of_ble_eq_true rfl)
  rw [lg_entry_eq]
  generalize (lg_sl ([.ref h0]) ++ List.replicate (3 - (lg_sl ([.ref h0])).length) Slot.unset).toArray = ls at hl ⊢
  have hl : lv_has ls 3 [(0, .ref h0)] := hl
  refine lv_iconst (v := 0) hx hb dX0_bare_0 (by decide) ?_
  refine lv_istore_n (lv' := [(1, .int 0), (0, .ref h0)]) hx hb dX0_bare_1 rfl hl (by decide) rfl (fun ls hl => ?_)
  refine lv_iconst (v := 0) hx hb dX0_bare_2 (by decide) ?_
  refine lv_istore_n (lv' := [(2, .int 0), (1, .int 0), (0, .ref h0)]) hx hb dX0_bare_3 rfl hl (by decide) rfl (fun ls hl => ?_)
  have hl : lv_has ls 3 [(0, .ref h0), (1, .int 0), (2, .int 0)] := lv_sub hl [2, 1, 0] rfl
  refine bb_forW (pc := 4) (I := fun j9 ls => lv_has ls 3 [(0, .ref h0), (1, .int (nI (bb_cn (fun x9 => bb_bare w k (nI x9)) j9))), (2, .int (nI j9))]) 1024 ?_ ?_ 0 ls (Nat.zero_le _) hl
  · skip
    intro j ls hj hI ihj
    have hl := hI
    refine lv_iload_n hx hb dX0_bare_4 rfl (lv_at hl 2 rfl) ?_
    refine lv_sipush (v := nI 1024) hx hb dX0_bare_5 (by decide) ?_
    refine lv_icmp_ge (tgt := 28) hx hb dX0_bare_8 rfl (fun h8 => absurd h8 (nI_ge hj (by decide))) (fun h8 => ?_)
    have q8 := bb_lt h8
    refine lv_aload_n hx hb dX0_bare_11 rfl (lv_at hl 0 rfl) ?_
    refine lv_iload_n hx hb dX0_bare_12 rfl (lv_at hl 2 rfl) ?_
    refine bb_cV (As := [.int (nI j)]) (rest := []) (r := bb_I (bb_bare w k (nI j))) 0 ⟨hx, hb, hml, hown, hts⟩ (k_isBare l dC dI cA h0 a0 a1 a2 a3 w pr vo vf k (nI j)) (cwV 1 hts gX0_bare_X0_isBare rfl rfl rfl (by decide +kernel) ⟨Nat.le_of_ble_eq_true rfl, Nat.le_of_ble_eq_true rfl⟩) hP hK rfl rfl rfl hl.1 rfl (Nat.le_of_ble_eq_true rfl) dX0_bare_13 (Nat.zero_le _) (Nat.zero_le _) ?_
    refine lv_if_eq (tgt := 22) hx hb dX0_bare_16 rfl (fun h16 => ?_) (fun h16 => ?_)
    · skip
      have q16 := bb_I_0.mp h16
      refine lv_iinc (v := nI (j + 1)) (lv' := [(2, .int (nI (j + 1))), (0, .ref h0), (1, .int (nI (bb_cn (fun x9 => bb_bare w k (nI x9)) j)))]) hx hb dX0_bare_22 hl (k := 2) rfl (bb_inc _) (by decide) rfl (fun ls hl => ?_)
      refine lv_goto (tgt := 4) hx hb dX0_bare_25 rfl ?_
      have hl : lv_has ls 3 [(0, .ref h0), (1, .int (nI (bb_cn (fun x9 => bb_bare w k (nI x9)) j))), (2, .int (nI (j + 1)))] := lv_sub hl [1, 2, 0] rfl
      have e1 : (nI (bb_cn (fun x9 => bb_bare w k (nI x9)) j)) = nI (bb_cn (fun x9 => bb_bare w k (nI x9)) (j + 1)) := by simp [bb_cn, h8, q8, h16, q16]
      have hl : lv_has ls 3 [(0, .ref h0), (1, .int (nI (bb_cn (fun x9 => bb_bare w k (nI x9)) (j + 1)))), (2, .int (nI (j + 1)))] := by rw [← e1]; exact hl
      exact ihj ls hl
    · skip
      have q16 := bb_nz h16
      refine lv_iinc (v := nI ((bb_cn (fun x9 => bb_bare w k (nI x9)) j) + 1)) (lv' := [(1, .int (nI ((bb_cn (fun x9 => bb_bare w k (nI x9)) j) + 1))), (0, .ref h0), (2, .int (nI j))]) hx hb dX0_bare_19 hl (k := 1) rfl (bb_inc _) (by decide) rfl (fun ls hl => ?_)
      refine lv_iinc (v := nI (j + 1)) (lv' := [(2, .int (nI (j + 1))), (1, .int (nI ((bb_cn (fun x9 => bb_bare w k (nI x9)) j) + 1))), (0, .ref h0)]) hx hb dX0_bare_22 hl (k := 2) rfl (bb_inc _) (by decide) rfl (fun ls hl => ?_)
      refine lv_goto (tgt := 4) hx hb dX0_bare_25 rfl ?_
      have hl : lv_has ls 3 [(0, .ref h0), (1, .int (nI ((bb_cn (fun x9 => bb_bare w k (nI x9)) j) + 1))), (2, .int (nI (j + 1)))] := lv_sub hl [2, 1, 0] rfl
      have e2 : (nI ((bb_cn (fun x9 => bb_bare w k (nI x9)) j) + 1)) = nI (bb_cn (fun x9 => bb_bare w k (nI x9)) (j + 1)) := by simp [bb_cn, h8, q8, h16, q16]
      have hl : lv_has ls 3 [(0, .ref h0), (1, .int (nI (bb_cn (fun x9 => bb_bare w k (nI x9)) (j + 1)))), (2, .int (nI (j + 1)))] := by rw [← e2]; exact hl
      exact ihj ls hl
  · skip
    intro ls hI
    have hl := hI
    refine lv_iload_n hx hb dX0_bare_4 rfl (lv_at hl 2 rfl) ?_
    refine lv_sipush (v := nI 1024) hx hb dX0_bare_5 (by decide) ?_
    refine lv_icmp_ge (tgt := 28) hx hb dX0_bare_8 rfl (fun h8 => ?_) (fun h8 => absurd (nI_le (Nat.le_refl _) (by decide)) h8)
    have q8 := bb_nlt h8
    refine lv_iload_n hx hb dX0_bare_28 rfl (lv_at hl 1 rfl) ?_
    exact W.iret (v := nI (bb_cn (fun x9 => bb_bare w k (nI x9)) 1024)) hx hb hr (fun t ht _ => ⟨rfl, ht⟩) (fun _ h => nomatch h) dX0_bare_29

set_option maxHeartbeats 4000000 in
set_option maxRecDepth 100000 in
theorem k_about_0 (l : Launch) (dC : Nat → ClassId) (dI : Nat → Nat → Nat) (cA : ClassId) (h0 a0 a1 a2 a3 : Nat) (w pr vo vf : Nat → Int32) (k : Int32) (n : Nat) (hn0 : n < 10) : Met l yX0_about wsX0_about ({ frames := 2, cells := 0, slots := 0, locals := 44 }) (va_Pc [.ref h0, .int (nI n), .int 0] (bb_B (dC, dI) vwCl (bb_C h0 a0 a1 a2 a3 cA w pr vo vf k) [(cA, .int)])) (QcRead (w n)) 0 0 (fun _ => False) := by
  refine Met.ofW (cc := cX0_about) (maxL := 3) (ret := some .int) (by decide) rfl ?_
  intro p e s m args below meth c s₁ B hml hv
  obtain ⟨rfl, hP, hK⟩ := hv
  have hx := B.exec
  have hb := B.bytes
  have hr := B.returns
  have hts := atoms_spec (ws := wsX0_about) B.pre
  have hown : s.vm.findClass RX0 = some m.cls := findClass_of_methodNamed B.named
  have hlocks := B.notSynchronized
  have hin : ∀ w9 ∈ u_ws RX0 TX0 5, w9 ∈ wsX0_about := fun w9 h9 => List.mem_cons_of_mem _ (bb_inX0 w9 h9)
  have hf9 := hts _ (List.mem_cons_of_mem _ bb_fX0_9)
  have hf13 := hts _ (List.mem_cons_of_mem _ bb_fX0_13)
  have hl := lv_entry ([.ref h0, .int (nI n), .int 0]) (n := 3) (Nat.le_of_ble_eq_true rfl)
  rw [lg_entry_eq]
  generalize (lg_sl ([.ref h0, .int (nI n), .int 0]) ++ List.replicate (3 - (lg_sl ([.ref h0, .int (nI n), .int 0])).length) Slot.unset).toArray = ls at hl ⊢
  have hl : lv_has ls 3 [(0, .ref h0), (1, .int (nI n)), (2, .int 0)] := hl
  refine lv_iload_n hx hb dX0_about_0 rfl (lv_at hl 1 rfl) ?_
  refine bb_cSv (As := [.int (nI n)]) (rest := []) ⟨hx, hb, hml, hown, hts⟩ (k_requireNode l n (by omega)) (cwS 1 hts gX0_about_X0_requireNode rfl rfl rfl (by decide +kernel) ⟨Nat.le_of_ble_eq_true rfl, Nat.le_of_ble_eq_true rfl⟩) rfl hl.1 rfl (Nat.le_of_ble_eq_true rfl) dX0_about_1 (Nat.zero_le _) (Nat.zero_le _) ?_
  refine lv_iload_n hx hb dX0_about_4 rfl (lv_at hl 2 rfl) ?_
  refine lv_tableIn (off := 31) (tgt := 36) hx hb dX0_about_5 (by decide) (by decide) rfl rfl ?_
  refine lv_aload_n hx hb dX0_about_36 rfl (lv_at hl 0 rfl) ?_
  refine va_get (D := (dC, dI)) (ci := 0) (v := .ref a0) (C := RX0) (T := TX0) (N := 5) hx hb hts hin hown hK hP 0 rfl rfl 0 (by decide) hf9 (fun _ h9 => h9) rfl dX0_about_37 ?_
  refine lv_iload_n hx hb dX0_about_40 rfl (lv_at hl 1 rfl) ?_
  refine bb_ald hx hb hK hP 1 0 rfl rfl n (by omega) (by decide) dX0_about_41 ?_
  exact W.iret (v := w n) hx hb hr (fun t ht _ => ⟨rfl, ht⟩) (fun _ h => nomatch h) dX0_about_42

set_option maxHeartbeats 4000000 in
set_option maxRecDepth 100000 in
theorem k_about_1 (l : Launch) (dC : Nat → ClassId) (dI : Nat → Nat → Nat) (cA : ClassId) (h0 a0 a1 a2 a3 : Nat) (w pr vo vf : Nat → Int32) (k : Int32) (n : Nat) (hn0 : n < 10) : Met l yX0_about wsX0_about ({ frames := 2, cells := 0, slots := 0, locals := 44 }) (va_Pc [.ref h0, .int (nI n), .int 1] (bb_B (dC, dI) vwCl (bb_C h0 a0 a1 a2 a3 cA w pr vo vf k) [(cA, .int)])) (QcRead (pr n)) 0 0 (fun _ => False) := by
  refine Met.ofW (cc := cX0_about) (maxL := 3) (ret := some .int) (by decide) rfl ?_
  intro p e s m args below meth c s₁ B hml hv
  obtain ⟨rfl, hP, hK⟩ := hv
  have hx := B.exec
  have hb := B.bytes
  have hr := B.returns
  have hts := atoms_spec (ws := wsX0_about) B.pre
  have hown : s.vm.findClass RX0 = some m.cls := findClass_of_methodNamed B.named
  have hlocks := B.notSynchronized
  have hin : ∀ w9 ∈ u_ws RX0 TX0 5, w9 ∈ wsX0_about := fun w9 h9 => List.mem_cons_of_mem _ (bb_inX0 w9 h9)
  have hf9 := hts _ (List.mem_cons_of_mem _ bb_fX0_9)
  have hf13 := hts _ (List.mem_cons_of_mem _ bb_fX0_13)
  have hl := lv_entry ([.ref h0, .int (nI n), .int 1]) (n := 3) (Nat.le_of_ble_eq_true rfl)
  rw [lg_entry_eq]
  generalize (lg_sl ([.ref h0, .int (nI n), .int 1]) ++ List.replicate (3 - (lg_sl ([.ref h0, .int (nI n), .int 1])).length) Slot.unset).toArray = ls at hl ⊢
  have hl : lv_has ls 3 [(0, .ref h0), (1, .int (nI n)), (2, .int 1)] := hl
  refine lv_iload_n hx hb dX0_about_0 rfl (lv_at hl 1 rfl) ?_
  refine bb_cSv (As := [.int (nI n)]) (rest := []) ⟨hx, hb, hml, hown, hts⟩ (k_requireNode l n (by omega)) (cwS 1 hts gX0_about_X0_requireNode rfl rfl rfl (by decide +kernel) ⟨Nat.le_of_ble_eq_true rfl, Nat.le_of_ble_eq_true rfl⟩) rfl hl.1 rfl (Nat.le_of_ble_eq_true rfl) dX0_about_1 (Nat.zero_le _) (Nat.zero_le _) ?_
  refine lv_iload_n hx hb dX0_about_4 rfl (lv_at hl 2 rfl) ?_
  refine lv_tableIn (off := 38) (tgt := 43) hx hb dX0_about_5 (by decide) (by decide) rfl rfl ?_
  refine lv_aload_n hx hb dX0_about_43 rfl (lv_at hl 0 rfl) ?_
  refine va_get (D := (dC, dI)) (ci := 0) (v := .ref a1) (C := RX0) (T := TX0) (N := 5) hx hb hts hin hown hK hP 0 rfl rfl 1 (by decide) hf13 (fun _ h9 => h9) rfl dX0_about_44 ?_
  refine lv_iload_n hx hb dX0_about_47 rfl (lv_at hl 1 rfl) ?_
  refine bb_ald hx hb hK hP 2 0 rfl rfl n (by omega) (by decide) dX0_about_48 ?_
  exact W.iret (v := pr n) hx hb hr (fun t ht _ => ⟨rfl, ht⟩) (fun _ h => nomatch h) dX0_about_49

set_option maxHeartbeats 4000000 in
set_option maxRecDepth 100000 in
theorem k_about_2 (l : Launch) (dC : Nat → ClassId) (dI : Nat → Nat → Nat) (cA : ClassId) (h0 a0 a1 a2 a3 : Nat) (w pr vo vf : Nat → Int32) (k : Int32) (n : Nat) (hn0 : n < 10) : Met l yX0_about wsX0_about ({ frames := 2, cells := 0, slots := 0, locals := 44 }) (va_Pc [.ref h0, .int (nI n), .int 2] (bb_B (dC, dI) vwCl (bb_C h0 a0 a1 a2 a3 cA w pr vo vf k) [(cA, .int)])) (QcRead (nI (bb_cn (fun b9 => bb_hb (vo b9) n) 31))) 0 0 (fun _ => False) := by
  refine Met.ofW (cc := cX0_about) (maxL := 3) (ret := some .int) (by decide) rfl ?_
  intro p e s m args below meth c s₁ B hml hv
  obtain ⟨rfl, hP, hK⟩ := hv
  have hx := B.exec
  have hb := B.bytes
  have hr := B.returns
  have hts := atoms_spec (ws := wsX0_about) B.pre
  have hown : s.vm.findClass RX0 = some m.cls := findClass_of_methodNamed B.named
  have hlocks := B.notSynchronized
  have hin : ∀ w9 ∈ u_ws RX0 TX0 5, w9 ∈ wsX0_about := fun w9 h9 => List.mem_cons_of_mem _ (bb_inX0 w9 h9)
  have hf9 := hts _ (List.mem_cons_of_mem _ bb_fX0_9)
  have hf13 := hts _ (List.mem_cons_of_mem _ bb_fX0_13)
  have hl := lv_entry ([.ref h0, .int (nI n), .int 2]) (n := 3) (Nat.le_of_ble_eq_true rfl)
  rw [lg_entry_eq]
  generalize (lg_sl ([.ref h0, .int (nI n), .int 2]) ++ List.replicate (3 - (lg_sl ([.ref h0, .int (nI n), .int 2])).length) Slot.unset).toArray = ls at hl ⊢
  have hl : lv_has ls 3 [(0, .ref h0), (1, .int (nI n)), (2, .int 2)] := hl
  refine lv_iload_n hx hb dX0_about_0 rfl (lv_at hl 1 rfl) ?_
  refine bb_cSv (As := [.int (nI n)]) (rest := []) ⟨hx, hb, hml, hown, hts⟩ (k_requireNode l n (by omega)) (cwS 1 hts gX0_about_X0_requireNode rfl rfl rfl (by decide +kernel) ⟨Nat.le_of_ble_eq_true rfl, Nat.le_of_ble_eq_true rfl⟩) rfl hl.1 rfl (Nat.le_of_ble_eq_true rfl) dX0_about_1 (Nat.zero_le _) (Nat.zero_le _) ?_
  refine lv_iload_n hx hb dX0_about_4 rfl (lv_at hl 2 rfl) ?_
  refine lv_tableIn (off := 45) (tgt := 50) hx hb dX0_about_5 (by decide) (by decide) rfl rfl ?_
  refine lv_aload_n hx hb dX0_about_50 rfl (lv_at hl 0 rfl) ?_
  refine lv_iload_n hx hb dX0_about_51 rfl (lv_at hl 1 rfl) ?_
  refine bb_cV (As := [.int (nI n)]) (rest := []) (r := nI (bb_cn (fun b9 => bb_hb (vo b9) n) 31)) 0 ⟨hx, hb, hml, hown, hts⟩ (k_ballotsVotedIn l dC dI cA h0 a0 a1 a2 a3 w pr vo vf k n) (cwV 1 hts gX0_about_X0_ballotsVotedIn rfl rfl rfl (by decide +kernel) ⟨Nat.le_of_ble_eq_true rfl, Nat.le_of_ble_eq_true rfl⟩) hP hK rfl rfl rfl hl.1 rfl (Nat.le_of_ble_eq_true rfl) dX0_about_52 (Nat.zero_le _) (Nat.zero_le _) ?_
  exact W.iret (v := nI (bb_cn (fun b9 => bb_hb (vo b9) n) 31)) hx hb hr (fun t ht _ => ⟨rfl, ht⟩) (fun _ h => nomatch h) dX0_about_55

set_option maxHeartbeats 4000000 in
set_option maxRecDepth 100000 in
theorem k_about_3 (l : Launch) (dC : Nat → ClassId) (dI : Nat → Nat → Nat) (cA : ClassId) (h0 a0 a1 a2 a3 : Nat) (w pr vo vf : Nat → Int32) (k : Int32) (n : Nat) (hn0 : n < 10) : Met l yX0_about wsX0_about ({ frames := 2, cells := 0, slots := 0, locals := 44 }) (va_Pc [.ref h0, .int (nI n), .int 3] (bb_B (dC, dI) vwCl (bb_C h0 a0 a1 a2 a3 cA w pr vo vf k) [(cA, .int)])) (QcRead (bb_la (fun c9 => decide (vo c9 &&& (1 <<< (nI n &&& 31)) ≠ 0)) 31)) 0 0 (fun _ => False) := by
  refine Met.ofW (cc := cX0_about) (maxL := 3) (ret := some .int) (by decide) rfl ?_
  intro p e s m args below meth c s₁ B hml hv
  obtain ⟨rfl, hP, hK⟩ := hv
  have hx := B.exec
  have hb := B.bytes
  have hr := B.returns
  have hts := atoms_spec (ws := wsX0_about) B.pre
  have hown : s.vm.findClass RX0 = some m.cls := findClass_of_methodNamed B.named
  have hlocks := B.notSynchronized
  have hin : ∀ w9 ∈ u_ws RX0 TX0 5, w9 ∈ wsX0_about := fun w9 h9 => List.mem_cons_of_mem _ (bb_inX0 w9 h9)
  have hf9 := hts _ (List.mem_cons_of_mem _ bb_fX0_9)
  have hf13 := hts _ (List.mem_cons_of_mem _ bb_fX0_13)
  have hl := lv_entry ([.ref h0, .int (nI n), .int 3]) (n := 3) (Nat.le_of_ble_eq_true rfl)
  rw [lg_entry_eq]
  generalize (lg_sl ([.ref h0, .int (nI n), .int 3]) ++ List.replicate (3 - (lg_sl ([.ref h0, .int (nI n), .int 3])).length) Slot.unset).toArray = ls at hl ⊢
  have hl : lv_has ls 3 [(0, .ref h0), (1, .int (nI n)), (2, .int 3)] := hl
  refine lv_iload_n hx hb dX0_about_0 rfl (lv_at hl 1 rfl) ?_
  refine bb_cSv (As := [.int (nI n)]) (rest := []) ⟨hx, hb, hml, hown, hts⟩ (k_requireNode l n (by omega)) (cwS 1 hts gX0_about_X0_requireNode rfl rfl rfl (by decide +kernel) ⟨Nat.le_of_ble_eq_true rfl, Nat.le_of_ble_eq_true rfl⟩) rfl hl.1 rfl (Nat.le_of_ble_eq_true rfl) dX0_about_1 (Nat.zero_le _) (Nat.zero_le _) ?_
  refine lv_iload_n hx hb dX0_about_4 rfl (lv_at hl 2 rfl) ?_
  refine lv_tableIn (off := 51) (tgt := 56) hx hb dX0_about_5 (by decide) (by decide) rfl rfl ?_
  refine lv_aload_n hx hb dX0_about_56 rfl (lv_at hl 0 rfl) ?_
  refine lv_bipush (v := nI 31) hx hb dX0_about_57 (by decide) ?_
  refine lv_iconst (v := 1) hx hb dX0_about_59 (by decide) ?_
  refine lv_iload_n hx hb dX0_about_60 rfl (lv_at hl 1 rfl) ?_
  refine lv_ishl hx hb dX0_about_61 ?_
  refine bb_cV (As := [.int (nI 31), .int (1 <<< ((nI n) &&& 31))]) (rest := []) (r := bb_la (fun c9 => decide (vo c9 &&& (1 <<< ((nI n) &&& 31)) ≠ 0)) 31) 0 ⟨hx, hb, hml, hown, hts⟩ (k_lastBallotBelow l dC dI cA h0 a0 a1 a2 a3 w pr vo vf k 31 (1 <<< ((nI n) &&& 31)) (by omega)) (cwV 2 hts gX0_about_X0_lastBallotBelow rfl rfl rfl (by decide +kernel) ⟨Nat.le_of_ble_eq_true rfl, Nat.le_of_ble_eq_true rfl⟩) hP hK rfl rfl rfl hl.1 rfl (Nat.le_of_ble_eq_true rfl) dX0_about_62 (Nat.zero_le _) (Nat.zero_le _) ?_
  have er : bb_la (fun c9 => decide (vo c9 &&& (1 <<< (nI n &&& 31)) ≠ 0)) 31 = bb_la (fun c9 => decide (vo c9 &&& (1 <<< ((nI n) &&& 31)) ≠ 0)) 31 := by simp []
  exact W.iret (v := bb_la (fun c9 => decide (vo c9 &&& (1 <<< ((nI n) &&& 31)) ≠ 0)) 31) hx hb hr (fun t ht _ => ⟨by rw [er], ht⟩) (fun _ h => nomatch h) dX0_about_65

set_option maxHeartbeats 4000000 in
set_option maxRecDepth 100000 in
theorem k_count_0 (l : Launch) (dC : Nat → ClassId) (dI : Nat → Nat → Nat) (cA : ClassId) (h0 a0 a1 a2 a3 : Nat) (w pr vo vf : Nat → Int32) (k : Int32)  : Met l yX0_count wsX0_count ({ frames := 5, cells := 0, slots := 0, locals := 109 }) (va_Pc [.ref h0, .int 0] (bb_B (dC, dI) vwCl (bb_C h0 a0 a1 a2 a3 cA w pr vo vf k) [(cA, .int)])) (QcRead (k)) 0 0 (fun _ => False) := by
  refine Met.ofW (cc := cX0_count) (maxL := 2) (ret := some .int) (by decide) rfl ?_
  intro p e s m args below meth c s₁ B hml hv
  obtain ⟨rfl, hP, hK⟩ := hv
  have hx := B.exec
  have hb := B.bytes
  have hr := B.returns
  have hts := atoms_spec (ws := wsX0_count) B.pre
  have hown : s.vm.findClass RX0 = some m.cls := findClass_of_methodNamed B.named
  have hlocks := B.notSynchronized
  have hin : ∀ w9 ∈ u_ws RX0 TX0 5, w9 ∈ wsX0_count := fun w9 h9 => List.mem_cons_of_mem _ (bb_inX0 w9 h9)
  have hf22 := hts _ (List.mem_cons_of_mem _ bb_fX0_22)
  have hl := lv_entry ([.ref h0, .int 0]) (n := 2) (Nat.le_of_ble_eq_true rfl)
  rw [lg_entry_eq]
  generalize (lg_sl ([.ref h0, .int 0]) ++ List.replicate (2 - (lg_sl ([.ref h0, .int 0])).length) Slot.unset).toArray = ls at hl ⊢
  have hl : lv_has ls 2 [(0, .ref h0), (1, .int 0)] := hl
  refine lv_iload_n hx hb dX0_count_0 rfl (lv_at hl 1 rfl) ?_
  refine lv_tableIn (off := 35) (tgt := 36) hx hb dX0_count_1 (by decide) (by decide) rfl rfl ?_
  refine lv_aload_n hx hb dX0_count_36 rfl (lv_at hl 0 rfl) ?_
  refine va_get (D := (dC, dI)) (ci := 0) (v := .int k) (C := RX0) (T := TX0) (N := 5) hx hb hts hin hown hK hP 0 rfl rfl 4 (by decide) hf22 (fun _ h9 => h9) rfl dX0_count_37 ?_
  exact W.iret (v := k) hx hb hr (fun t ht _ => ⟨rfl, ht⟩) (fun _ h => nomatch h) dX0_count_40

set_option maxHeartbeats 4000000 in
set_option maxRecDepth 100000 in
theorem k_count_1 (l : Launch) (dC : Nat → ClassId) (dI : Nat → Nat → Nat) (cA : ClassId) (h0 a0 a1 a2 a3 : Nat) (w pr vo vf : Nat → Int32) (k : Int32)  : Met l yX0_count wsX0_count ({ frames := 5, cells := 0, slots := 0, locals := 109 }) (va_Pc [.ref h0, .int 1] (bb_B (dC, dI) vwCl (bb_C h0 a0 a1 a2 a3 cA w pr vo vf k) [(cA, .int)])) (QcRead (bb_ws w 1023 10)) 0 0 (fun _ => False) := by
  refine Met.ofW (cc := cX0_count) (maxL := 2) (ret := some .int) (by decide) rfl ?_
  intro p e s m args below meth c s₁ B hml hv
  obtain ⟨rfl, hP, hK⟩ := hv
  have hx := B.exec
  have hb := B.bytes
  have hr := B.returns
  have hts := atoms_spec (ws := wsX0_count) B.pre
  have hown : s.vm.findClass RX0 = some m.cls := findClass_of_methodNamed B.named
  have hlocks := B.notSynchronized
  have hin : ∀ w9 ∈ u_ws RX0 TX0 5, w9 ∈ wsX0_count := fun w9 h9 => List.mem_cons_of_mem _ (bb_inX0 w9 h9)
  have hf22 := hts _ (List.mem_cons_of_mem _ bb_fX0_22)
  have hl := lv_entry ([.ref h0, .int 1]) (n := 2) (Nat.le_of_ble_eq_true rfl)
  rw [lg_entry_eq]
  generalize (lg_sl ([.ref h0, .int 1]) ++ List.replicate (2 - (lg_sl ([.ref h0, .int 1])).length) Slot.unset).toArray = ls at hl ⊢
  have hl : lv_has ls 2 [(0, .ref h0), (1, .int 1)] := hl
  refine lv_iload_n hx hb dX0_count_0 rfl (lv_at hl 1 rfl) ?_
  refine lv_tableIn (off := 40) (tgt := 41) hx hb dX0_count_1 (by decide) (by decide) rfl rfl ?_
  refine lv_aload_n hx hb dX0_count_41 rfl (lv_at hl 0 rfl) ?_
  refine lv_sipush (v := 1023) hx hb dX0_count_42 (by decide) ?_
  refine bb_cV (As := [.int 1023]) (rest := []) (r := bb_ws w 1023 10) 0 ⟨hx, hb, hml, hown, hts⟩ (k_weightOf l dC dI cA h0 a0 a1 a2 a3 w pr vo vf k 1023) (cwV 1 hts gX0_count_X0_weightOf rfl rfl rfl (by decide +kernel) ⟨Nat.le_of_ble_eq_true rfl, Nat.le_of_ble_eq_true rfl⟩) hP hK rfl rfl rfl hl.1 rfl (Nat.le_of_ble_eq_true rfl) dX0_count_45 (Nat.zero_le _) (Nat.zero_le _) ?_
  exact W.iret (v := bb_ws w 1023 10) hx hb hr (fun t ht _ => ⟨rfl, ht⟩) (fun _ h => nomatch h) dX0_count_48

set_option maxHeartbeats 4000000 in
set_option maxRecDepth 100000 in
theorem k_count_2 (l : Launch) (dC : Nat → ClassId) (dI : Nat → Nat → Nat) (cA : ClassId) (h0 a0 a1 a2 a3 : Nat) (w pr vo vf : Nat → Int32) (k : Int32)  : Met l yX0_count wsX0_count ({ frames := 5, cells := 0, slots := 0, locals := 109 }) (va_Pc [.ref h0, .int 2] (bb_B (dC, dI) vwCl (bb_C h0 a0 a1 a2 a3 cA w pr vo vf k) [(cA, .int)])) (QcRead (bb_vs vo 31)) 0 0 (fun _ => False) := by
  refine Met.ofW (cc := cX0_count) (maxL := 2) (ret := some .int) (by decide) rfl ?_
  intro p e s m args below meth c s₁ B hml hv
  obtain ⟨rfl, hP, hK⟩ := hv
  have hx := B.exec
  have hb := B.bytes
  have hr := B.returns
  have hts := atoms_spec (ws := wsX0_count) B.pre
  have hown : s.vm.findClass RX0 = some m.cls := findClass_of_methodNamed B.named
  have hlocks := B.notSynchronized
  have hin : ∀ w9 ∈ u_ws RX0 TX0 5, w9 ∈ wsX0_count := fun w9 h9 => List.mem_cons_of_mem _ (bb_inX0 w9 h9)
  have hf22 := hts _ (List.mem_cons_of_mem _ bb_fX0_22)
  have hl := lv_entry ([.ref h0, .int 2]) (n := 2) (Nat.le_of_ble_eq_true rfl)
  rw [lg_entry_eq]
  generalize (lg_sl ([.ref h0, .int 2]) ++ List.replicate (2 - (lg_sl ([.ref h0, .int 2])).length) Slot.unset).toArray = ls at hl ⊢
  have hl : lv_has ls 2 [(0, .ref h0), (1, .int 2)] := hl
  refine lv_iload_n hx hb dX0_count_0 rfl (lv_at hl 1 rfl) ?_
  refine lv_tableIn (off := 48) (tgt := 49) hx hb dX0_count_1 (by decide) (by decide) rfl rfl ?_
  refine lv_aload_n hx hb dX0_count_49 rfl (lv_at hl 0 rfl) ?_
  refine bb_cV (As := []) (rest := []) (r := bb_vs vo 31) 0 ⟨hx, hb, hml, hown, hts⟩ (k_allVotes l dC dI cA h0 a0 a1 a2 a3 w pr vo vf k) (cwV 0 hts gX0_count_X0_allVotes rfl rfl rfl (by decide +kernel) ⟨Nat.le_of_ble_eq_true rfl, Nat.le_of_ble_eq_true rfl⟩) hP hK rfl rfl rfl hl.1 rfl (Nat.le_of_ble_eq_true rfl) dX0_count_50 (Nat.zero_le _) (Nat.zero_le _) ?_
  exact W.iret (v := bb_vs vo 31) hx hb hr (fun t ht _ => ⟨rfl, ht⟩) (fun _ h => nomatch h) dX0_count_53

set_option maxHeartbeats 4000000 in
set_option maxRecDepth 100000 in
theorem k_count_3 (l : Launch) (dC : Nat → ClassId) (dI : Nat → Nat → Nat) (cA : ClassId) (h0 a0 a1 a2 a3 : Nat) (w pr vo vf : Nat → Int32) (k : Int32)  : Met l yX0_count wsX0_count ({ frames := 5, cells := 0, slots := 0, locals := 109 }) (va_Pc [.ref h0, .int 3] (bb_B (dC, dI) vwCl (bb_C h0 a0 a1 a2 a3 cA w pr vo vf k) [(cA, .int)])) (QcRead (nI (bb_cn (fun b9 => decide (bb_cho w k vo vf b9 ≠ -1)) 31))) 0 0 (fun _ => False) := by
  refine Met.ofW (cc := cX0_count) (maxL := 2) (ret := some .int) (by decide) rfl ?_
  intro p e s m args below meth c s₁ B hml hv
  obtain ⟨rfl, hP, hK⟩ := hv
  have hx := B.exec
  have hb := B.bytes
  have hr := B.returns
  have hts := atoms_spec (ws := wsX0_count) B.pre
  have hown : s.vm.findClass RX0 = some m.cls := findClass_of_methodNamed B.named
  have hlocks := B.notSynchronized
  have hin : ∀ w9 ∈ u_ws RX0 TX0 5, w9 ∈ wsX0_count := fun w9 h9 => List.mem_cons_of_mem _ (bb_inX0 w9 h9)
  have hf22 := hts _ (List.mem_cons_of_mem _ bb_fX0_22)
  have hl := lv_entry ([.ref h0, .int 3]) (n := 2) (Nat.le_of_ble_eq_true rfl)
  rw [lg_entry_eq]
  generalize (lg_sl ([.ref h0, .int 3]) ++ List.replicate (2 - (lg_sl ([.ref h0, .int 3])).length) Slot.unset).toArray = ls at hl ⊢
  have hl : lv_has ls 2 [(0, .ref h0), (1, .int 3)] := hl
  refine lv_iload_n hx hb dX0_count_0 rfl (lv_at hl 1 rfl) ?_
  refine lv_tableIn (off := 53) (tgt := 54) hx hb dX0_count_1 (by decide) (by decide) rfl rfl ?_
  refine lv_aload_n hx hb dX0_count_54 rfl (lv_at hl 0 rfl) ?_
  refine bb_cV (As := []) (rest := []) (r := nI (bb_cn (fun b9 => decide (bb_cho w k vo vf b9 ≠ -1)) 31)) 0 ⟨hx, hb, hml, hown, hts⟩ (k_ballotsWithChosen l dC dI cA h0 a0 a1 a2 a3 w pr vo vf k) (cwV 0 hts gX0_count_X0_ballotsWithChosen rfl rfl rfl (by decide +kernel) ⟨Nat.le_of_ble_eq_true rfl, Nat.le_of_ble_eq_true rfl⟩) hP hK rfl rfl rfl hl.1 rfl (Nat.le_of_ble_eq_true rfl) dX0_count_55 (Nat.zero_le _) (Nat.zero_le _) ?_
  exact W.iret (v := nI (bb_cn (fun b9 => decide (bb_cho w k vo vf b9 ≠ -1)) 31)) hx hb hr (fun t ht _ => ⟨rfl, ht⟩) (fun _ h => nomatch h) dX0_count_58

set_option maxHeartbeats 4000000 in
set_option maxRecDepth 100000 in
theorem k_count_4 (l : Launch) (dC : Nat → ClassId) (dI : Nat → Nat → Nat) (cA : ClassId) (h0 a0 a1 a2 a3 : Nat) (w pr vo vf : Nat → Int32) (k : Int32)  : Met l yX0_count wsX0_count ({ frames := 5, cells := 0, slots := 0, locals := 109 }) (va_Pc [.ref h0, .int 4] (bb_B (dC, dI) vwCl (bb_C h0 a0 a1 a2 a3 cA w pr vo vf k) [(cA, .int)])) (QcRead (bb_bc (bb_se (bb_cho w k vo vf) 31))) 0 0 (fun _ => False) := by
  refine Met.ofW (cc := cX0_count) (maxL := 2) (ret := some .int) (by decide) rfl ?_
  intro p e s m args below meth c s₁ B hml hv
  obtain ⟨rfl, hP, hK⟩ := hv
  have hx := B.exec
  have hb := B.bytes
  have hr := B.returns
  have hts := atoms_spec (ws := wsX0_count) B.pre
  have hown : s.vm.findClass RX0 = some m.cls := findClass_of_methodNamed B.named
  have hlocks := B.notSynchronized
  have hin : ∀ w9 ∈ u_ws RX0 TX0 5, w9 ∈ wsX0_count := fun w9 h9 => List.mem_cons_of_mem _ (bb_inX0 w9 h9)
  have hf22 := hts _ (List.mem_cons_of_mem _ bb_fX0_22)
  have hl := lv_entry ([.ref h0, .int 4]) (n := 2) (Nat.le_of_ble_eq_true rfl)
  rw [lg_entry_eq]
  generalize (lg_sl ([.ref h0, .int 4]) ++ List.replicate (2 - (lg_sl ([.ref h0, .int 4])).length) Slot.unset).toArray = ls at hl ⊢
  have hl : lv_has ls 2 [(0, .ref h0), (1, .int 4)] := hl
  refine lv_iload_n hx hb dX0_count_0 rfl (lv_at hl 1 rfl) ?_
  refine lv_tableIn (off := 58) (tgt := 59) hx hb dX0_count_1 (by decide) (by decide) rfl rfl ?_
  refine lv_aload_n hx hb dX0_count_59 rfl (lv_at hl 0 rfl) ?_
  refine bb_cV (As := []) (rest := []) (r := bb_bc (bb_se (bb_cho w k vo vf) 31)) 0 ⟨hx, hb, hml, hown, hts⟩ (k_differentChosen l dC dI cA h0 a0 a1 a2 a3 w pr vo vf k) (cwV 0 hts gX0_count_X0_differentChosen rfl rfl rfl (by decide +kernel) ⟨Nat.le_of_ble_eq_true rfl, Nat.le_of_ble_eq_true rfl⟩) hP hK rfl rfl rfl hl.1 rfl (Nat.le_of_ble_eq_true rfl) dX0_count_60 (Nat.zero_le _) (Nat.zero_le _) ?_
  exact W.iret (v := bb_bc (bb_se (bb_cho w k vo vf) 31)) hx hb hr (fun t ht _ => ⟨rfl, ht⟩) (fun _ h => nomatch h) dX0_count_63

set_option maxHeartbeats 4000000 in
set_option maxRecDepth 100000 in
theorem k_count_x (l : Launch) (dC : Nat → ClassId) (dI : Nat → Nat → Nat) (cA : ClassId) (h0 a0 a1 a2 a3 : Nat) (w pr vo vf : Nat → Int32) (k : Int32) (x0 : Int32) (hbad : x0.toInt < 0 ∨ 4 < x0.toInt) : Met l yX0_count wsX0_count ({ frames := 5, cells := 0, slots := 0, locals := 109 }) (va_Pc [.ref h0, .int x0] (bb_B (dC, dI) vwCl (bb_C h0 a0 a1 a2 a3 cA w pr vo vf k) [(cA, .int)])) (QcRead ((-1))) 0 0 (fun _ => False) := by
  refine Met.ofW (cc := cX0_count) (maxL := 2) (ret := some .int) (by decide) rfl ?_
  intro p e s m args below meth c s₁ B hml hv
  obtain ⟨rfl, hP, hK⟩ := hv
  have hx := B.exec
  have hb := B.bytes
  have hr := B.returns
  have hts := atoms_spec (ws := wsX0_count) B.pre
  have hown : s.vm.findClass RX0 = some m.cls := findClass_of_methodNamed B.named
  have hlocks := B.notSynchronized
  have hin : ∀ w9 ∈ u_ws RX0 TX0 5, w9 ∈ wsX0_count := fun w9 h9 => List.mem_cons_of_mem _ (bb_inX0 w9 h9)
  have hf22 := hts _ (List.mem_cons_of_mem _ bb_fX0_22)
  have hl := lv_entry ([.ref h0, .int x0]) (n := 2) (Nat.le_of_ble_eq_true rfl)
  rw [lg_entry_eq]
  generalize (lg_sl ([.ref h0, .int x0]) ++ List.replicate (2 - (lg_sl ([.ref h0, .int x0])).length) Slot.unset).toArray = ls at hl ⊢
  have hl : lv_has ls 2 [(0, .ref h0), (1, .int x0)] := hl
  refine lv_iload_n hx hb dX0_count_0 rfl (lv_at hl 1 rfl) ?_
  refine lv_tableOut (tgt := 64) hx hb dX0_count_1 (hbad) rfl ?_
  refine lv_iconst (v := (-1)) hx hb dX0_count_64 (by decide) ?_
  exact W.iret (v := (-1)) hx hb hr (fun t ht _ => ⟨rfl, ht⟩) (fun _ h => nomatch h) dX0_count_65
end
section
set_option maxHeartbeats 4000000 in
set_option maxRecDepth 100000 in
theorem j_weight (l : Launch) (dC : Nat → ClassId) (dI : Nat → Nat → Nat) (cA : ClassId) (h0 a0 a1 a2 a3 : Nat) (w pr vo vf : Nat → Int32) (k : Int32) (sz : Nat) (n : Nat) (hn0 : n < 10) (a : Nat) (ha0 : a ≤ 50) : Met l yX0_weight wsX0_weight ({ frames := 1, cells := 0, slots := 0, locals := 20 }) (bb_Pm [.ref h0, .int (nI n), .int (nI a)] (dC, dI) vwCl [(h0, .inr (0, [.ref a0, .ref a1, .ref a2, .ref a3, .int k])), (a0, .inl (cA, 10, .inl w)), (a1, .inl (cA, 10, .inl pr)), (a2, .inl (cA, 31, .inl vo)), (a3, .inl (cA, 31, .inl vf))] [(cA, .int)] sz) (bb_Qm (w n) (dC, dI) vwCl [(h0, .inr (0, [.ref a0, .ref a1, .ref a2, .ref a3, .int k])), (a0, .inl (cA, 10, .inl (upd w n (nI a)))), (a1, .inl (cA, 10, .inl pr)), (a2, .inl (cA, 31, .inl vo)), (a3, .inl (cA, 31, .inl vf))] (va_A [(h0, .inr (0, [.ref a0, .ref a1, .ref a2, .ref a3, .int k])), (a0, .inl (cA, 10, .inl w)), (a1, .inl (cA, 10, .inl pr)), (a2, .inl (cA, 31, .inl vo)), (a3, .inl (cA, 31, .inl vf))] sz)) 0 0 (va_A [(h0, .inr (0, [.ref a0, .ref a1, .ref a2, .ref a3, .int k])), (a0, .inl (cA, 10, .inl w)), (a1, .inl (cA, 10, .inl pr)), (a2, .inl (cA, 31, .inl vo)), (a3, .inl (cA, 31, .inl vf))] sz) := by
  refine Met.ofW (cc := cX0_weight) (maxL := 4) (ret := some .int) (by decide) rfl ?_
  intro p e s m args below meth c s₁ B hml hv
  obtain ⟨rfl, hsz, hP, hK, hD0⟩ := hv
  have hx := B.exec
  have hb := B.bytes
  have hr := B.returns
  have hts := atoms_spec (ws := wsX0_weight) B.pre
  have hown : s.vm.findClass RX0 = some m.cls := findClass_of_methodNamed B.named
  have hlocks := B.notSynchronized
  subst hsz
  have hD := hD0.self (sz := s.heap.size)
  generalize hAe : va_A [(h0, .inr (0, [.ref a0, .ref a1, .ref a2, .ref a3, .int k])), (a0, .inl (cA, 10, .inl w)), (a1, .inl (cA, 10, .inl pr)), (a2, .inl (cA, 31, .inl vo)), (a3, .inl (cA, 31, .inl vf))] s.heap.size = A at hD ⊢
  have hA : ∀ q : Nat, s.heap.size ≤ q → A q := fun q h => by rw [← hAe]; exact Or.inr h
  have hin : ∀ w9 ∈ u_ws RX0 TX0 5, w9 ∈ wsX0_weight := fun w9 h9 => List.mem_cons_of_mem _ (bb_inX0 w9 h9)
  have hf9 := hts _ (List.mem_cons_of_mem _ bb_fX0_9)
  have hl := lv_entry ([.ref h0, .int (nI n), .int (nI a)]) (n := 4) (Nat.le_of_ble_eq_true rfl)
  rw [lg_entry_eq]
  generalize (lg_sl ([.ref h0, .int (nI n), .int (nI a)]) ++ List.replicate (4 - (lg_sl ([.ref h0, .int (nI n), .int (nI a)])).length) Slot.unset).toArray = ls at hl ⊢
  have hl : lv_has ls 4 [(0, .ref h0), (1, .int (nI n)), (2, .int (nI a))] := hl
  refine bb_gen hP hD (fun H locs hP hD hS => ?_)
  refine lv_iload_n hx hb dX0_weight_0 rfl (lv_at hl 1 rfl) ?_
  refine bb_cSv (As := [.int (nI n)]) (rest := []) ⟨hx, hb, hml, hown, hts⟩ (k_requireNode l n (by omega)) (cwS 1 hts gX0_weight_X0_requireNode rfl rfl rfl (by decide +kernel) ⟨Nat.le_of_ble_eq_true rfl, Nat.le_of_ble_eq_true rfl⟩) rfl hl.1 rfl (Nat.le_of_ble_eq_true rfl) dX0_weight_1 (Nat.zero_le _) (Nat.zero_le _) ?_
  refine lv_iload_n hx hb dX0_weight_4 rfl (lv_at hl 2 rfl) ?_
  refine lv_if_lt (tgt := 14) hx hb dX0_weight_5 rfl (fun h5 => absurd h5 (nI_pos (by omega))) (fun h5 => ?_)
  refine lv_iload_n hx hb dX0_weight_8 rfl (lv_at hl 2 rfl) ?_
  refine lv_bipush (v := nI 50) hx hb dX0_weight_9 (by decide) ?_
  refine lv_icmp_le (tgt := 24) hx hb dX0_weight_11 rfl (fun h11 => ?_) (fun h11 => absurd (nI_le (by omega) (by decide)) h11)
  have q11 := bb_nlt h11
  refine lv_aload_n hx hb dX0_weight_24 rfl (lv_at hl 0 rfl) ?_
  refine va_get (D := (dC, dI)) (ci := 0) (v := .ref a0) (C := RX0) (T := TX0) (N := 5) hx hb hts hin hown hK hP 0 rfl rfl 0 (by decide) hf9 (fun _ h9 => h9) rfl dX0_weight_25 ?_
  refine lv_iload_n hx hb dX0_weight_28 rfl (lv_at hl 1 rfl) ?_
  refine bb_ald hx hb hK hP 1 0 rfl rfl n (by omega) (by decide) dX0_weight_29 ?_
  refine lv_istore_n (lv' := [(3, .int (w n)), (0, .ref h0), (1, .int (nI n)), (2, .int (nI a))]) hx hb dX0_weight_30 rfl hl (by decide) rfl (fun ls hl => ?_)
  refine lv_aload_n hx hb dX0_weight_31 rfl (lv_at hl 1 rfl) ?_
  refine va_get (D := (dC, dI)) (ci := 0) (v := .ref a0) (C := RX0) (T := TX0) (N := 5) hx hb hts hin hown hK hP 0 rfl rfl 0 (by decide) hf9 (fun _ h9 => h9) rfl dX0_weight_32 ?_
  refine lv_iload_n hx hb dX0_weight_35 rfl (lv_at hl 2 rfl) ?_
  refine lv_iload_n hx hb dX0_weight_36 rfl (lv_at hl 3 rfl) ?_
  refine bb_ast hx hb hK hP hD hS 1 0 rfl rfl n (by omega) (by decide) dX0_weight_37 (fun H locs hP hD hS => ?_)
  have hP : va_P (dC, dI) vwCl [(h0, .inr (0, [.ref a0, .ref a1, .ref a2, .ref a3, .int k])), (a0, .inl (cA, 10, .inl (upd w n (nI a)))), (a1, .inl (cA, 10, .inl pr)), (a2, .inl (cA, 31, .inl vo)), (a3, .inl (cA, 31, .inl vf))] H := hP
  have hD : va_D A [(h0, .inr (0, [.ref a0, .ref a1, .ref a2, .ref a3, .int k])), (a0, .inl (cA, 10, .inl (upd w n (nI a)))), (a1, .inl (cA, 10, .inl pr)), (a2, .inl (cA, 31, .inl vo)), (a3, .inl (cA, 31, .inl vf))] := hD
  refine lv_iload_n hx hb dX0_weight_38 rfl (lv_at hl 0 rfl) ?_
  exact W.iret (v := w n) hx hb hr (fun t ht _ => ⟨⟨w n, (), rfl, rfl, by show va_P _ _ _ t.heap; rw [ht]; exact hP⟩, hS.F ht⟩) hS.2.2 dX0_weight_39

set_option maxHeartbeats 4000000 in
set_option maxRecDepth 100000 in
theorem j_need (l : Launch) (dC : Nat → ClassId) (dI : Nat → Nat → Nat) (cA : ClassId) (h0 a0 a1 a2 a3 : Nat) (w pr vo vf : Nat → Int32) (k : Int32) (sz : Nat) (a : Nat) (ha1 : 1 ≤ a) (ha0 : a ≤ 500) : Met l yX0_need wsX0_need ({ frames := 0, cells := 0, slots := 0, locals := 0 }) (bb_Pm [.ref h0, .int (nI a)] (dC, dI) vwCl [(h0, .inr (0, [.ref a0, .ref a1, .ref a2, .ref a3, .int k])), (a0, .inl (cA, 10, .inl w)), (a1, .inl (cA, 10, .inl pr)), (a2, .inl (cA, 31, .inl vo)), (a3, .inl (cA, 31, .inl vf))] [(cA, .int)] sz) (bb_Qm (k) (dC, dI) vwCl [(h0, .inr (0, [.ref a0, .ref a1, .ref a2, .ref a3, .int (nI a)])), (a0, .inl (cA, 10, .inl w)), (a1, .inl (cA, 10, .inl pr)), (a2, .inl (cA, 31, .inl vo)), (a3, .inl (cA, 31, .inl vf))] (va_A [(h0, .inr (0, [.ref a0, .ref a1, .ref a2, .ref a3, .int k])), (a0, .inl (cA, 10, .inl w)), (a1, .inl (cA, 10, .inl pr)), (a2, .inl (cA, 31, .inl vo)), (a3, .inl (cA, 31, .inl vf))] sz)) 0 0 (va_A [(h0, .inr (0, [.ref a0, .ref a1, .ref a2, .ref a3, .int k])), (a0, .inl (cA, 10, .inl w)), (a1, .inl (cA, 10, .inl pr)), (a2, .inl (cA, 31, .inl vo)), (a3, .inl (cA, 31, .inl vf))] sz) := by
  refine Met.ofW (cc := cX0_need) (maxL := 3) (ret := some .int) (by decide) rfl ?_
  intro p e s m args below meth c s₁ B hml hv
  obtain ⟨rfl, hsz, hP, hK, hD0⟩ := hv
  have hx := B.exec
  have hb := B.bytes
  have hr := B.returns
  have hts := atoms_spec (ws := wsX0_need) B.pre
  have hown : s.vm.findClass RX0 = some m.cls := findClass_of_methodNamed B.named
  have hlocks := B.notSynchronized
  subst hsz
  have hD := hD0.self (sz := s.heap.size)
  generalize hAe : va_A [(h0, .inr (0, [.ref a0, .ref a1, .ref a2, .ref a3, .int k])), (a0, .inl (cA, 10, .inl w)), (a1, .inl (cA, 10, .inl pr)), (a2, .inl (cA, 31, .inl vo)), (a3, .inl (cA, 31, .inl vf))] s.heap.size = A at hD ⊢
  have hA : ∀ q : Nat, s.heap.size ≤ q → A q := fun q h => by rw [← hAe]; exact Or.inr h
  have hin : ∀ w9 ∈ u_ws RX0 TX0 5, w9 ∈ wsX0_need := fun w9 h9 => List.mem_cons_of_mem _ (bb_inX0 w9 h9)
  have hf22 := hts _ (List.mem_cons_of_mem _ bb_fX0_22)
  have hl := lv_entry ([.ref h0, .int (nI a)]) (n := 3) (Nat.le_of_ble_eq_true rfl)
  rw [lg_entry_eq]
  generalize (lg_sl ([.ref h0, .int (nI a)]) ++ List.replicate (3 - (lg_sl ([.ref h0, .int (nI a)])).length) Slot.unset).toArray = ls at hl ⊢
  have hl : lv_has ls 3 [(0, .ref h0), (1, .int (nI a))] := hl
  refine bb_gen hP hD (fun H locs hP hD hS => ?_)
  refine lv_iload_n hx hb dX0_need_0 rfl (lv_at hl 1 rfl) ?_
  refine lv_iconst (v := nI 1) hx hb dX0_need_1 (by decide) ?_
  refine lv_icmp_lt (tgt := 12) hx hb dX0_need_2 rfl (fun h2 => absurd h2 (nI_nlt (by omega) (by omega))) (fun h2 => ?_)
  have q2 := bb_le h2
  refine lv_iload_n hx hb dX0_need_5 rfl (lv_at hl 1 rfl) ?_
  refine lv_sipush (v := nI 500) hx hb dX0_need_6 (by decide) ?_
  refine lv_icmp_le (tgt := 22) hx hb dX0_need_9 rfl (fun h9 => ?_) (fun h9 => absurd (nI_le (by omega) (by decide)) h9)
  have q9 := bb_nlt h9
  refine lv_aload_n hx hb dX0_need_22 rfl (lv_at hl 0 rfl) ?_
  refine va_get (D := (dC, dI)) (ci := 0) (v := .int k) (C := RX0) (T := TX0) (N := 5) hx hb hts hin hown hK hP 0 rfl rfl 4 (by decide) hf22 (fun _ h9 => h9) rfl dX0_need_23 ?_
  refine lv_istore_n (lv' := [(2, .int k), (0, .ref h0), (1, .int (nI a))]) hx hb dX0_need_26 rfl hl (by decide) rfl (fun ls hl => ?_)
  refine lv_aload_n hx hb dX0_need_27 rfl (lv_at hl 1 rfl) ?_
  refine lv_iload_n hx hb dX0_need_28 rfl (lv_at hl 2 rfl) ?_
  refine va_put (D := (dC, dI)) (ci := 0) (v := .int (nI a)) (ty := .int) (C := RX0) (T := TX0) (N := 5) hx hb hts hin tyX0 tyX0_ok nX0 hown hK hP hD hS 0 rfl rfl 4 (by decide) hf22 (fun _ h9 => h9) rfl (by decide +kernel) rfl rfl (Nat.le_of_ble_eq_true rfl) dX0_need_29 (fun H locs hP hD hS => ?_)
  have hP : va_P (dC, dI) vwCl [(h0, .inr (0, [.ref a0, .ref a1, .ref a2, .ref a3, .int (nI a)])), (a0, .inl (cA, 10, .inl w)), (a1, .inl (cA, 10, .inl pr)), (a2, .inl (cA, 31, .inl vo)), (a3, .inl (cA, 31, .inl vf))] H := hP
  have hD : va_D A [(h0, .inr (0, [.ref a0, .ref a1, .ref a2, .ref a3, .int (nI a)])), (a0, .inl (cA, 10, .inl w)), (a1, .inl (cA, 10, .inl pr)), (a2, .inl (cA, 31, .inl vo)), (a3, .inl (cA, 31, .inl vf))] := hD
  refine lv_iload_n hx hb dX0_need_32 rfl (lv_at hl 0 rfl) ?_
  exact W.iret (v := k) hx hb hr (fun t ht _ => ⟨⟨k, (), rfl, rfl, by show va_P _ _ _ t.heap; rw [ht]; exact hP⟩, hS.F ht⟩) hS.2.2 dX0_need_33

set_option maxHeartbeats 4000000 in
set_option maxRecDepth 100000 in
theorem j_promise (l : Launch) (dC : Nat → ClassId) (dI : Nat → Nat → Nat) (cA : ClassId) (h0 a0 a1 a2 a3 : Nat) (w pr vo vf : Nat → Int32) (k : Int32) (sz : Nat) (n : Nat) (hn0 : n < 10) (b : Nat) (hb0 : b < 31) (hp : pr n ≤ nI b) : Met l yX0_promise wsX0_promise ({ frames := 1, cells := 0, slots := 0, locals := 20 }) (bb_Pm [.ref h0, .int (nI n), .int (nI b)] (dC, dI) vwCl [(h0, .inr (0, [.ref a0, .ref a1, .ref a2, .ref a3, .int k])), (a0, .inl (cA, 10, .inl w)), (a1, .inl (cA, 10, .inl pr)), (a2, .inl (cA, 31, .inl vo)), (a3, .inl (cA, 31, .inl vf))] [(cA, .int)] sz) (bb_Qm (pr n) (dC, dI) vwCl [(h0, .inr (0, [.ref a0, .ref a1, .ref a2, .ref a3, .int k])), (a0, .inl (cA, 10, .inl w)), (a1, .inl (cA, 10, .inl (upd pr n (nI b)))), (a2, .inl (cA, 31, .inl vo)), (a3, .inl (cA, 31, .inl vf))] (va_A [(h0, .inr (0, [.ref a0, .ref a1, .ref a2, .ref a3, .int k])), (a0, .inl (cA, 10, .inl w)), (a1, .inl (cA, 10, .inl pr)), (a2, .inl (cA, 31, .inl vo)), (a3, .inl (cA, 31, .inl vf))] sz)) 0 0 (va_A [(h0, .inr (0, [.ref a0, .ref a1, .ref a2, .ref a3, .int k])), (a0, .inl (cA, 10, .inl w)), (a1, .inl (cA, 10, .inl pr)), (a2, .inl (cA, 31, .inl vo)), (a3, .inl (cA, 31, .inl vf))] sz) := by
  refine Met.ofW (cc := cX0_promise) (maxL := 4) (ret := some .int) (by decide) rfl ?_
  intro p e s m args below meth c s₁ B hml hv
  obtain ⟨rfl, hsz, hP, hK, hD0⟩ := hv
  have hx := B.exec
  have hb := B.bytes
  have hr := B.returns
  have hts := atoms_spec (ws := wsX0_promise) B.pre
  have hown : s.vm.findClass RX0 = some m.cls := findClass_of_methodNamed B.named
  have hlocks := B.notSynchronized
  subst hsz
  have hD := hD0.self (sz := s.heap.size)
  generalize hAe : va_A [(h0, .inr (0, [.ref a0, .ref a1, .ref a2, .ref a3, .int k])), (a0, .inl (cA, 10, .inl w)), (a1, .inl (cA, 10, .inl pr)), (a2, .inl (cA, 31, .inl vo)), (a3, .inl (cA, 31, .inl vf))] s.heap.size = A at hD ⊢
  have hA : ∀ q : Nat, s.heap.size ≤ q → A q := fun q h => by rw [← hAe]; exact Or.inr h
  have hin : ∀ w9 ∈ u_ws RX0 TX0 5, w9 ∈ wsX0_promise := fun w9 h9 => List.mem_cons_of_mem _ (bb_inX0 w9 h9)
  have hf13 := hts _ (List.mem_cons_of_mem _ bb_fX0_13)
  have hl := lv_entry ([.ref h0, .int (nI n), .int (nI b)]) (n := 4) (Nat.le_of_ble_eq_true rfl)
  rw [lg_entry_eq]
  generalize (lg_sl ([.ref h0, .int (nI n), .int (nI b)]) ++ List.replicate (4 - (lg_sl ([.ref h0, .int (nI n), .int (nI b)])).length) Slot.unset).toArray = ls at hl ⊢
  have hl : lv_has ls 4 [(0, .ref h0), (1, .int (nI n)), (2, .int (nI b))] := hl
  refine bb_gen hP hD (fun H locs hP hD hS => ?_)
  refine lv_iload_n hx hb dX0_promise_0 rfl (lv_at hl 1 rfl) ?_
  refine bb_cSv (As := [.int (nI n)]) (rest := []) ⟨hx, hb, hml, hown, hts⟩ (k_requireNode l n (by omega)) (cwS 1 hts gX0_promise_X0_requireNode rfl rfl rfl (by decide +kernel) ⟨Nat.le_of_ble_eq_true rfl, Nat.le_of_ble_eq_true rfl⟩) rfl hl.1 rfl (Nat.le_of_ble_eq_true rfl) dX0_promise_1 (Nat.zero_le _) (Nat.zero_le _) ?_
  refine lv_iload_n hx hb dX0_promise_4 rfl (lv_at hl 2 rfl) ?_
  refine bb_cSv (As := [.int (nI b)]) (rest := []) ⟨hx, hb, hml, hown, hts⟩ (k_requireBallot l b (by omega)) (cwS 1 hts gX0_promise_X0_requireBallot rfl rfl rfl (by decide +kernel) ⟨Nat.le_of_ble_eq_true rfl, Nat.le_of_ble_eq_true rfl⟩) rfl hl.1 rfl (Nat.le_of_ble_eq_true rfl) dX0_promise_5 (Nat.zero_le _) (Nat.zero_le _) ?_
  refine lv_aload_n hx hb dX0_promise_8 rfl (lv_at hl 0 rfl) ?_
  refine va_get (D := (dC, dI)) (ci := 0) (v := .ref a1) (C := RX0) (T := TX0) (N := 5) hx hb hts hin hown hK hP 0 rfl rfl 1 (by decide) hf13 (fun _ h9 => h9) rfl dX0_promise_9 ?_
  refine lv_iload_n hx hb dX0_promise_12 rfl (lv_at hl 1 rfl) ?_
  refine bb_ald hx hb hK hP 2 0 rfl rfl n (by omega) (by decide) dX0_promise_13 ?_
  refine lv_istore_n (lv' := [(3, .int (pr n)), (0, .ref h0), (1, .int (nI n)), (2, .int (nI b))]) hx hb dX0_promise_14 rfl hl (by decide) rfl (fun ls hl => ?_)
  refine lv_iload_n hx hb dX0_promise_15 rfl (lv_at hl 0 rfl) ?_
  refine lv_iload_n hx hb dX0_promise_16 rfl (lv_at hl 3 rfl) ?_
  refine lv_icmp_le (tgt := 30) hx hb dX0_promise_17 rfl (fun h17 => ?_) (fun h17 => absurd hp h17)
  have q17 := bb_nlt h17
  refine lv_aload_n hx hb dX0_promise_30 rfl (lv_at hl 1 rfl) ?_
  refine va_get (D := (dC, dI)) (ci := 0) (v := .ref a1) (C := RX0) (T := TX0) (N := 5) hx hb hts hin hown hK hP 0 rfl rfl 1 (by decide) hf13 (fun _ h9 => h9) rfl dX0_promise_31 ?_
  refine lv_iload_n hx hb dX0_promise_34 rfl (lv_at hl 2 rfl) ?_
  refine lv_iload_n hx hb dX0_promise_35 rfl (lv_at hl 3 rfl) ?_
  refine bb_ast hx hb hK hP hD hS 2 0 rfl rfl n (by omega) (by decide) dX0_promise_36 (fun H locs hP hD hS => ?_)
  have hP : va_P (dC, dI) vwCl [(h0, .inr (0, [.ref a0, .ref a1, .ref a2, .ref a3, .int k])), (a0, .inl (cA, 10, .inl w)), (a1, .inl (cA, 10, .inl (upd pr n (nI b)))), (a2, .inl (cA, 31, .inl vo)), (a3, .inl (cA, 31, .inl vf))] H := hP
  have hD : va_D A [(h0, .inr (0, [.ref a0, .ref a1, .ref a2, .ref a3, .int k])), (a0, .inl (cA, 10, .inl w)), (a1, .inl (cA, 10, .inl (upd pr n (nI b)))), (a2, .inl (cA, 31, .inl vo)), (a3, .inl (cA, 31, .inl vf))] := hD
  refine lv_iload_n hx hb dX0_promise_37 rfl (lv_at hl 0 rfl) ?_
  exact W.iret (v := pr n) hx hb hr (fun t ht _ => ⟨⟨pr n, (), rfl, rfl, by show va_P _ _ _ t.heap; rw [ht]; exact hP⟩, hS.F ht⟩) hS.2.2 dX0_promise_38

set_option maxHeartbeats 4000000 in
set_option maxRecDepth 100000 in
theorem j_vote (l : Launch) (dC : Nat → ClassId) (dI : Nat → Nat → Nat) (cA : ClassId) (h0 a0 a1 a2 a3 : Nat) (w pr vo vf : Nat → Int32) (k : Int32) (sz : Nat) (n : Nat) (hn0 : n < 10) (b : Nat) (hb0 : b < 31) (v : Nat) (hv0 : v < 10) (hop : bb_op pr vo b n = true) (hon : bb_only vf b (nI v) = true) : Met l yX0_vote wsX0_vote ({ frames := 2, cells := 0, slots := 0, locals := 43 }) (bb_Pm [.ref h0, .int (nI n), .int (nI b), .int (nI v)] (dC, dI) vwCl [(h0, .inr (0, [.ref a0, .ref a1, .ref a2, .ref a3, .int k])), (a0, .inl (cA, 10, .inl w)), (a1, .inl (cA, 10, .inl pr)), (a2, .inl (cA, 31, .inl vo)), (a3, .inl (cA, 31, .inl vf))] [(cA, .int)] sz) (bb_Qm (bb_bc (vo b ||| (1 <<< (nI n &&& 31)))) (dC, dI) vwCl [(h0, .inr (0, [.ref a0, .ref a1, .ref a2, .ref a3, .int k])), (a0, .inl (cA, 10, .inl w)), (a1, .inl (cA, 10, .inl (upd pr n (nI b)))), (a2, .inl (cA, 31, .inl (upd vo b (vo b ||| (1 <<< (nI n &&& 31)))))), (a3, .inl (cA, 31, .inl (upd vf b (nI v))))] (va_A [(h0, .inr (0, [.ref a0, .ref a1, .ref a2, .ref a3, .int k])), (a0, .inl (cA, 10, .inl w)), (a1, .inl (cA, 10, .inl pr)), (a2, .inl (cA, 31, .inl vo)), (a3, .inl (cA, 31, .inl vf))] sz)) 0 0 (va_A [(h0, .inr (0, [.ref a0, .ref a1, .ref a2, .ref a3, .int k])), (a0, .inl (cA, 10, .inl w)), (a1, .inl (cA, 10, .inl pr)), (a2, .inl (cA, 31, .inl vo)), (a3, .inl (cA, 31, .inl vf))] sz) := by
  refine Met.ofW (cc := cX0_vote) (maxL := 4) (ret := some .int) (by decide) rfl ?_
  intro p e s m args below meth c s₁ B hml hv
  obtain ⟨rfl, hsz, hP, hK, hD0⟩ := hv
  have hx := B.exec
  have hb := B.bytes
  have hr := B.returns
  have hts := atoms_spec (ws := wsX0_vote) B.pre
  have hown : s.vm.findClass RX0 = some m.cls := findClass_of_methodNamed B.named
  have hlocks := B.notSynchronized
  subst hsz
  have hD := hD0.self (sz := s.heap.size)
  generalize hAe : va_A [(h0, .inr (0, [.ref a0, .ref a1, .ref a2, .ref a3, .int k])), (a0, .inl (cA, 10, .inl w)), (a1, .inl (cA, 10, .inl pr)), (a2, .inl (cA, 31, .inl vo)), (a3, .inl (cA, 31, .inl vf))] s.heap.size = A at hD ⊢
  have hA : ∀ q : Nat, s.heap.size ≤ q → A q := fun q h => by rw [← hAe]; exact Or.inr h
  have hin : ∀ w9 ∈ u_ws RX0 TX0 5, w9 ∈ wsX0_vote := fun w9 h9 => List.mem_cons_of_mem _ (bb_inX0 w9 h9)
  have hf13 := hts _ (List.mem_cons_of_mem _ bb_fX0_13)
  have hf16 := hts _ (List.mem_cons_of_mem _ bb_fX0_16)
  have hf19 := hts _ (List.mem_cons_of_mem _ bb_fX0_19)
  have hl := lv_entry ([.ref h0, .int (nI n), .int (nI b), .int (nI v)]) (n := 4) (Nat.le_of_ble_eq_true rfl)
  rw [lg_entry_eq]
  generalize (lg_sl ([.ref h0, .int (nI n), .int (nI b), .int (nI v)]) ++ List.replicate (4 - (lg_sl ([.ref h0, .int (nI n), .int (nI b), .int (nI v)])).length) Slot.unset).toArray = ls at hl ⊢
  have hl : lv_has ls 4 [(0, .ref h0), (1, .int (nI n)), (2, .int (nI b)), (3, .int (nI v))] := hl
  refine bb_gen hP hD (fun H locs hP hD hS => ?_)
  refine lv_iload_n hx hb dX0_vote_0 rfl (lv_at hl 1 rfl) ?_
  refine bb_cSv (As := [.int (nI n)]) (rest := []) ⟨hx, hb, hml, hown, hts⟩ (k_requireNode l n (by omega)) (cwS 1 hts gX0_vote_X0_requireNode rfl rfl rfl (by decide +kernel) ⟨Nat.le_of_ble_eq_true rfl, Nat.le_of_ble_eq_true rfl⟩) rfl hl.1 rfl (Nat.le_of_ble_eq_true rfl) dX0_vote_1 (Nat.zero_le _) (Nat.zero_le _) ?_
  refine lv_iload_n hx hb dX0_vote_4 rfl (lv_at hl 2 rfl) ?_
  refine bb_cSv (As := [.int (nI b)]) (rest := []) ⟨hx, hb, hml, hown, hts⟩ (k_requireBallot l b (by omega)) (cwS 1 hts gX0_vote_X0_requireBallot rfl rfl rfl (by decide +kernel) ⟨Nat.le_of_ble_eq_true rfl, Nat.le_of_ble_eq_true rfl⟩) rfl hl.1 rfl (Nat.le_of_ble_eq_true rfl) dX0_vote_5 (Nat.zero_le _) (Nat.zero_le _) ?_
  refine lv_iload_n hx hb dX0_vote_8 rfl (lv_at hl 3 rfl) ?_
  refine bb_cSv (As := [.int (nI v)]) (rest := []) ⟨hx, hb, hml, hown, hts⟩ (k_requireValue l v (by omega)) (cwS 1 hts gX0_vote_X0_requireValue rfl rfl rfl (by decide +kernel) ⟨Nat.le_of_ble_eq_true rfl, Nat.le_of_ble_eq_true rfl⟩) rfl hl.1 rfl (Nat.le_of_ble_eq_true rfl) dX0_vote_9 (Nat.zero_le _) (Nat.zero_le _) ?_
  refine lv_aload_n hx hb dX0_vote_12 rfl (lv_at hl 0 rfl) ?_
  refine lv_iload_n hx hb dX0_vote_13 rfl (lv_at hl 1 rfl) ?_
  refine lv_iload_n hx hb dX0_vote_14 rfl (lv_at hl 2 rfl) ?_
  refine bb_cV (As := [.int (nI n), .int (nI b)]) (rest := []) (r := bb_I (bb_op pr vo b n)) 0 ⟨hx, hb, hml, hown, hts⟩ (k_isOpen l dC dI cA h0 a0 a1 a2 a3 w pr vo vf k n b (by omega) (by omega)) (cwV 2 hts gX0_vote_X0_isOpen rfl rfl rfl (by decide +kernel) ⟨Nat.le_of_ble_eq_true rfl, Nat.le_of_ble_eq_true rfl⟩) hP hK rfl rfl rfl hl.1 rfl (Nat.le_of_ble_eq_true rfl) dX0_vote_15 (Nat.zero_le _) (Nat.zero_le _) ?_
  refine bb_topi (y := 1) (by rw [hop]; rfl) ?_
  refine lv_if_ne (tgt := 31) hx hb dX0_vote_18 rfl (fun h18 => ?_) (fun h18 => absurd h18 (by decide))
  refine lv_aload_n hx hb dX0_vote_31 rfl (lv_at hl 0 rfl) ?_
  refine lv_iload_n hx hb dX0_vote_32 rfl (lv_at hl 2 rfl) ?_
  refine lv_iload_n hx hb dX0_vote_33 rfl (lv_at hl 3 rfl) ?_
  refine bb_cV (As := [.int (nI b), .int (nI v)]) (rest := []) (r := bb_I (bb_only vf b (nI v))) 0 ⟨hx, hb, hml, hown, hts⟩ (k_isOnlyValue l dC dI cA h0 a0 a1 a2 a3 w pr vo vf k b (nI v) (by omega)) (cwV 2 hts gX0_vote_X0_isOnlyValue rfl rfl rfl (by decide +kernel) ⟨Nat.le_of_ble_eq_true rfl, Nat.le_of_ble_eq_true rfl⟩) hP hK rfl rfl rfl hl.1 rfl (Nat.le_of_ble_eq_true rfl) dX0_vote_34 (Nat.zero_le _) (Nat.zero_le _) ?_
  refine bb_topi (y := 1) (by rw [hon]; rfl) ?_
  refine lv_if_ne (tgt := 50) hx hb dX0_vote_37 rfl (fun h37 => ?_) (fun h37 => absurd h37 (by decide))
  refine lv_aload_n hx hb dX0_vote_50 rfl (lv_at hl 0 rfl) ?_
  refine va_get (D := (dC, dI)) (ci := 0) (v := .ref a1) (C := RX0) (T := TX0) (N := 5) hx hb hts hin hown hK hP 0 rfl rfl 1 (by decide) hf13 (fun _ h9 => h9) rfl dX0_vote_51 ?_
  refine lv_iload_n hx hb dX0_vote_54 rfl (lv_at hl 1 rfl) ?_
  refine lv_iload_n hx hb dX0_vote_55 rfl (lv_at hl 2 rfl) ?_
  refine bb_ast hx hb hK hP hD hS 2 0 rfl rfl n (by omega) (by decide) dX0_vote_56 (fun H locs hP hD hS => ?_)
  have hP : va_P (dC, dI) vwCl [(h0, .inr (0, [.ref a0, .ref a1, .ref a2, .ref a3, .int k])), (a0, .inl (cA, 10, .inl w)), (a1, .inl (cA, 10, .inl (upd pr n (nI b)))), (a2, .inl (cA, 31, .inl vo)), (a3, .inl (cA, 31, .inl vf))] H := hP
  have hD : va_D A [(h0, .inr (0, [.ref a0, .ref a1, .ref a2, .ref a3, .int k])), (a0, .inl (cA, 10, .inl w)), (a1, .inl (cA, 10, .inl (upd pr n (nI b)))), (a2, .inl (cA, 31, .inl vo)), (a3, .inl (cA, 31, .inl vf))] := hD
  refine lv_aload_n hx hb dX0_vote_57 rfl (lv_at hl 0 rfl) ?_
  refine va_get (D := (dC, dI)) (ci := 0) (v := .ref a3) (C := RX0) (T := TX0) (N := 5) hx hb hts hin hown hK hP 0 rfl rfl 3 (by decide) hf19 (fun _ h9 => h9) rfl dX0_vote_58 ?_
  refine lv_iload_n hx hb dX0_vote_61 rfl (lv_at hl 2 rfl) ?_
  refine lv_iload_n hx hb dX0_vote_62 rfl (lv_at hl 3 rfl) ?_
  refine bb_ast hx hb hK hP hD hS 4 0 rfl rfl b (by omega) (by decide) dX0_vote_63 (fun H locs hP hD hS => ?_)
  have hP : va_P (dC, dI) vwCl [(h0, .inr (0, [.ref a0, .ref a1, .ref a2, .ref a3, .int k])), (a0, .inl (cA, 10, .inl w)), (a1, .inl (cA, 10, .inl (upd pr n (nI b)))), (a2, .inl (cA, 31, .inl vo)), (a3, .inl (cA, 31, .inl (upd vf b (nI v))))] H := hP
  have hD : va_D A [(h0, .inr (0, [.ref a0, .ref a1, .ref a2, .ref a3, .int k])), (a0, .inl (cA, 10, .inl w)), (a1, .inl (cA, 10, .inl (upd pr n (nI b)))), (a2, .inl (cA, 31, .inl vo)), (a3, .inl (cA, 31, .inl (upd vf b (nI v))))] := hD
  refine lv_aload_n hx hb dX0_vote_64 rfl (lv_at hl 0 rfl) ?_
  refine va_get (D := (dC, dI)) (ci := 0) (v := .ref a2) (C := RX0) (T := TX0) (N := 5) hx hb hts hin hown hK hP 0 rfl rfl 2 (by decide) hf16 (fun _ h9 => h9) rfl dX0_vote_65 ?_
  refine lv_iload_n hx hb dX0_vote_68 rfl (lv_at hl 2 rfl) ?_
  refine lv_dup2_11 hx hb dX0_vote_69 rfl rfl ?_
  refine bb_ald hx hb hK hP 3 0 rfl rfl b (by omega) (by decide) dX0_vote_70 ?_
  refine lv_iconst (v := 1) hx hb dX0_vote_71 (by decide) ?_
  refine lv_iload_n hx hb dX0_vote_72 rfl (lv_at hl 1 rfl) ?_
  refine lv_ishl hx hb dX0_vote_73 ?_
  refine lv_ior hx hb dX0_vote_74 ?_
  refine bb_ast hx hb hK hP hD hS 3 0 rfl rfl b (by omega) (by decide) dX0_vote_75 (fun H locs hP hD hS => ?_)
  have hP : va_P (dC, dI) vwCl [(h0, .inr (0, [.ref a0, .ref a1, .ref a2, .ref a3, .int k])), (a0, .inl (cA, 10, .inl w)), (a1, .inl (cA, 10, .inl (upd pr n (nI b)))), (a2, .inl (cA, 31, .inl (upd vo b ((vo b) ||| (1 <<< ((nI n) &&& 31)))))), (a3, .inl (cA, 31, .inl (upd vf b (nI v))))] H := hP
  have hD : va_D A [(h0, .inr (0, [.ref a0, .ref a1, .ref a2, .ref a3, .int k])), (a0, .inl (cA, 10, .inl w)), (a1, .inl (cA, 10, .inl (upd pr n (nI b)))), (a2, .inl (cA, 31, .inl (upd vo b ((vo b) ||| (1 <<< ((nI n) &&& 31)))))), (a3, .inl (cA, 31, .inl (upd vf b (nI v))))] := hD
  refine lv_aload_n hx hb dX0_vote_76 rfl (lv_at hl 0 rfl) ?_
  refine va_get (D := (dC, dI)) (ci := 0) (v := .ref a2) (C := RX0) (T := TX0) (N := 5) hx hb hts hin hown hK hP 0 rfl rfl 2 (by decide) hf16 (fun _ h9 => h9) rfl dX0_vote_77 ?_
  refine lv_iload_n hx hb dX0_vote_80 rfl (lv_at hl 2 rfl) ?_
  refine bb_ald hx hb hK hP 3 0 rfl rfl b (by omega) (by decide) dX0_vote_81 ?_
  refine bb_topi (y := vo b ||| (1 <<< (nI n &&& 31))) (pk_us) ?_
  refine bb_cS (As := [.int (vo b ||| (1 <<< (nI n &&& 31)))]) (rest := []) (r := bb_bc (vo b ||| (1 <<< (nI n &&& 31)))) ⟨hx, hb, hml, hown, hts⟩ (k_bitCount l (vo b ||| (1 <<< (nI n &&& 31)))) (va_cwS 1 hts gX0_vote_J_bitCount rfl rfl rfl (by decide +kernel) ⟨Nat.le_of_ble_eq_true rfl, Nat.le_of_ble_eq_true rfl⟩) rfl hl.1 rfl (Nat.le_of_ble_eq_true rfl) dX0_vote_82 (Nat.zero_le _) (Nat.zero_le _) ?_
  have e1 : upd vo b ((vo b) ||| (1 <<< ((nI n) &&& 31))) = upd vo b (vo b ||| (1 <<< (nI n &&& 31))) := by simp [h18, h37]
  have hP : va_P (dC, dI) vwCl [(h0, .inr (0, [.ref a0, .ref a1, .ref a2, .ref a3, .int k])), (a0, .inl (cA, 10, .inl w)), (a1, .inl (cA, 10, .inl (upd pr n (nI b)))), (a2, .inl (cA, 31, .inl (upd vo b (vo b ||| (1 <<< (nI n &&& 31)))))), (a3, .inl (cA, 31, .inl (upd vf b (nI v))))] H := by rw [← e1]; exact hP
  have hD : va_D A [(h0, .inr (0, [.ref a0, .ref a1, .ref a2, .ref a3, .int k])), (a0, .inl (cA, 10, .inl w)), (a1, .inl (cA, 10, .inl (upd pr n (nI b)))), (a2, .inl (cA, 31, .inl (upd vo b (vo b ||| (1 <<< (nI n &&& 31)))))), (a3, .inl (cA, 31, .inl (upd vf b (nI v))))] := by rw [← e1]; exact hD
  exact W.iret (v := bb_bc (vo b ||| (1 <<< (nI n &&& 31)))) hx hb hr (fun t ht _ => ⟨⟨bb_bc (vo b ||| (1 <<< (nI n &&& 31))), (), rfl, rfl, by show va_P _ _ _ t.heap; rw [ht]; exact hP⟩, hS.F ht⟩) hS.2.2 dX0_vote_85

set_option maxHeartbeats 4000000 in
set_option maxRecDepth 100000 in
theorem j_promiseAll (l : Launch) (dC : Nat → ClassId) (dI : Nat → Nat → Nat) (cA : ClassId) (h0 a0 a1 a2 a3 : Nat) (w pr vo vf : Nat → Int32) (k : Int32) (sz : Nat) (st x : Int32) : Met l yX0_promiseAll wsX0_promiseAll ({ frames := 1, cells := 0, slots := 0, locals := 21 }) (bb_Pm [.ref h0, .int st, .int x] (dC, dI) vwCl [(h0, .inr (0, [.ref a0, .ref a1, .ref a2, .ref a3, .int k])), (a0, .inl (cA, 10, .inl w)), (a1, .inl (cA, 10, .inl pr)), (a2, .inl (cA, 31, .inl vo)), (a3, .inl (cA, 31, .inl vf))] [(cA, .int)] sz) (bb_Qv (dC, dI) vwCl [(h0, .inr (0, [.ref a0, .ref a1, .ref a2, .ref a3, .int k])), (a0, .inl (cA, 10, .inl w)), (a1, .inl (cA, 10, .inl (bb_pal pr st x 10))), (a2, .inl (cA, 31, .inl vo)), (a3, .inl (cA, 31, .inl vf))] (va_A [(h0, .inr (0, [.ref a0, .ref a1, .ref a2, .ref a3, .int k])), (a0, .inl (cA, 10, .inl w)), (a1, .inl (cA, 10, .inl pr)), (a2, .inl (cA, 31, .inl vo)), (a3, .inl (cA, 31, .inl vf))] sz)) 0 0 (va_A [(h0, .inr (0, [.ref a0, .ref a1, .ref a2, .ref a3, .int k])), (a0, .inl (cA, 10, .inl w)), (a1, .inl (cA, 10, .inl pr)), (a2, .inl (cA, 31, .inl vo)), (a3, .inl (cA, 31, .inl vf))] sz) := by
  refine Met.ofW (cc := cX0_promiseAll) (maxL := 4) (ret := none) (by decide) rfl ?_
  intro p e s m args below meth c s₁ B hml hv
  obtain ⟨rfl, hsz, hP, hK, hD0⟩ := hv
  have hx := B.exec
  have hb := B.bytes
  have hr := B.returns
  have hts := atoms_spec (ws := wsX0_promiseAll) B.pre
  have hown : s.vm.findClass RX0 = some m.cls := findClass_of_methodNamed B.named
  have hlocks := B.notSynchronized
  subst hsz
  have hD := hD0.self (sz := s.heap.size)
  generalize hAe : va_A [(h0, .inr (0, [.ref a0, .ref a1, .ref a2, .ref a3, .int k])), (a0, .inl (cA, 10, .inl w)), (a1, .inl (cA, 10, .inl pr)), (a2, .inl (cA, 31, .inl vo)), (a3, .inl (cA, 31, .inl vf))] s.heap.size = A at hD ⊢
  have hA : ∀ q : Nat, s.heap.size ≤ q → A q := fun q h => by rw [← hAe]; exact Or.inr h
  have hin : ∀ w9 ∈ u_ws RX0 TX0 5, w9 ∈ wsX0_promiseAll := fun w9 h9 => List.mem_cons_of_mem _ (bb_inX0 w9 h9)
  have hf13 := hts _ (List.mem_cons_of_mem _ bb_fX0_13)
  have hl := lv_entry ([.ref h0, .int st, .int x]) (n := 4) (Nat.le_of_ble_eq_true rfl)
  rw [lg_entry_eq]
  generalize (lg_sl ([.ref h0, .int st, .int x]) ++ List.replicate (4 - (lg_sl ([.ref h0, .int st, .int x])).length) Slot.unset).toArray = ls at hl ⊢
  have hl : lv_has ls 4 [(0, .ref h0), (1, .int st), (2, .int x)] := hl
  refine bb_gen hP hD (fun H locs hP hD hS => ?_)
  refine lv_iconst (v := 0) hx hb dX0_promiseAll_0 (by decide) ?_
  refine lv_istore_n (lv' := [(3, .int 0), (0, .ref h0), (1, .int st), (2, .int x)]) hx hb dX0_promiseAll_1 rfl hl (by decide) rfl (fun ls hl => ?_)
  have hl : lv_has ls 4 [(0, .ref h0), (1, .int st), (2, .int x), (3, .int 0)] := lv_sub hl [1, 2, 3, 0] rfl
  refine bb_forHW (pc := 2) (I := fun j9 ls H L => lv_has ls 4 [(0, .ref h0), (1, .int st), (2, .int x), (3, .int (nI j9))] ∧ va_P (dC, dI) vwCl [(h0, .inr (0, [.ref a0, .ref a1, .ref a2, .ref a3, .int k])), (a0, .inl (cA, 10, .inl w)), (a1, .inl (cA, 10, .inl (bb_pal pr st x j9))), (a2, .inl (cA, 31, .inl vo)), (a3, .inl (cA, 31, .inl vf))] H ∧ va_D A [(h0, .inr (0, [.ref a0, .ref a1, .ref a2, .ref a3, .int k])), (a0, .inl (cA, 10, .inl w)), (a1, .inl (cA, 10, .inl (bb_pal pr st x j9))), (a2, .inl (cA, 31, .inl vo)), (a3, .inl (cA, 31, .inl vf))] ∧ va_S A s.heap H L) 10 ?_ ?_ 0 ls H locs (Nat.zero_le _) ⟨hl, hP, hD, hS⟩
  · skip
    intro j ls H locs hj hI ihj
    obtain ⟨hl, hP, hD, hS⟩ := hI
    refine lv_iload_n hx hb dX0_promiseAll_2 rfl (lv_at hl 3 rfl) ?_
    refine lv_bipush (v := nI 10) hx hb dX0_promiseAll_3 (by decide) ?_
    refine lv_icmp_ge (tgt := 29) hx hb dX0_promiseAll_5 rfl (fun h5 => absurd h5 (nI_ge hj (by decide))) (fun h5 => ?_)
    have q5 := bb_lt h5
    refine lv_iload_n hx hb dX0_promiseAll_8 rfl (lv_at hl 1 rfl) ?_
    refine lv_iload_n hx hb dX0_promiseAll_9 rfl (lv_at hl 3 rfl) ?_
    refine bb_cS (As := [.int st, .int (nI j)]) (rest := []) (r := bb_I (bb_hb st j)) ⟨hx, hb, hml, hown, hts⟩ (k_holds l st j) (cwS 2 hts gX0_promiseAll_X0_holds rfl rfl rfl (by decide +kernel) ⟨Nat.le_of_ble_eq_true rfl, Nat.le_of_ble_eq_true rfl⟩) rfl hl.1 rfl (Nat.le_of_ble_eq_true rfl) dX0_promiseAll_10 (Nat.zero_le _) (Nat.zero_le _) ?_
    refine lv_if_eq (tgt := 23) hx hb dX0_promiseAll_13 rfl (fun h13 => ?_) (fun h13 => ?_)
    · skip
      have q13 := bb_I_0.mp h13
      refine lv_iinc (v := nI (j + 1)) (lv' := [(3, .int (nI (j + 1))), (0, .ref h0), (1, .int st), (2, .int x)]) hx hb dX0_promiseAll_23 hl (k := 3) rfl (bb_inc _) (by decide) rfl (fun ls hl => ?_)
      refine lv_goto (tgt := 2) hx hb dX0_promiseAll_26 rfl ?_
      have hl : lv_has ls 4 [(0, .ref h0), (1, .int st), (2, .int x), (3, .int (nI (j + 1)))] := lv_sub hl [1, 2, 3, 0] rfl
      have e1 : bb_pal pr st x j = bb_pal pr st x (j + 1) := by simp [bb_pal, h5, q5, h13, q13]
      have hP : va_P (dC, dI) vwCl [(h0, .inr (0, [.ref a0, .ref a1, .ref a2, .ref a3, .int k])), (a0, .inl (cA, 10, .inl w)), (a1, .inl (cA, 10, .inl (bb_pal pr st x (j + 1)))), (a2, .inl (cA, 31, .inl vo)), (a3, .inl (cA, 31, .inl vf))] H := by rw [← e1]; exact hP
      have hD : va_D A [(h0, .inr (0, [.ref a0, .ref a1, .ref a2, .ref a3, .int k])), (a0, .inl (cA, 10, .inl w)), (a1, .inl (cA, 10, .inl (bb_pal pr st x (j + 1)))), (a2, .inl (cA, 31, .inl vo)), (a3, .inl (cA, 31, .inl vf))] := by rw [← e1]; exact hD
      exact ihj ls H locs ⟨hl, hP, hD, hS⟩
    · skip
      have q13 := bb_nz h13
      refine lv_aload_n hx hb dX0_promiseAll_16 rfl (lv_at hl 0 rfl) ?_
      refine va_get (D := (dC, dI)) (ci := 0) (v := .ref a1) (C := RX0) (T := TX0) (N := 5) hx hb hts hin hown hK hP 0 rfl rfl 1 (by decide) hf13 (fun _ h9 => h9) rfl dX0_promiseAll_17 ?_
      refine lv_iload_n hx hb dX0_promiseAll_20 rfl (lv_at hl 3 rfl) ?_
      refine lv_iload_n hx hb dX0_promiseAll_21 rfl (lv_at hl 2 rfl) ?_
      refine bb_ast hx hb hK hP hD hS 2 0 rfl rfl j (by omega) (by decide) dX0_promiseAll_22 (fun H locs hP hD hS => ?_)
      have hP : va_P (dC, dI) vwCl [(h0, .inr (0, [.ref a0, .ref a1, .ref a2, .ref a3, .int k])), (a0, .inl (cA, 10, .inl w)), (a1, .inl (cA, 10, .inl (upd (bb_pal pr st x j) j x))), (a2, .inl (cA, 31, .inl vo)), (a3, .inl (cA, 31, .inl vf))] H := hP
      have hD : va_D A [(h0, .inr (0, [.ref a0, .ref a1, .ref a2, .ref a3, .int k])), (a0, .inl (cA, 10, .inl w)), (a1, .inl (cA, 10, .inl (upd (bb_pal pr st x j) j x))), (a2, .inl (cA, 31, .inl vo)), (a3, .inl (cA, 31, .inl vf))] := hD
      refine lv_iinc (v := nI (j + 1)) (lv' := [(3, .int (nI (j + 1))), (0, .ref h0), (1, .int st), (2, .int x)]) hx hb dX0_promiseAll_23 hl (k := 3) rfl (bb_inc _) (by decide) rfl (fun ls hl => ?_)
      refine lv_goto (tgt := 2) hx hb dX0_promiseAll_26 rfl ?_
      have hl : lv_has ls 4 [(0, .ref h0), (1, .int st), (2, .int x), (3, .int (nI (j + 1)))] := lv_sub hl [1, 2, 3, 0] rfl
      have e2 : upd (bb_pal pr st x j) j x = bb_pal pr st x (j + 1) := by simp [bb_pal, h5, q5, h13, q13]
      have hP : va_P (dC, dI) vwCl [(h0, .inr (0, [.ref a0, .ref a1, .ref a2, .ref a3, .int k])), (a0, .inl (cA, 10, .inl w)), (a1, .inl (cA, 10, .inl (bb_pal pr st x (j + 1)))), (a2, .inl (cA, 31, .inl vo)), (a3, .inl (cA, 31, .inl vf))] H := by rw [← e2]; exact hP
      have hD : va_D A [(h0, .inr (0, [.ref a0, .ref a1, .ref a2, .ref a3, .int k])), (a0, .inl (cA, 10, .inl w)), (a1, .inl (cA, 10, .inl (bb_pal pr st x (j + 1)))), (a2, .inl (cA, 31, .inl vo)), (a3, .inl (cA, 31, .inl vf))] := by rw [← e2]; exact hD
      exact ihj ls H locs ⟨hl, hP, hD, hS⟩
  · skip
    intro ls H locs hI
    obtain ⟨hl, hP, hD, hS⟩ := hI
    refine lv_iload_n hx hb dX0_promiseAll_2 rfl (lv_at hl 3 rfl) ?_
    refine lv_bipush (v := nI 10) hx hb dX0_promiseAll_3 (by decide) ?_
    refine lv_icmp_ge (tgt := 29) hx hb dX0_promiseAll_5 rfl (fun h5 => ?_) (fun h5 => absurd (nI_le (Nat.le_refl _) (by decide)) h5)
    have q5 := bb_nlt h5
    exact W.vret hx hb hr (fun t ht _ => ⟨⟨(), rfl, trivial, by show va_P _ _ _ t.heap; rw [ht]; exact hP⟩, hS.F ht⟩) hS.2.2 dX0_promiseAll_29

set_option maxHeartbeats 4000000 in
set_option maxRecDepth 100000 in
theorem j_ask (l : Launch) (dC : Nat → ClassId) (dI : Nat → Nat → Nat) (cA : ClassId) (h0 a0 a1 a2 a3 : Nat) (w pr vo vf : Nat → Int32) (k : Int32) (sz : Nat) (a : Nat) (ha0 : a < 1024) (b : Nat) (hb0 : b < 31) (hen : bb_en w k (nI a) = true) (hle : bb_hm pr (nI a) 10 ≤ nI b) : Met l yX0_ask wsX0_ask ({ frames := 3, cells := 0, slots := 0, locals := 65 }) (bb_Pm [.ref h0, .int (nI a), .int (nI b)] (dC, dI) vwCl [(h0, .inr (0, [.ref a0, .ref a1, .ref a2, .ref a3, .int k])), (a0, .inl (cA, 10, .inl w)), (a1, .inl (cA, 10, .inl pr)), (a2, .inl (cA, 31, .inl vo)), (a3, .inl (cA, 31, .inl vf))] [(cA, .int)] sz) (bb_Qm (bb_ask vo vf (nI a) b) (dC, dI) vwCl [(h0, .inr (0, [.ref a0, .ref a1, .ref a2, .ref a3, .int k])), (a0, .inl (cA, 10, .inl w)), (a1, .inl (cA, 10, .inl (bb_pal pr (nI a) (nI b) 10))), (a2, .inl (cA, 31, .inl vo)), (a3, .inl (cA, 31, .inl vf))] (va_A [(h0, .inr (0, [.ref a0, .ref a1, .ref a2, .ref a3, .int k])), (a0, .inl (cA, 10, .inl w)), (a1, .inl (cA, 10, .inl pr)), (a2, .inl (cA, 31, .inl vo)), (a3, .inl (cA, 31, .inl vf))] sz)) 0 0 (va_A [(h0, .inr (0, [.ref a0, .ref a1, .ref a2, .ref a3, .int k])), (a0, .inl (cA, 10, .inl w)), (a1, .inl (cA, 10, .inl pr)), (a2, .inl (cA, 31, .inl vo)), (a3, .inl (cA, 31, .inl vf))] sz) := by
  refine Met.ofW (cc := cX0_ask) (maxL := 4) (ret := some .int) (by decide) rfl ?_
  intro p e s m args below meth c s₁ B hml hv
  obtain ⟨rfl, hsz, hP, hK, hD0⟩ := hv
  have hx := B.exec
  have hb := B.bytes
  have hr := B.returns
  have hts := atoms_spec (ws := wsX0_ask) B.pre
  have hown : s.vm.findClass RX0 = some m.cls := findClass_of_methodNamed B.named
  have hlocks := B.notSynchronized
  subst hsz
  have hD := hD0.self (sz := s.heap.size)
  generalize hAe : va_A [(h0, .inr (0, [.ref a0, .ref a1, .ref a2, .ref a3, .int k])), (a0, .inl (cA, 10, .inl w)), (a1, .inl (cA, 10, .inl pr)), (a2, .inl (cA, 31, .inl vo)), (a3, .inl (cA, 31, .inl vf))] s.heap.size = A at hD ⊢
  have hA : ∀ q : Nat, s.heap.size ≤ q → A q := fun q h => by rw [← hAe]; exact Or.inr h
  have hin : ∀ w9 ∈ u_ws RX0 TX0 5, w9 ∈ wsX0_ask := fun w9 h9 => List.mem_cons_of_mem _ (bb_inX0 w9 h9)
  have hf19 := hts _ (List.mem_cons_of_mem _ bb_fX0_19)
  have hl := lv_entry ([.ref h0, .int (nI a), .int (nI b)]) (n := 4) (Nat.le_of_ble_eq_true rfl)
  rw [lg_entry_eq]
  generalize (lg_sl ([.ref h0, .int (nI a), .int (nI b)]) ++ List.replicate (4 - (lg_sl ([.ref h0, .int (nI a), .int (nI b)])).length) Slot.unset).toArray = ls at hl ⊢
  have hl : lv_has ls 4 [(0, .ref h0), (1, .int (nI a)), (2, .int (nI b))] := hl
  refine bb_gen hP hD (fun H locs hP hD hS => ?_)
  refine lv_iload_n hx hb dX0_ask_0 rfl (lv_at hl 1 rfl) ?_
  refine bb_cSv (As := [.int (nI a)]) (rest := []) ⟨hx, hb, hml, hown, hts⟩ (k_requireSet l a (by omega)) (cwS 1 hts gX0_ask_X0_requireSet rfl rfl rfl (by decide +kernel) ⟨Nat.le_of_ble_eq_true rfl, Nat.le_of_ble_eq_true rfl⟩) rfl hl.1 rfl (Nat.le_of_ble_eq_true rfl) dX0_ask_1 (Nat.zero_le _) (Nat.zero_le _) ?_
  refine lv_iload_n hx hb dX0_ask_4 rfl (lv_at hl 2 rfl) ?_
  refine bb_cSv (As := [.int (nI b)]) (rest := []) ⟨hx, hb, hml, hown, hts⟩ (k_requireBallot l b (by omega)) (cwS 1 hts gX0_ask_X0_requireBallot rfl rfl rfl (by decide +kernel) ⟨Nat.le_of_ble_eq_true rfl, Nat.le_of_ble_eq_true rfl⟩) rfl hl.1 rfl (Nat.le_of_ble_eq_true rfl) dX0_ask_5 (Nat.zero_le _) (Nat.zero_le _) ?_
  refine lv_aload_n hx hb dX0_ask_8 rfl (lv_at hl 0 rfl) ?_
  refine lv_iload_n hx hb dX0_ask_9 rfl (lv_at hl 1 rfl) ?_
  refine bb_cV (As := [.int (nI a)]) (rest := []) (r := bb_I (bb_en w k (nI a))) 0 ⟨hx, hb, hml, hown, hts⟩ (k_isEnough l dC dI cA h0 a0 a1 a2 a3 w pr vo vf k (nI a)) (cwV 1 hts gX0_ask_X0_isEnough rfl rfl rfl (by decide +kernel) ⟨Nat.le_of_ble_eq_true rfl, Nat.le_of_ble_eq_true rfl⟩) hP hK rfl rfl rfl hl.1 rfl (Nat.le_of_ble_eq_true rfl) dX0_ask_10 (Nat.zero_le _) (Nat.zero_le _) ?_
  refine bb_topi (y := 1) (by rw [hen]; rfl) ?_
  refine lv_if_ne (tgt := 26) hx hb dX0_ask_13 rfl (fun h13 => ?_) (fun h13 => absurd h13 (by decide))
  refine lv_aload_n hx hb dX0_ask_26 rfl (lv_at hl 0 rfl) ?_
  refine lv_iload_n hx hb dX0_ask_27 rfl (lv_at hl 1 rfl) ?_
  refine bb_cV (As := [.int (nI a)]) (rest := []) (r := bb_hm pr (nI a) 10) 0 ⟨hx, hb, hml, hown, hts⟩ (k_highestPromise l dC dI cA h0 a0 a1 a2 a3 w pr vo vf k (nI a)) (cwV 1 hts gX0_ask_X0_highestPromise rfl rfl rfl (by decide +kernel) ⟨Nat.le_of_ble_eq_true rfl, Nat.le_of_ble_eq_true rfl⟩) hP hK rfl rfl rfl hl.1 rfl (Nat.le_of_ble_eq_true rfl) dX0_ask_28 (Nat.zero_le _) (Nat.zero_le _) ?_
  refine lv_iload_n hx hb dX0_ask_31 rfl (lv_at hl 2 rfl) ?_
  refine lv_icmp_le (tgt := 45) hx hb dX0_ask_32 rfl (fun h32 => ?_) (fun h32 => absurd hle h32)
  have q32 := bb_nlt h32
  refine lv_aload_n hx hb dX0_ask_45 rfl (lv_at hl 0 rfl) ?_
  refine lv_iload_n hx hb dX0_ask_46 rfl (lv_at hl 1 rfl) ?_
  refine lv_iload_n hx hb dX0_ask_47 rfl (lv_at hl 2 rfl) ?_
  refine bb_cVmv (As := [.int (nI a), .int (nI b)]) (rest := []) (wd' := [(h0, .inr (0, [.ref a0, .ref a1, .ref a2, .ref a3, .int k])), (a0, .inl (cA, 10, .inl w)), (a1, .inl (cA, 10, .inl (bb_pal pr (nI a) (nI b) 10))), (a2, .inl (cA, 31, .inl vo)), (a3, .inl (cA, 31, .inl vf))]) 0 ⟨hx, hb, hml, hown, hts⟩ (j_promiseAll l dC dI cA h0 a0 a1 a2 a3 w pr vo vf k H.size (nI a) (nI b)) (cwV 2 hts gX0_ask_X0_promiseAll rfl rfl rfl (by decide +kernel) ⟨Nat.le_of_ble_eq_true rfl, Nat.le_of_ble_eq_true rfl⟩) hP hK hD hS hA rfl rfl rfl rfl hl.1 rfl (Nat.le_of_ble_eq_true rfl) dX0_ask_48 (Nat.zero_le _) (Nat.zero_le _) (fun H locs hP hD hS => ?_)
  have hP : va_P (dC, dI) vwCl [(h0, .inr (0, [.ref a0, .ref a1, .ref a2, .ref a3, .int k])), (a0, .inl (cA, 10, .inl w)), (a1, .inl (cA, 10, .inl (bb_pal pr (nI a) (nI b) 10))), (a2, .inl (cA, 31, .inl vo)), (a3, .inl (cA, 31, .inl vf))] H := hP
  have hD : va_D A [(h0, .inr (0, [.ref a0, .ref a1, .ref a2, .ref a3, .int k])), (a0, .inl (cA, 10, .inl w)), (a1, .inl (cA, 10, .inl (bb_pal pr (nI a) (nI b) 10))), (a2, .inl (cA, 31, .inl vo)), (a3, .inl (cA, 31, .inl vf))] := hD
  refine lv_aload_n hx hb dX0_ask_51 rfl (lv_at hl 0 rfl) ?_
  refine lv_iload_n hx hb dX0_ask_52 rfl (lv_at hl 2 rfl) ?_
  refine lv_iload_n hx hb dX0_ask_53 rfl (lv_at hl 1 rfl) ?_
  refine bb_cV (As := [.int (nI b), .int (nI a)]) (rest := []) (r := bb_la (fun c9 => decide (vo c9 &&& (nI a) ≠ 0)) b) 0 ⟨hx, hb, hml, hown, hts⟩ (k_lastBallotBelow l dC dI cA h0 a0 a1 a2 a3 w (bb_pal pr (nI a) (nI b) 10) vo vf k b (nI a) (by omega)) (cwV 2 hts gX0_ask_X0_lastBallotBelow rfl rfl rfl (by decide +kernel) ⟨Nat.le_of_ble_eq_true rfl, Nat.le_of_ble_eq_true rfl⟩) hP hK rfl rfl rfl hl.1 rfl (Nat.le_of_ble_eq_true rfl) dX0_ask_54 (Nat.zero_le _) (Nat.zero_le _) ?_
  refine lv_istore_n (lv' := [(3, .int (bb_la (fun c9 => decide (vo c9 &&& (nI a) ≠ 0)) b)), (0, .ref h0), (1, .int (nI a)), (2, .int (nI b))]) hx hb dX0_ask_57 rfl hl (by decide) rfl (fun ls hl => ?_)
  refine lv_iload_n hx hb dX0_ask_58 rfl (lv_at hl 0 rfl) ?_
  refine lv_iconst (v := (-1)) hx hb dX0_ask_59 (by decide) ?_
  refine lv_icmp_ne (tgt := 67) hx hb dX0_ask_60 rfl (fun h60 => ?_) (fun h60 => ?_)
  · skip
    obtain ⟨c9, hc9, ec9⟩ := bb_la_in h60
    refine lv_aload_n hx hb dX0_ask_67 rfl (lv_at hl 1 rfl) ?_
    refine va_get (D := (dC, dI)) (ci := 0) (v := .ref a3) (C := RX0) (T := TX0) (N := 5) hx hb hts hin hown hK hP 0 rfl rfl 3 (by decide) hf19 (fun _ h9 => h9) rfl dX0_ask_68 ?_
    refine lv_iload_n hx hb dX0_ask_71 rfl (lv_at hl 0 rfl) ?_
    refine bb_topi (y := nI c9) (ec9) ?_
    refine bb_ald hx hb hK hP 4 0 rfl rfl c9 (by omega) (by decide) dX0_ask_72 ?_
    have er : vf c9 = bb_ask vo vf (nI a) b := by unfold bb_ask; rw [ec9, if_neg (bb_m1 (by omega)), nI_clamp (by omega)]
    exact W.iret (v := vf c9) hx hb hr (fun t ht _ => ⟨⟨vf c9, (), rfl, er, by show va_P _ _ _ t.heap; rw [ht]; exact hP⟩, hS.F ht⟩) hS.2.2 dX0_ask_73
  · skip
    refine lv_iconst (v := (-1)) hx hb dX0_ask_63 (by decide) ?_
    refine lv_goto (tgt := 73) hx hb dX0_ask_64 rfl ?_
    have er : (-1) = bb_ask vo vf (nI a) b := by unfold bb_ask; rw [if_pos h60]
    exact W.iret (v := (-1)) hx hb hr (fun t ht _ => ⟨⟨(-1), (), rfl, er, by show va_P _ _ _ t.heap; rw [ht]; exact hP⟩, hS.F ht⟩) hS.2.2 dX0_ask_73
end
section
/-! the class's methods where they throw -/
def bb_Pt (av : List Value) (D : va_G) (cl : List vw_C) (wd : va_W) (tys : List (ClassId × FieldType)) (Bd : Nat) : Array Value → State → Prop := va_Pc av (fun U => bb_B D cl wd tys U ∧ bb_TS Bd U)
theorem bb_Ptb {av : List Value} {D : va_G} {cl : List vw_C} {wd : va_W} {tys : List (ClassId × FieldType)} {Bd : Nat} : FrameBlind (bb_Pt av D cl wd tys Bd) :=
  fun a U g mk q => ⟨q.1, ⟨q.2.1.1, va_K.moved (u := U) (U := U.calling g mk a) (Vm.Alike.refl U.vm) q.2.1.2⟩, bb_TS.same (u := U) (U := U.calling g mk a) rfl rfl q.2.2⟩
theorem bb_TSb {av : List Value} {Bd : Nat} : FrameBlind (va_Pc av (bb_TS Bd)) := fun a U g mk q => ⟨q.1, bb_TS.same (u := U) (U := U.calling g mk a) rfl rfl q.2⟩
theorem bb_noH {t : Array ExceptionTableEntry} (h : t.isEmpty = true) : t.toList = [] := by
  rw [Array.isEmpty_iff] at h
  rw [h]

set_option maxHeartbeats 4000000 in
set_option maxRecDepth 100000 in
theorem t_requireNode (l : Launch) (htr : l.stackTraces = false) (Bd : Nat)  (x : Int32) (hbad : bb_out x (nI 10) = true) : bb_MT l yX0_requireNode wsX0_requireNode ({ frames := 6, cells := 1, slots := 6, locals := 90 }) (va_Pc [.int x] (bb_TS Bd)) NSE := by
  refine bb_MT_of (cc := cX0_requireNode) (maxL := 1) (ret := none) (by decide) rfl ?_
  intro p e s m args below meth c s₁ B hml hv
  obtain ⟨rfl, hZ⟩ := hv
  have hx := B.exec
  have hb := B.bytes
  have hts := atoms_spec (ws := wsX0_requireNode) B.pre
  have hout : c.exceptionTable.toList = [] := bb_noH (B.noHandlers (hts _ List.mem_cons_self))
  have hown : s.vm.findClass RX0 = some m.cls := findClass_of_methodNamed B.named
  have hlocks := B.notSynchronized
  have hl := lv_entry ([.int x]) (n := 1) (Nat.le_of_ble_eq_true rfl)
  rw [lg_entry_eq]
  generalize (lg_sl ([.int x]) ++ List.replicate (1 - (lg_sl ([.int x])).length) Slot.unset).toArray = ls at hl ⊢
  have hl : lv_has ls 1 [(0, .int x)] := hl
  refine lv_iload_n hx hb dX0_requireNode_0 rfl (lv_at hl 0 rfl) ?_
  refine lv_if_lt (tgt := 10) hx hb dX0_requireNode_1 rfl (fun h1 => ?_) (fun h1 => ?_)
  · skip
    exact bb_throwS (k := 127) (tx := "no such node") bb_eN hx hb htr hown (fun w9 h9 => hts w9 (List.mem_cons_of_mem _ h9)) hZ (by decide +kernel) (hl.1.trans hml.symm) dX0_requireNode_10 dX0_requireNode_13 dX0_requireNode_14 dX0_requireNode_16 dX0_requireNode_19 hout hlocks (Nat.le_of_ble_eq_true rfl) (Nat.le_of_ble_eq_true rfl) (Nat.le_of_ble_eq_true rfl) (Nat.le_of_ble_eq_true rfl)
  · skip
    refine lv_iload_n hx hb dX0_requireNode_4 rfl (lv_at hl 0 rfl) ?_
    refine lv_bipush (v := nI 10) hx hb dX0_requireNode_5 (by decide) ?_
    refine lv_icmp_lt (tgt := 20) hx hb dX0_requireNode_7 rfl (fun h7 => ((bb_out_t hbad).elim h1 (fun q9 => q9 h7)).elim) (fun h7 => ?_)
    have q7 := bb_le h7
    exact bb_throwS (k := 127) (tx := "no such node") bb_eN hx hb htr hown (fun w9 h9 => hts w9 (List.mem_cons_of_mem _ h9)) hZ (by decide +kernel) (hl.1.trans hml.symm) dX0_requireNode_10 dX0_requireNode_13 dX0_requireNode_14 dX0_requireNode_16 dX0_requireNode_19 hout hlocks (Nat.le_of_ble_eq_true rfl) (Nat.le_of_ble_eq_true rfl) (Nat.le_of_ble_eq_true rfl) (Nat.le_of_ble_eq_true rfl)

set_option maxHeartbeats 4000000 in
set_option maxRecDepth 100000 in
theorem t_requireSet (l : Launch) (htr : l.stackTraces = false) (Bd : Nat)  (x : Int32) (hbad : bb_out x (nI 1024) = true) : bb_MT l yX0_requireSet wsX0_requireSet ({ frames := 6, cells := 1, slots := 6, locals := 90 }) (va_Pc [.int x] (bb_TS Bd)) NSE := by
  refine bb_MT_of (cc := cX0_requireSet) (maxL := 1) (ret := none) (by decide) rfl ?_
  intro p e s m args below meth c s₁ B hml hv
  obtain ⟨rfl, hZ⟩ := hv
  have hx := B.exec
  have hb := B.bytes
  have hts := atoms_spec (ws := wsX0_requireSet) B.pre
  have hout : c.exceptionTable.toList = [] := bb_noH (B.noHandlers (hts _ List.mem_cons_self))
  have hown : s.vm.findClass RX0 = some m.cls := findClass_of_methodNamed B.named
  have hlocks := B.notSynchronized
  have hl := lv_entry ([.int x]) (n := 1) (Nat.le_of_ble_eq_true rfl)
  rw [lg_entry_eq]
  generalize (lg_sl ([.int x]) ++ List.replicate (1 - (lg_sl ([.int x])).length) Slot.unset).toArray = ls at hl ⊢
  have hl : lv_has ls 1 [(0, .int x)] := hl
  refine lv_iload_n hx hb dX0_requireSet_0 rfl (lv_at hl 0 rfl) ?_
  refine lv_if_lt (tgt := 11) hx hb dX0_requireSet_1 rfl (fun h1 => ?_) (fun h1 => ?_)
  · skip
    exact bb_throwS (k := 130) (tx := "no such set") bb_eN hx hb htr hown (fun w9 h9 => hts w9 (List.mem_cons_of_mem _ h9)) hZ (by decide +kernel) (hl.1.trans hml.symm) dX0_requireSet_11 dX0_requireSet_14 dX0_requireSet_15 dX0_requireSet_17 dX0_requireSet_20 hout hlocks (Nat.le_of_ble_eq_true rfl) (Nat.le_of_ble_eq_true rfl) (Nat.le_of_ble_eq_true rfl) (Nat.le_of_ble_eq_true rfl)
  · skip
    refine lv_iload_n hx hb dX0_requireSet_4 rfl (lv_at hl 0 rfl) ?_
    refine lv_sipush (v := nI 1024) hx hb dX0_requireSet_5 (by decide) ?_
    refine lv_icmp_lt (tgt := 21) hx hb dX0_requireSet_8 rfl (fun h8 => ((bb_out_t hbad).elim h1 (fun q9 => q9 h8)).elim) (fun h8 => ?_)
    have q8 := bb_le h8
    exact bb_throwS (k := 130) (tx := "no such set") bb_eN hx hb htr hown (fun w9 h9 => hts w9 (List.mem_cons_of_mem _ h9)) hZ (by decide +kernel) (hl.1.trans hml.symm) dX0_requireSet_11 dX0_requireSet_14 dX0_requireSet_15 dX0_requireSet_17 dX0_requireSet_20 hout hlocks (Nat.le_of_ble_eq_true rfl) (Nat.le_of_ble_eq_true rfl) (Nat.le_of_ble_eq_true rfl) (Nat.le_of_ble_eq_true rfl)

set_option maxHeartbeats 4000000 in
set_option maxRecDepth 100000 in
theorem t_requireBallot (l : Launch) (htr : l.stackTraces = false) (Bd : Nat)  (x : Int32) (hbad : bb_out x (nI 31) = true) : bb_MT l yX0_requireBallot wsX0_requireBallot ({ frames := 6, cells := 1, slots := 6, locals := 90 }) (va_Pc [.int x] (bb_TS Bd)) NSE := by
  refine bb_MT_of (cc := cX0_requireBallot) (maxL := 1) (ret := none) (by decide) rfl ?_
  intro p e s m args below meth c s₁ B hml hv
  obtain ⟨rfl, hZ⟩ := hv
  have hx := B.exec
  have hb := B.bytes
  have hts := atoms_spec (ws := wsX0_requireBallot) B.pre
  have hout : c.exceptionTable.toList = [] := bb_noH (B.noHandlers (hts _ List.mem_cons_self))
  have hown : s.vm.findClass RX0 = some m.cls := findClass_of_methodNamed B.named
  have hlocks := B.notSynchronized
  have hl := lv_entry ([.int x]) (n := 1) (Nat.le_of_ble_eq_true rfl)
  rw [lg_entry_eq]
  generalize (lg_sl ([.int x]) ++ List.replicate (1 - (lg_sl ([.int x])).length) Slot.unset).toArray = ls at hl ⊢
  have hl : lv_has ls 1 [(0, .int x)] := hl
  refine lv_iload_n hx hb dX0_requireBallot_0 rfl (lv_at hl 0 rfl) ?_
  refine lv_if_lt (tgt := 10) hx hb dX0_requireBallot_1 rfl (fun h1 => ?_) (fun h1 => ?_)
  · skip
    exact bb_throwS (k := 132) (tx := "no such ballot") bb_eN hx hb htr hown (fun w9 h9 => hts w9 (List.mem_cons_of_mem _ h9)) hZ (by decide +kernel) (hl.1.trans hml.symm) dX0_requireBallot_10 dX0_requireBallot_13 dX0_requireBallot_14 dX0_requireBallot_16 dX0_requireBallot_19 hout hlocks (Nat.le_of_ble_eq_true rfl) (Nat.le_of_ble_eq_true rfl) (Nat.le_of_ble_eq_true rfl) (Nat.le_of_ble_eq_true rfl)
  · skip
    refine lv_iload_n hx hb dX0_requireBallot_4 rfl (lv_at hl 0 rfl) ?_
    refine lv_bipush (v := nI 31) hx hb dX0_requireBallot_5 (by decide) ?_
    refine lv_icmp_lt (tgt := 20) hx hb dX0_requireBallot_7 rfl (fun h7 => ((bb_out_t hbad).elim h1 (fun q9 => q9 h7)).elim) (fun h7 => ?_)
    have q7 := bb_le h7
    exact bb_throwS (k := 132) (tx := "no such ballot") bb_eN hx hb htr hown (fun w9 h9 => hts w9 (List.mem_cons_of_mem _ h9)) hZ (by decide +kernel) (hl.1.trans hml.symm) dX0_requireBallot_10 dX0_requireBallot_13 dX0_requireBallot_14 dX0_requireBallot_16 dX0_requireBallot_19 hout hlocks (Nat.le_of_ble_eq_true rfl) (Nat.le_of_ble_eq_true rfl) (Nat.le_of_ble_eq_true rfl) (Nat.le_of_ble_eq_true rfl)

set_option maxHeartbeats 4000000 in
set_option maxRecDepth 100000 in
theorem t_requireValue (l : Launch) (htr : l.stackTraces = false) (Bd : Nat)  (x : Int32) (hbad : bb_out x (nI 10) = true) : bb_MT l yX0_requireValue wsX0_requireValue ({ frames := 6, cells := 1, slots := 6, locals := 90 }) (va_Pc [.int x] (bb_TS Bd)) NSE := by
  refine bb_MT_of (cc := cX0_requireValue) (maxL := 1) (ret := none) (by decide) rfl ?_
  intro p e s m args below meth c s₁ B hml hv
  obtain ⟨rfl, hZ⟩ := hv
  have hx := B.exec
  have hb := B.bytes
  have hts := atoms_spec (ws := wsX0_requireValue) B.pre
  have hout : c.exceptionTable.toList = [] := bb_noH (B.noHandlers (hts _ List.mem_cons_self))
  have hown : s.vm.findClass RX0 = some m.cls := findClass_of_methodNamed B.named
  have hlocks := B.notSynchronized
  have hl := lv_entry ([.int x]) (n := 1) (Nat.le_of_ble_eq_true rfl)
  rw [lg_entry_eq]
  generalize (lg_sl ([.int x]) ++ List.replicate (1 - (lg_sl ([.int x])).length) Slot.unset).toArray = ls at hl ⊢
  have hl : lv_has ls 1 [(0, .int x)] := hl
  refine lv_iload_n hx hb dX0_requireValue_0 rfl (lv_at hl 0 rfl) ?_
  refine lv_if_lt (tgt := 10) hx hb dX0_requireValue_1 rfl (fun h1 => ?_) (fun h1 => ?_)
  · skip
    exact bb_throwS (k := 134) (tx := "no such value") bb_eN hx hb htr hown (fun w9 h9 => hts w9 (List.mem_cons_of_mem _ h9)) hZ (by decide +kernel) (hl.1.trans hml.symm) dX0_requireValue_10 dX0_requireValue_13 dX0_requireValue_14 dX0_requireValue_16 dX0_requireValue_19 hout hlocks (Nat.le_of_ble_eq_true rfl) (Nat.le_of_ble_eq_true rfl) (Nat.le_of_ble_eq_true rfl) (Nat.le_of_ble_eq_true rfl)
  · skip
    refine lv_iload_n hx hb dX0_requireValue_4 rfl (lv_at hl 0 rfl) ?_
    refine lv_bipush (v := nI 10) hx hb dX0_requireValue_5 (by decide) ?_
    refine lv_icmp_lt (tgt := 20) hx hb dX0_requireValue_7 rfl (fun h7 => ((bb_out_t hbad).elim h1 (fun q9 => q9 h7)).elim) (fun h7 => ?_)
    have q7 := bb_le h7
    exact bb_throwS (k := 134) (tx := "no such value") bb_eN hx hb htr hown (fun w9 h9 => hts w9 (List.mem_cons_of_mem _ h9)) hZ (by decide +kernel) (hl.1.trans hml.symm) dX0_requireValue_10 dX0_requireValue_13 dX0_requireValue_14 dX0_requireValue_16 dX0_requireValue_19 hout hlocks (Nat.le_of_ble_eq_true rfl) (Nat.le_of_ble_eq_true rfl) (Nat.le_of_ble_eq_true rfl) (Nat.le_of_ble_eq_true rfl)

set_option maxHeartbeats 4000000 in
set_option maxRecDepth 100000 in
theorem t_weight1 (l : Launch) (htr : l.stackTraces = false) (Bd : Nat) (dC : Nat → ClassId) (dI : Nat → Nat → Nat) (cA : ClassId) (h0 a0 a1 a2 a3 : Nat) (w pr vo vf : Nat → Int32) (k : Int32) (x0 x1 : Int32) (hbad : bb_out x0 (nI 10) = true) : bb_MT l yX0_weight wsX0_weight ({ frames := 7, cells := 1, slots := 6, locals := 130 }) (bb_Pt [.ref h0, .int x0, .int x1] (dC, dI) vwCl (bb_C h0 a0 a1 a2 a3 cA w pr vo vf k) [(cA, .int)] Bd) NSE := by
  refine bb_MT_of (cc := cX0_weight) (maxL := 4) (ret := some .int) (by decide) rfl ?_
  intro p e s m args below meth c s₁ B hml hv
  obtain ⟨rfl, ⟨hP, hK⟩, hZ⟩ := hv
  have hx := B.exec
  have hb := B.bytes
  have hts := atoms_spec (ws := wsX0_weight) B.pre
  have hout : c.exceptionTable.toList = [] := bb_noH (B.noHandlers (hts _ List.mem_cons_self))
  have hown : s.vm.findClass RX0 = some m.cls := findClass_of_methodNamed B.named
  have hlocks := B.notSynchronized
  have hl := lv_entry ([.ref h0, .int x0, .int x1]) (n := 4) (Nat.le_of_ble_eq_true rfl)
  rw [lg_entry_eq]
  generalize (lg_sl ([.ref h0, .int x0, .int x1]) ++ List.replicate (4 - (lg_sl ([.ref h0, .int x0, .int x1])).length) Slot.unset).toArray = ls at hl ⊢
  have hl : lv_has ls 4 [(0, .ref h0), (1, .int x0), (2, .int x1)] := hl
  refine lv_iload_n hx hb dX0_weight_0 rfl (lv_at hl 1 rfl) ?_
  exact bb_cSt (As := [.int x0]) (rest := []) ⟨hx, hb, hml, hown, hts⟩ (t_requireNode l htr Bd x0 hbad) (cwS 1 hts gX0_weight_X0_requireNode rfl rfl rfl (by decide +kernel) ⟨Nat.le_of_ble_eq_true rfl, Nat.le_of_ble_eq_true rfl⟩) ⟨bb_TSb, fun U9 hU9 hW9 => ⟨rfl, hZ.mv hW9 (fun _ _ => by rw [hU9])⟩⟩ rfl hl.1 rfl (Nat.le_of_ble_eq_true rfl) dX0_weight_1 (Nat.le_of_ble_eq_true rfl) (Nat.le_of_ble_eq_true rfl) (fun q9 H9 ce9 _ _ g1 g2 g3 => bb_leave hout hlocks g1 g2 g3 (Nat.le_refl _) (Nat.le_refl _))

set_option maxHeartbeats 4000000 in
set_option maxRecDepth 100000 in
theorem t_promise1 (l : Launch) (htr : l.stackTraces = false) (Bd : Nat) (dC : Nat → ClassId) (dI : Nat → Nat → Nat) (cA : ClassId) (h0 a0 a1 a2 a3 : Nat) (w pr vo vf : Nat → Int32) (k : Int32) (x0 x1 : Int32) (hbad : (bb_out x0 (nI 10) || bb_out x1 (nI 31)) = true) : bb_MT l yX0_promise wsX0_promise ({ frames := 7, cells := 1, slots := 6, locals := 130 }) (bb_Pt [.ref h0, .int x0, .int x1] (dC, dI) vwCl (bb_C h0 a0 a1 a2 a3 cA w pr vo vf k) [(cA, .int)] Bd) NSE := by
  refine bb_MT_of (cc := cX0_promise) (maxL := 4) (ret := some .int) (by decide) rfl ?_
  intro p e s m args below meth c s₁ B hml hv
  obtain ⟨rfl, ⟨hP, hK⟩, hZ⟩ := hv
  have hx := B.exec
  have hb := B.bytes
  have hts := atoms_spec (ws := wsX0_promise) B.pre
  have hout : c.exceptionTable.toList = [] := bb_noH (B.noHandlers (hts _ List.mem_cons_self))
  have hown : s.vm.findClass RX0 = some m.cls := findClass_of_methodNamed B.named
  have hlocks := B.notSynchronized
  have hl := lv_entry ([.ref h0, .int x0, .int x1]) (n := 4) (Nat.le_of_ble_eq_true rfl)
  rw [lg_entry_eq]
  generalize (lg_sl ([.ref h0, .int x0, .int x1]) ++ List.replicate (4 - (lg_sl ([.ref h0, .int x0, .int x1])).length) Slot.unset).toArray = ls at hl ⊢
  have hl : lv_has ls 4 [(0, .ref h0), (1, .int x0), (2, .int x1)] := hl
  refine lv_iload_n hx hb dX0_promise_0 rfl (lv_at hl 1 rfl) ?_
  rcases bb_out_or x0 (N := 10) (by decide) with ho | ⟨m0, hm0, rfl⟩
  · exact bb_cSt (As := [.int x0]) (rest := []) ⟨hx, hb, hml, hown, hts⟩ (t_requireNode l htr Bd x0 ho) (cwS 1 hts gX0_promise_X0_requireNode rfl rfl rfl (by decide +kernel) ⟨Nat.le_of_ble_eq_true rfl, Nat.le_of_ble_eq_true rfl⟩) ⟨bb_TSb, fun U9 hU9 hW9 => ⟨rfl, hZ.mv hW9 (fun _ _ => by rw [hU9])⟩⟩ rfl hl.1 rfl (Nat.le_of_ble_eq_true rfl) dX0_promise_1 (Nat.le_of_ble_eq_true rfl) (Nat.le_of_ble_eq_true rfl) (fun q9 H9 ce9 _ _ g1 g2 g3 => bb_leave hout hlocks g1 g2 g3 (Nat.le_refl _) (Nat.le_refl _))
  refine bb_cSv (As := [.int (nI m0)]) (rest := []) ⟨hx, hb, hml, hown, hts⟩ (k_requireNode l m0 hm0) (cwS 1 hts gX0_promise_X0_requireNode rfl rfl rfl (by decide +kernel) ⟨Nat.le_of_ble_eq_true rfl, Nat.le_of_ble_eq_true rfl⟩) rfl hl.1 rfl (Nat.le_of_ble_eq_true rfl) dX0_promise_1 (Nat.zero_le _) (Nat.zero_le _) ?_
  refine lv_iload_n hx hb dX0_promise_4 rfl (lv_at hl 2 rfl) ?_
  rcases bb_out_or x1 (N := 31) (by decide) with ho | ⟨m1, hm1, rfl⟩
  · exact bb_cSt (As := [.int x1]) (rest := []) ⟨hx, hb, hml, hown, hts⟩ (t_requireBallot l htr Bd x1 ho) (cwS 1 hts gX0_promise_X0_requireBallot rfl rfl rfl (by decide +kernel) ⟨Nat.le_of_ble_eq_true rfl, Nat.le_of_ble_eq_true rfl⟩) ⟨bb_TSb, fun U9 hU9 hW9 => ⟨rfl, hZ.mv hW9 (fun _ _ => by rw [hU9])⟩⟩ rfl hl.1 rfl (Nat.le_of_ble_eq_true rfl) dX0_promise_5 (Nat.le_of_ble_eq_true rfl) (Nat.le_of_ble_eq_true rfl) (fun q9 H9 ce9 _ _ g1 g2 g3 => bb_leave hout hlocks g1 g2 g3 (Nat.le_refl _) (Nat.le_refl _))
  exact absurd hbad (by rw [bb_out_no hm0 (by decide), bb_out_no hm1 (by decide)]; decide)

set_option maxHeartbeats 4000000 in
set_option maxRecDepth 100000 in
theorem t_vote1 (l : Launch) (htr : l.stackTraces = false) (Bd : Nat) (dC : Nat → ClassId) (dI : Nat → Nat → Nat) (cA : ClassId) (h0 a0 a1 a2 a3 : Nat) (w pr vo vf : Nat → Int32) (k : Int32) (x0 x1 x2 : Int32) (hbad : (bb_out x0 (nI 10) || bb_out x1 (nI 31) || bb_out x2 (nI 10)) = true) : bb_MT l yX0_vote wsX0_vote ({ frames := 7, cells := 1, slots := 6, locals := 130 }) (bb_Pt [.ref h0, .int x0, .int x1, .int x2] (dC, dI) vwCl (bb_C h0 a0 a1 a2 a3 cA w pr vo vf k) [(cA, .int)] Bd) NSE := by
  refine bb_MT_of (cc := cX0_vote) (maxL := 4) (ret := some .int) (by decide) rfl ?_
  intro p e s m args below meth c s₁ B hml hv
  obtain ⟨rfl, ⟨hP, hK⟩, hZ⟩ := hv
  have hx := B.exec
  have hb := B.bytes
  have hts := atoms_spec (ws := wsX0_vote) B.pre
  have hout : c.exceptionTable.toList = [] := bb_noH (B.noHandlers (hts _ List.mem_cons_self))
  have hown : s.vm.findClass RX0 = some m.cls := findClass_of_methodNamed B.named
  have hlocks := B.notSynchronized
  have hl := lv_entry ([.ref h0, .int x0, .int x1, .int x2]) (n := 4) (Nat.le_of_ble_eq_true rfl)
  rw [lg_entry_eq]
  generalize (lg_sl ([.ref h0, .int x0, .int x1, .int x2]) ++ List.replicate (4 - (lg_sl ([.ref h0, .int x0, .int x1, .int x2])).length) Slot.unset).toArray = ls at hl ⊢
  have hl : lv_has ls 4 [(0, .ref h0), (1, .int x0), (2, .int x1), (3, .int x2)] := hl
  refine lv_iload_n hx hb dX0_vote_0 rfl (lv_at hl 1 rfl) ?_
  rcases bb_out_or x0 (N := 10) (by decide) with ho | ⟨m0, hm0, rfl⟩
  · exact bb_cSt (As := [.int x0]) (rest := []) ⟨hx, hb, hml, hown, hts⟩ (t_requireNode l htr Bd x0 ho) (cwS 1 hts gX0_vote_X0_requireNode rfl rfl rfl (by decide +kernel) ⟨Nat.le_of_ble_eq_true rfl, Nat.le_of_ble_eq_true rfl⟩) ⟨bb_TSb, fun U9 hU9 hW9 => ⟨rfl, hZ.mv hW9 (fun _ _ => by rw [hU9])⟩⟩ rfl hl.1 rfl (Nat.le_of_ble_eq_true rfl) dX0_vote_1 (Nat.le_of_ble_eq_true rfl) (Nat.le_of_ble_eq_true rfl) (fun q9 H9 ce9 _ _ g1 g2 g3 => bb_leave hout hlocks g1 g2 g3 (Nat.le_refl _) (Nat.le_refl _))
  refine bb_cSv (As := [.int (nI m0)]) (rest := []) ⟨hx, hb, hml, hown, hts⟩ (k_requireNode l m0 hm0) (cwS 1 hts gX0_vote_X0_requireNode rfl rfl rfl (by decide +kernel) ⟨Nat.le_of_ble_eq_true rfl, Nat.le_of_ble_eq_true rfl⟩) rfl hl.1 rfl (Nat.le_of_ble_eq_true rfl) dX0_vote_1 (Nat.zero_le _) (Nat.zero_le _) ?_
  refine lv_iload_n hx hb dX0_vote_4 rfl (lv_at hl 2 rfl) ?_
  rcases bb_out_or x1 (N := 31) (by decide) with ho | ⟨m1, hm1, rfl⟩
  · exact bb_cSt (As := [.int x1]) (rest := []) ⟨hx, hb, hml, hown, hts⟩ (t_requireBallot l htr Bd x1 ho) (cwS 1 hts gX0_vote_X0_requireBallot rfl rfl rfl (by decide +kernel) ⟨Nat.le_of_ble_eq_true rfl, Nat.le_of_ble_eq_true rfl⟩) ⟨bb_TSb, fun U9 hU9 hW9 => ⟨rfl, hZ.mv hW9 (fun _ _ => by rw [hU9])⟩⟩ rfl hl.1 rfl (Nat.le_of_ble_eq_true rfl) dX0_vote_5 (Nat.le_of_ble_eq_true rfl) (Nat.le_of_ble_eq_true rfl) (fun q9 H9 ce9 _ _ g1 g2 g3 => bb_leave hout hlocks g1 g2 g3 (Nat.le_refl _) (Nat.le_refl _))
  refine bb_cSv (As := [.int (nI m1)]) (rest := []) ⟨hx, hb, hml, hown, hts⟩ (k_requireBallot l m1 hm1) (cwS 1 hts gX0_vote_X0_requireBallot rfl rfl rfl (by decide +kernel) ⟨Nat.le_of_ble_eq_true rfl, Nat.le_of_ble_eq_true rfl⟩) rfl hl.1 rfl (Nat.le_of_ble_eq_true rfl) dX0_vote_5 (Nat.zero_le _) (Nat.zero_le _) ?_
  refine lv_iload_n hx hb dX0_vote_8 rfl (lv_at hl 3 rfl) ?_
  rcases bb_out_or x2 (N := 10) (by decide) with ho | ⟨m2, hm2, rfl⟩
  · exact bb_cSt (As := [.int x2]) (rest := []) ⟨hx, hb, hml, hown, hts⟩ (t_requireValue l htr Bd x2 ho) (cwS 1 hts gX0_vote_X0_requireValue rfl rfl rfl (by decide +kernel) ⟨Nat.le_of_ble_eq_true rfl, Nat.le_of_ble_eq_true rfl⟩) ⟨bb_TSb, fun U9 hU9 hW9 => ⟨rfl, hZ.mv hW9 (fun _ _ => by rw [hU9])⟩⟩ rfl hl.1 rfl (Nat.le_of_ble_eq_true rfl) dX0_vote_9 (Nat.le_of_ble_eq_true rfl) (Nat.le_of_ble_eq_true rfl) (fun q9 H9 ce9 _ _ g1 g2 g3 => bb_leave hout hlocks g1 g2 g3 (Nat.le_refl _) (Nat.le_refl _))
  exact absurd hbad (by rw [bb_out_no hm0 (by decide), bb_out_no hm1 (by decide), bb_out_no hm2 (by decide)]; decide)

set_option maxHeartbeats 4000000 in
set_option maxRecDepth 100000 in
theorem t_ask1 (l : Launch) (htr : l.stackTraces = false) (Bd : Nat) (dC : Nat → ClassId) (dI : Nat → Nat → Nat) (cA : ClassId) (h0 a0 a1 a2 a3 : Nat) (w pr vo vf : Nat → Int32) (k : Int32) (x0 x1 : Int32) (hbad : (bb_out x0 (nI 1024) || bb_out x1 (nI 31)) = true) : bb_MT l yX0_ask wsX0_ask ({ frames := 7, cells := 1, slots := 6, locals := 130 }) (bb_Pt [.ref h0, .int x0, .int x1] (dC, dI) vwCl (bb_C h0 a0 a1 a2 a3 cA w pr vo vf k) [(cA, .int)] Bd) NSE := by
  refine bb_MT_of (cc := cX0_ask) (maxL := 4) (ret := some .int) (by decide) rfl ?_
  intro p e s m args below meth c s₁ B hml hv
  obtain ⟨rfl, ⟨hP, hK⟩, hZ⟩ := hv
  have hx := B.exec
  have hb := B.bytes
  have hts := atoms_spec (ws := wsX0_ask) B.pre
  have hout : c.exceptionTable.toList = [] := bb_noH (B.noHandlers (hts _ List.mem_cons_self))
  have hown : s.vm.findClass RX0 = some m.cls := findClass_of_methodNamed B.named
  have hlocks := B.notSynchronized
  have hl := lv_entry ([.ref h0, .int x0, .int x1]) (n := 4) (Nat.le_of_ble_eq_true rfl)
  rw [lg_entry_eq]
  generalize (lg_sl ([.ref h0, .int x0, .int x1]) ++ List.replicate (4 - (lg_sl ([.ref h0, .int x0, .int x1])).length) Slot.unset).toArray = ls at hl ⊢
  have hl : lv_has ls 4 [(0, .ref h0), (1, .int x0), (2, .int x1)] := hl
  refine lv_iload_n hx hb dX0_ask_0 rfl (lv_at hl 1 rfl) ?_
  rcases bb_out_or x0 (N := 1024) (by decide) with ho | ⟨m0, hm0, rfl⟩
  · exact bb_cSt (As := [.int x0]) (rest := []) ⟨hx, hb, hml, hown, hts⟩ (t_requireSet l htr Bd x0 ho) (cwS 1 hts gX0_ask_X0_requireSet rfl rfl rfl (by decide +kernel) ⟨Nat.le_of_ble_eq_true rfl, Nat.le_of_ble_eq_true rfl⟩) ⟨bb_TSb, fun U9 hU9 hW9 => ⟨rfl, hZ.mv hW9 (fun _ _ => by rw [hU9])⟩⟩ rfl hl.1 rfl (Nat.le_of_ble_eq_true rfl) dX0_ask_1 (Nat.le_of_ble_eq_true rfl) (Nat.le_of_ble_eq_true rfl) (fun q9 H9 ce9 _ _ g1 g2 g3 => bb_leave hout hlocks g1 g2 g3 (Nat.le_refl _) (Nat.le_refl _))
  refine bb_cSv (As := [.int (nI m0)]) (rest := []) ⟨hx, hb, hml, hown, hts⟩ (k_requireSet l m0 hm0) (cwS 1 hts gX0_ask_X0_requireSet rfl rfl rfl (by decide +kernel) ⟨Nat.le_of_ble_eq_true rfl, Nat.le_of_ble_eq_true rfl⟩) rfl hl.1 rfl (Nat.le_of_ble_eq_true rfl) dX0_ask_1 (Nat.zero_le _) (Nat.zero_le _) ?_
  refine lv_iload_n hx hb dX0_ask_4 rfl (lv_at hl 2 rfl) ?_
  rcases bb_out_or x1 (N := 31) (by decide) with ho | ⟨m1, hm1, rfl⟩
  · exact bb_cSt (As := [.int x1]) (rest := []) ⟨hx, hb, hml, hown, hts⟩ (t_requireBallot l htr Bd x1 ho) (cwS 1 hts gX0_ask_X0_requireBallot rfl rfl rfl (by decide +kernel) ⟨Nat.le_of_ble_eq_true rfl, Nat.le_of_ble_eq_true rfl⟩) ⟨bb_TSb, fun U9 hU9 hW9 => ⟨rfl, hZ.mv hW9 (fun _ _ => by rw [hU9])⟩⟩ rfl hl.1 rfl (Nat.le_of_ble_eq_true rfl) dX0_ask_5 (Nat.le_of_ble_eq_true rfl) (Nat.le_of_ble_eq_true rfl) (fun q9 H9 ce9 _ _ g1 g2 g3 => bb_leave hout hlocks g1 g2 g3 (Nat.le_refl _) (Nat.le_refl _))
  exact absurd hbad (by rw [bb_out_no hm0 (by decide), bb_out_no hm1 (by decide)]; decide)

set_option maxHeartbeats 4000000 in
set_option maxRecDepth 100000 in
theorem t_chosen1 (l : Launch) (htr : l.stackTraces = false) (Bd : Nat) (dC : Nat → ClassId) (dI : Nat → Nat → Nat) (cA : ClassId) (h0 a0 a1 a2 a3 : Nat) (w pr vo vf : Nat → Int32) (k : Int32) (x0 : Int32) (hbad : bb_out x0 (nI 31) = true) : bb_MT l yX0_chosen wsX0_chosen ({ frames := 7, cells := 1, slots := 6, locals := 130 }) (bb_Pt [.ref h0, .int x0] (dC, dI) vwCl (bb_C h0 a0 a1 a2 a3 cA w pr vo vf k) [(cA, .int)] Bd) NSE := by
  refine bb_MT_of (cc := cX0_chosen) (maxL := 2) (ret := some .int) (by decide) rfl ?_
  intro p e s m args below meth c s₁ B hml hv
  obtain ⟨rfl, ⟨hP, hK⟩, hZ⟩ := hv
  have hx := B.exec
  have hb := B.bytes
  have hts := atoms_spec (ws := wsX0_chosen) B.pre
  have hout : c.exceptionTable.toList = [] := bb_noH (B.noHandlers (hts _ List.mem_cons_self))
  have hown : s.vm.findClass RX0 = some m.cls := findClass_of_methodNamed B.named
  have hlocks := B.notSynchronized
  have hl := lv_entry ([.ref h0, .int x0]) (n := 2) (Nat.le_of_ble_eq_true rfl)
  rw [lg_entry_eq]
  generalize (lg_sl ([.ref h0, .int x0]) ++ List.replicate (2 - (lg_sl ([.ref h0, .int x0])).length) Slot.unset).toArray = ls at hl ⊢
  have hl : lv_has ls 2 [(0, .ref h0), (1, .int x0)] := hl
  refine lv_iload_n hx hb dX0_chosen_0 rfl (lv_at hl 1 rfl) ?_
  exact bb_cSt (As := [.int x0]) (rest := []) ⟨hx, hb, hml, hown, hts⟩ (t_requireBallot l htr Bd x0 hbad) (cwS 1 hts gX0_chosen_X0_requireBallot rfl rfl rfl (by decide +kernel) ⟨Nat.le_of_ble_eq_true rfl, Nat.le_of_ble_eq_true rfl⟩) ⟨bb_TSb, fun U9 hU9 hW9 => ⟨rfl, hZ.mv hW9 (fun _ _ => by rw [hU9])⟩⟩ rfl hl.1 rfl (Nat.le_of_ble_eq_true rfl) dX0_chosen_1 (Nat.le_of_ble_eq_true rfl) (Nat.le_of_ble_eq_true rfl) (fun q9 H9 ce9 _ _ g1 g2 g3 => bb_leave hout hlocks g1 g2 g3 (Nat.le_refl _) (Nat.le_refl _))

set_option maxHeartbeats 4000000 in
set_option maxRecDepth 100000 in
theorem t_can1 (l : Launch) (htr : l.stackTraces = false) (Bd : Nat) (dC : Nat → ClassId) (dI : Nat → Nat → Nat) (cA : ClassId) (h0 a0 a1 a2 a3 : Nat) (w pr vo vf : Nat → Int32) (k : Int32) (x0 x1 : Int32) (hbad : (bb_out x0 (nI 31) || bb_out x1 (nI 10)) = true) : bb_MT l yX0_can wsX0_can ({ frames := 7, cells := 1, slots := 6, locals := 130 }) (bb_Pt [.ref h0, .int x0, .int x1] (dC, dI) vwCl (bb_C h0 a0 a1 a2 a3 cA w pr vo vf k) [(cA, .int)] Bd) NSE := by
  refine bb_MT_of (cc := cX0_can) (maxL := 3) (ret := some .boolean) (by decide) rfl ?_
  intro p e s m args below meth c s₁ B hml hv
  obtain ⟨rfl, ⟨hP, hK⟩, hZ⟩ := hv
  have hx := B.exec
  have hb := B.bytes
  have hts := atoms_spec (ws := wsX0_can) B.pre
  have hout : c.exceptionTable.toList = [] := bb_noH (B.noHandlers (hts _ List.mem_cons_self))
  have hown : s.vm.findClass RX0 = some m.cls := findClass_of_methodNamed B.named
  have hlocks := B.notSynchronized
  have hl := lv_entry ([.ref h0, .int x0, .int x1]) (n := 3) (Nat.le_of_ble_eq_true rfl)
  rw [lg_entry_eq]
  generalize (lg_sl ([.ref h0, .int x0, .int x1]) ++ List.replicate (3 - (lg_sl ([.ref h0, .int x0, .int x1])).length) Slot.unset).toArray = ls at hl ⊢
  have hl : lv_has ls 3 [(0, .ref h0), (1, .int x0), (2, .int x1)] := hl
  refine lv_iload_n hx hb dX0_can_0 rfl (lv_at hl 1 rfl) ?_
  rcases bb_out_or x0 (N := 31) (by decide) with ho | ⟨m0, hm0, rfl⟩
  · exact bb_cSt (As := [.int x0]) (rest := []) ⟨hx, hb, hml, hown, hts⟩ (t_requireBallot l htr Bd x0 ho) (cwS 1 hts gX0_can_X0_requireBallot rfl rfl rfl (by decide +kernel) ⟨Nat.le_of_ble_eq_true rfl, Nat.le_of_ble_eq_true rfl⟩) ⟨bb_TSb, fun U9 hU9 hW9 => ⟨rfl, hZ.mv hW9 (fun _ _ => by rw [hU9])⟩⟩ rfl hl.1 rfl (Nat.le_of_ble_eq_true rfl) dX0_can_1 (Nat.le_of_ble_eq_true rfl) (Nat.le_of_ble_eq_true rfl) (fun q9 H9 ce9 _ _ g1 g2 g3 => bb_leave hout hlocks g1 g2 g3 (Nat.le_refl _) (Nat.le_refl _))
  refine bb_cSv (As := [.int (nI m0)]) (rest := []) ⟨hx, hb, hml, hown, hts⟩ (k_requireBallot l m0 hm0) (cwS 1 hts gX0_can_X0_requireBallot rfl rfl rfl (by decide +kernel) ⟨Nat.le_of_ble_eq_true rfl, Nat.le_of_ble_eq_true rfl⟩) rfl hl.1 rfl (Nat.le_of_ble_eq_true rfl) dX0_can_1 (Nat.zero_le _) (Nat.zero_le _) ?_
  refine lv_iload_n hx hb dX0_can_4 rfl (lv_at hl 2 rfl) ?_
  rcases bb_out_or x1 (N := 10) (by decide) with ho | ⟨m1, hm1, rfl⟩
  · exact bb_cSt (As := [.int x1]) (rest := []) ⟨hx, hb, hml, hown, hts⟩ (t_requireValue l htr Bd x1 ho) (cwS 1 hts gX0_can_X0_requireValue rfl rfl rfl (by decide +kernel) ⟨Nat.le_of_ble_eq_true rfl, Nat.le_of_ble_eq_true rfl⟩) ⟨bb_TSb, fun U9 hU9 hW9 => ⟨rfl, hZ.mv hW9 (fun _ _ => by rw [hU9])⟩⟩ rfl hl.1 rfl (Nat.le_of_ble_eq_true rfl) dX0_can_5 (Nat.le_of_ble_eq_true rfl) (Nat.le_of_ble_eq_true rfl) (fun q9 H9 ce9 _ _ g1 g2 g3 => bb_leave hout hlocks g1 g2 g3 (Nat.le_refl _) (Nat.le_refl _))
  exact absurd hbad (by rw [bb_out_no hm0 (by decide), bb_out_no hm1 (by decide)]; decide)

set_option maxHeartbeats 4000000 in
set_option maxRecDepth 100000 in
theorem t_safe1 (l : Launch) (htr : l.stackTraces = false) (Bd : Nat) (dC : Nat → ClassId) (dI : Nat → Nat → Nat) (cA : ClassId) (h0 a0 a1 a2 a3 : Nat) (w pr vo vf : Nat → Int32) (k : Int32) (x0 x1 : Int32) (hbad : (bb_out x0 (nI 31) || bb_out x1 (nI 10)) = true) : bb_MT l yX0_safe wsX0_safe ({ frames := 7, cells := 1, slots := 6, locals := 130 }) (bb_Pt [.ref h0, .int x0, .int x1] (dC, dI) vwCl (bb_C h0 a0 a1 a2 a3 cA w pr vo vf k) [(cA, .int)] Bd) NSE := by
  refine bb_MT_of (cc := cX0_safe) (maxL := 3) (ret := some .boolean) (by decide) rfl ?_
  intro p e s m args below meth c s₁ B hml hv
  obtain ⟨rfl, ⟨hP, hK⟩, hZ⟩ := hv
  have hx := B.exec
  have hb := B.bytes
  have hts := atoms_spec (ws := wsX0_safe) B.pre
  have hout : c.exceptionTable.toList = [] := bb_noH (B.noHandlers (hts _ List.mem_cons_self))
  have hown : s.vm.findClass RX0 = some m.cls := findClass_of_methodNamed B.named
  have hlocks := B.notSynchronized
  have hl := lv_entry ([.ref h0, .int x0, .int x1]) (n := 3) (Nat.le_of_ble_eq_true rfl)
  rw [lg_entry_eq]
  generalize (lg_sl ([.ref h0, .int x0, .int x1]) ++ List.replicate (3 - (lg_sl ([.ref h0, .int x0, .int x1])).length) Slot.unset).toArray = ls at hl ⊢
  have hl : lv_has ls 3 [(0, .ref h0), (1, .int x0), (2, .int x1)] := hl
  refine lv_iload_n hx hb dX0_safe_0 rfl (lv_at hl 1 rfl) ?_
  rcases bb_out_or x0 (N := 31) (by decide) with ho | ⟨m0, hm0, rfl⟩
  · exact bb_cSt (As := [.int x0]) (rest := []) ⟨hx, hb, hml, hown, hts⟩ (t_requireBallot l htr Bd x0 ho) (cwS 1 hts gX0_safe_X0_requireBallot rfl rfl rfl (by decide +kernel) ⟨Nat.le_of_ble_eq_true rfl, Nat.le_of_ble_eq_true rfl⟩) ⟨bb_TSb, fun U9 hU9 hW9 => ⟨rfl, hZ.mv hW9 (fun _ _ => by rw [hU9])⟩⟩ rfl hl.1 rfl (Nat.le_of_ble_eq_true rfl) dX0_safe_1 (Nat.le_of_ble_eq_true rfl) (Nat.le_of_ble_eq_true rfl) (fun q9 H9 ce9 _ _ g1 g2 g3 => bb_leave hout hlocks g1 g2 g3 (Nat.le_refl _) (Nat.le_refl _))
  refine bb_cSv (As := [.int (nI m0)]) (rest := []) ⟨hx, hb, hml, hown, hts⟩ (k_requireBallot l m0 hm0) (cwS 1 hts gX0_safe_X0_requireBallot rfl rfl rfl (by decide +kernel) ⟨Nat.le_of_ble_eq_true rfl, Nat.le_of_ble_eq_true rfl⟩) rfl hl.1 rfl (Nat.le_of_ble_eq_true rfl) dX0_safe_1 (Nat.zero_le _) (Nat.zero_le _) ?_
  refine lv_iload_n hx hb dX0_safe_4 rfl (lv_at hl 2 rfl) ?_
  rcases bb_out_or x1 (N := 10) (by decide) with ho | ⟨m1, hm1, rfl⟩
  · exact bb_cSt (As := [.int x1]) (rest := []) ⟨hx, hb, hml, hown, hts⟩ (t_requireValue l htr Bd x1 ho) (cwS 1 hts gX0_safe_X0_requireValue rfl rfl rfl (by decide +kernel) ⟨Nat.le_of_ble_eq_true rfl, Nat.le_of_ble_eq_true rfl⟩) ⟨bb_TSb, fun U9 hU9 hW9 => ⟨rfl, hZ.mv hW9 (fun _ _ => by rw [hU9])⟩⟩ rfl hl.1 rfl (Nat.le_of_ble_eq_true rfl) dX0_safe_5 (Nat.le_of_ble_eq_true rfl) (Nat.le_of_ble_eq_true rfl) (fun q9 H9 ce9 _ _ g1 g2 g3 => bb_leave hout hlocks g1 g2 g3 (Nat.le_refl _) (Nat.le_refl _))
  exact absurd hbad (by rw [bb_out_no hm0 (by decide), bb_out_no hm1 (by decide)]; decide)

set_option maxHeartbeats 4000000 in
set_option maxRecDepth 100000 in
theorem t_free1 (l : Launch) (htr : l.stackTraces = false) (Bd : Nat) (dC : Nat → ClassId) (dI : Nat → Nat → Nat) (cA : ClassId) (h0 a0 a1 a2 a3 : Nat) (w pr vo vf : Nat → Int32) (k : Int32) (x0 : Int32) (hbad : bb_out x0 (nI 31) = true) : bb_MT l yX0_free wsX0_free ({ frames := 7, cells := 1, slots := 6, locals := 130 }) (bb_Pt [.ref h0, .int x0] (dC, dI) vwCl (bb_C h0 a0 a1 a2 a3 cA w pr vo vf k) [(cA, .int)] Bd) NSE := by
  refine bb_MT_of (cc := cX0_free) (maxL := 4) (ret := some .int) (by decide) rfl ?_
  intro p e s m args below meth c s₁ B hml hv
  obtain ⟨rfl, ⟨hP, hK⟩, hZ⟩ := hv
  have hx := B.exec
  have hb := B.bytes
  have hts := atoms_spec (ws := wsX0_free) B.pre
  have hout : c.exceptionTable.toList = [] := bb_noH (B.noHandlers (hts _ List.mem_cons_self))
  have hown : s.vm.findClass RX0 = some m.cls := findClass_of_methodNamed B.named
  have hlocks := B.notSynchronized
  have hl := lv_entry ([.ref h0, .int x0]) (n := 4) (Nat.le_of_ble_eq_true rfl)
  rw [lg_entry_eq]
  generalize (lg_sl ([.ref h0, .int x0]) ++ List.replicate (4 - (lg_sl ([.ref h0, .int x0])).length) Slot.unset).toArray = ls at hl ⊢
  have hl : lv_has ls 4 [(0, .ref h0), (1, .int x0)] := hl
  refine lv_iload_n hx hb dX0_free_0 rfl (lv_at hl 1 rfl) ?_
  exact bb_cSt (As := [.int x0]) (rest := []) ⟨hx, hb, hml, hown, hts⟩ (t_requireBallot l htr Bd x0 hbad) (cwS 1 hts gX0_free_X0_requireBallot rfl rfl rfl (by decide +kernel) ⟨Nat.le_of_ble_eq_true rfl, Nat.le_of_ble_eq_true rfl⟩) ⟨bb_TSb, fun U9 hU9 hW9 => ⟨rfl, hZ.mv hW9 (fun _ _ => by rw [hU9])⟩⟩ rfl hl.1 rfl (Nat.le_of_ble_eq_true rfl) dX0_free_1 (Nat.le_of_ble_eq_true rfl) (Nat.le_of_ble_eq_true rfl) (fun q9 H9 ce9 _ _ g1 g2 g3 => bb_leave hout hlocks g1 g2 g3 (Nat.le_refl _) (Nat.le_refl _))

set_option maxHeartbeats 4000000 in
set_option maxRecDepth 100000 in
theorem t_enough1 (l : Launch) (htr : l.stackTraces = false) (Bd : Nat) (dC : Nat → ClassId) (dI : Nat → Nat → Nat) (cA : ClassId) (h0 a0 a1 a2 a3 : Nat) (w pr vo vf : Nat → Int32) (k : Int32) (x0 : Int32) (hbad : bb_out x0 (nI 1024) = true) : bb_MT l yX0_enough wsX0_enough ({ frames := 7, cells := 1, slots := 6, locals := 130 }) (bb_Pt [.ref h0, .int x0] (dC, dI) vwCl (bb_C h0 a0 a1 a2 a3 cA w pr vo vf k) [(cA, .int)] Bd) NSE := by
  refine bb_MT_of (cc := cX0_enough) (maxL := 2) (ret := some .boolean) (by decide) rfl ?_
  intro p e s m args below meth c s₁ B hml hv
  obtain ⟨rfl, ⟨hP, hK⟩, hZ⟩ := hv
  have hx := B.exec
  have hb := B.bytes
  have hts := atoms_spec (ws := wsX0_enough) B.pre
  have hout : c.exceptionTable.toList = [] := bb_noH (B.noHandlers (hts _ List.mem_cons_self))
  have hown : s.vm.findClass RX0 = some m.cls := findClass_of_methodNamed B.named
  have hlocks := B.notSynchronized
  have hl := lv_entry ([.ref h0, .int x0]) (n := 2) (Nat.le_of_ble_eq_true rfl)
  rw [lg_entry_eq]
  generalize (lg_sl ([.ref h0, .int x0]) ++ List.replicate (2 - (lg_sl ([.ref h0, .int x0])).length) Slot.unset).toArray = ls at hl ⊢
  have hl : lv_has ls 2 [(0, .ref h0), (1, .int x0)] := hl
  refine lv_iload_n hx hb dX0_enough_0 rfl (lv_at hl 1 rfl) ?_
  exact bb_cSt (As := [.int x0]) (rest := []) ⟨hx, hb, hml, hown, hts⟩ (t_requireSet l htr Bd x0 hbad) (cwS 1 hts gX0_enough_X0_requireSet rfl rfl rfl (by decide +kernel) ⟨Nat.le_of_ble_eq_true rfl, Nat.le_of_ble_eq_true rfl⟩) ⟨bb_TSb, fun U9 hU9 hW9 => ⟨rfl, hZ.mv hW9 (fun _ _ => by rw [hU9])⟩⟩ rfl hl.1 rfl (Nat.le_of_ble_eq_true rfl) dX0_enough_1 (Nat.le_of_ble_eq_true rfl) (Nat.le_of_ble_eq_true rfl) (fun q9 H9 ce9 _ _ g1 g2 g3 => bb_leave hout hlocks g1 g2 g3 (Nat.le_refl _) (Nat.le_refl _))

set_option maxHeartbeats 4000000 in
set_option maxRecDepth 100000 in
theorem t_blocks1 (l : Launch) (htr : l.stackTraces = false) (Bd : Nat) (dC : Nat → ClassId) (dI : Nat → Nat → Nat) (cA : ClassId) (h0 a0 a1 a2 a3 : Nat) (w pr vo vf : Nat → Int32) (k : Int32) (x0 : Int32) (hbad : bb_out x0 (nI 1024) = true) : bb_MT l yX0_blocks wsX0_blocks ({ frames := 7, cells := 1, slots := 6, locals := 130 }) (bb_Pt [.ref h0, .int x0] (dC, dI) vwCl (bb_C h0 a0 a1 a2 a3 cA w pr vo vf k) [(cA, .int)] Bd) NSE := by
  refine bb_MT_of (cc := cX0_blocks) (maxL := 2) (ret := some .boolean) (by decide) rfl ?_
  intro p e s m args below meth c s₁ B hml hv
  obtain ⟨rfl, ⟨hP, hK⟩, hZ⟩ := hv
  have hx := B.exec
  have hb := B.bytes
  have hts := atoms_spec (ws := wsX0_blocks) B.pre
  have hout : c.exceptionTable.toList = [] := bb_noH (B.noHandlers (hts _ List.mem_cons_self))
  have hown : s.vm.findClass RX0 = some m.cls := findClass_of_methodNamed B.named
  have hlocks := B.notSynchronized
  have hl := lv_entry ([.ref h0, .int x0]) (n := 2) (Nat.le_of_ble_eq_true rfl)
  rw [lg_entry_eq]
  generalize (lg_sl ([.ref h0, .int x0]) ++ List.replicate (2 - (lg_sl ([.ref h0, .int x0])).length) Slot.unset).toArray = ls at hl ⊢
  have hl : lv_has ls 2 [(0, .ref h0), (1, .int x0)] := hl
  refine lv_iload_n hx hb dX0_blocks_0 rfl (lv_at hl 1 rfl) ?_
  exact bb_cSt (As := [.int x0]) (rest := []) ⟨hx, hb, hml, hown, hts⟩ (t_requireSet l htr Bd x0 hbad) (cwS 1 hts gX0_blocks_X0_requireSet rfl rfl rfl (by decide +kernel) ⟨Nat.le_of_ble_eq_true rfl, Nat.le_of_ble_eq_true rfl⟩) ⟨bb_TSb, fun U9 hU9 hW9 => ⟨rfl, hZ.mv hW9 (fun _ _ => by rw [hU9])⟩⟩ rfl hl.1 rfl (Nat.le_of_ble_eq_true rfl) dX0_blocks_1 (Nat.le_of_ble_eq_true rfl) (Nat.le_of_ble_eq_true rfl) (fun q9 H9 ce9 _ _ g1 g2 g3 => bb_leave hout hlocks g1 g2 g3 (Nat.le_refl _) (Nat.le_refl _))

set_option maxHeartbeats 4000000 in
set_option maxRecDepth 100000 in
theorem t_about1 (l : Launch) (htr : l.stackTraces = false) (Bd : Nat) (dC : Nat → ClassId) (dI : Nat → Nat → Nat) (cA : ClassId) (h0 a0 a1 a2 a3 : Nat) (w pr vo vf : Nat → Int32) (k : Int32) (x0 x1 : Int32) (hbad : bb_out x0 (nI 10) = true) : bb_MT l yX0_about wsX0_about ({ frames := 7, cells := 1, slots := 6, locals := 130 }) (bb_Pt [.ref h0, .int x0, .int x1] (dC, dI) vwCl (bb_C h0 a0 a1 a2 a3 cA w pr vo vf k) [(cA, .int)] Bd) NSE := by
  refine bb_MT_of (cc := cX0_about) (maxL := 3) (ret := some .int) (by decide) rfl ?_
  intro p e s m args below meth c s₁ B hml hv
  obtain ⟨rfl, ⟨hP, hK⟩, hZ⟩ := hv
  have hx := B.exec
  have hb := B.bytes
  have hts := atoms_spec (ws := wsX0_about) B.pre
  have hout : c.exceptionTable.toList = [] := bb_noH (B.noHandlers (hts _ List.mem_cons_self))
  have hown : s.vm.findClass RX0 = some m.cls := findClass_of_methodNamed B.named
  have hlocks := B.notSynchronized
  have hl := lv_entry ([.ref h0, .int x0, .int x1]) (n := 3) (Nat.le_of_ble_eq_true rfl)
  rw [lg_entry_eq]
  generalize (lg_sl ([.ref h0, .int x0, .int x1]) ++ List.replicate (3 - (lg_sl ([.ref h0, .int x0, .int x1])).length) Slot.unset).toArray = ls at hl ⊢
  have hl : lv_has ls 3 [(0, .ref h0), (1, .int x0), (2, .int x1)] := hl
  refine lv_iload_n hx hb dX0_about_0 rfl (lv_at hl 1 rfl) ?_
  exact bb_cSt (As := [.int x0]) (rest := []) ⟨hx, hb, hml, hown, hts⟩ (t_requireNode l htr Bd x0 hbad) (cwS 1 hts gX0_about_X0_requireNode rfl rfl rfl (by decide +kernel) ⟨Nat.le_of_ble_eq_true rfl, Nat.le_of_ble_eq_true rfl⟩) ⟨bb_TSb, fun U9 hU9 hW9 => ⟨rfl, hZ.mv hW9 (fun _ _ => by rw [hU9])⟩⟩ rfl hl.1 rfl (Nat.le_of_ble_eq_true rfl) dX0_about_1 (Nat.le_of_ble_eq_true rfl) (Nat.le_of_ble_eq_true rfl) (fun q9 H9 ce9 _ _ g1 g2 g3 => bb_leave hout hlocks g1 g2 g3 (Nat.le_refl _) (Nat.le_refl _))

set_option maxHeartbeats 4000000 in
set_option maxRecDepth 100000 in
theorem t_weight2 (l : Launch) (htr : l.stackTraces = false) (Bd : Nat) (dC : Nat → ClassId) (dI : Nat → Nat → Nat) (cA : ClassId) (h0 a0 a1 a2 a3 : Nat) (w pr vo vf : Nat → Int32) (k : Int32) (n : Nat) (hn0 : n < 10) (x1 : Int32) (hbad : x1 < 0 ∨ ¬ x1 ≤ nI 50) : bb_MT l yX0_weight wsX0_weight ({ frames := 7, cells := 1, slots := 6, locals := 130 }) (bb_Pt [.ref h0, .int (nI n), .int x1] (dC, dI) vwCl (bb_C h0 a0 a1 a2 a3 cA w pr vo vf k) [(cA, .int)] Bd) IAE := by
  refine bb_MT_of (cc := cX0_weight) (maxL := 4) (ret := some .int) (by decide) rfl ?_
  intro p e s m args below meth c s₁ B hml hv
  obtain ⟨rfl, ⟨hP, hK⟩, hZ⟩ := hv
  have hx := B.exec
  have hb := B.bytes
  have hts := atoms_spec (ws := wsX0_weight) B.pre
  have hout : c.exceptionTable.toList = [] := bb_noH (B.noHandlers (hts _ List.mem_cons_self))
  have hown : s.vm.findClass RX0 = some m.cls := findClass_of_methodNamed B.named
  have hlocks := B.notSynchronized
  have hl := lv_entry ([.ref h0, .int (nI n), .int x1]) (n := 4) (Nat.le_of_ble_eq_true rfl)
  rw [lg_entry_eq]
  generalize (lg_sl ([.ref h0, .int (nI n), .int x1]) ++ List.replicate (4 - (lg_sl ([.ref h0, .int (nI n), .int x1])).length) Slot.unset).toArray = ls at hl ⊢
  have hl : lv_has ls 4 [(0, .ref h0), (1, .int (nI n)), (2, .int x1)] := hl
  refine lv_iload_n hx hb dX0_weight_0 rfl (lv_at hl 1 rfl) ?_
  refine bb_cSv (As := [.int (nI n)]) (rest := []) ⟨hx, hb, hml, hown, hts⟩ (k_requireNode l n (by omega)) (cwS 1 hts gX0_weight_X0_requireNode rfl rfl rfl (by decide +kernel) ⟨Nat.le_of_ble_eq_true rfl, Nat.le_of_ble_eq_true rfl⟩) rfl hl.1 rfl (Nat.le_of_ble_eq_true rfl) dX0_weight_1 (Nat.zero_le _) (Nat.zero_le _) ?_
  refine lv_iload_n hx hb dX0_weight_4 rfl (lv_at hl 2 rfl) ?_
  refine lv_if_lt (tgt := 14) hx hb dX0_weight_5 rfl (fun h5 => ?_) (fun h5 => ?_)
  · skip
    exact bb_throwS (k := 38) (tx := "no such weight") bb_eA hx hb htr hown (fun w9 h9 => hts w9 (List.mem_cons_of_mem _ h9)) hZ (by decide +kernel) (hl.1.trans hml.symm) dX0_weight_14 dX0_weight_17 dX0_weight_18 dX0_weight_20 dX0_weight_23 hout hlocks (Nat.le_of_ble_eq_true rfl) (Nat.le_of_ble_eq_true rfl) (Nat.le_of_ble_eq_true rfl) (Nat.le_of_ble_eq_true rfl)
  · skip
    refine lv_iload_n hx hb dX0_weight_8 rfl (lv_at hl 2 rfl) ?_
    refine lv_bipush (v := nI 50) hx hb dX0_weight_9 (by decide) ?_
    refine lv_icmp_le (tgt := 24) hx hb dX0_weight_11 rfl (fun h11 => (hbad.elim h5 (fun q9 => q9 h11)).elim) (fun h11 => ?_)
    have q11 := bb_lt h11
    exact bb_throwS (k := 38) (tx := "no such weight") bb_eA hx hb htr hown (fun w9 h9 => hts w9 (List.mem_cons_of_mem _ h9)) hZ (by decide +kernel) (hl.1.trans hml.symm) dX0_weight_14 dX0_weight_17 dX0_weight_18 dX0_weight_20 dX0_weight_23 hout hlocks (Nat.le_of_ble_eq_true rfl) (Nat.le_of_ble_eq_true rfl) (Nat.le_of_ble_eq_true rfl) (Nat.le_of_ble_eq_true rfl)

set_option maxHeartbeats 4000000 in
set_option maxRecDepth 100000 in
theorem t_need1 (l : Launch) (htr : l.stackTraces = false) (Bd : Nat) (dC : Nat → ClassId) (dI : Nat → Nat → Nat) (cA : ClassId) (h0 a0 a1 a2 a3 : Nat) (w pr vo vf : Nat → Int32) (k : Int32) (x0 : Int32) (hbad : x0 < nI 1 ∨ ¬ x0 ≤ nI 500) : bb_MT l yX0_need wsX0_need ({ frames := 7, cells := 1, slots := 6, locals := 130 }) (bb_Pt [.ref h0, .int x0] (dC, dI) vwCl (bb_C h0 a0 a1 a2 a3 cA w pr vo vf k) [(cA, .int)] Bd) IAE := by
  refine bb_MT_of (cc := cX0_need) (maxL := 3) (ret := some .int) (by decide) rfl ?_
  intro p e s m args below meth c s₁ B hml hv
  obtain ⟨rfl, ⟨hP, hK⟩, hZ⟩ := hv
  have hx := B.exec
  have hb := B.bytes
  have hts := atoms_spec (ws := wsX0_need) B.pre
  have hout : c.exceptionTable.toList = [] := bb_noH (B.noHandlers (hts _ List.mem_cons_self))
  have hown : s.vm.findClass RX0 = some m.cls := findClass_of_methodNamed B.named
  have hlocks := B.notSynchronized
  have hl := lv_entry ([.ref h0, .int x0]) (n := 3) (Nat.le_of_ble_eq_true rfl)
  rw [lg_entry_eq]
  generalize (lg_sl ([.ref h0, .int x0]) ++ List.replicate (3 - (lg_sl ([.ref h0, .int x0])).length) Slot.unset).toArray = ls at hl ⊢
  have hl : lv_has ls 3 [(0, .ref h0), (1, .int x0)] := hl
  refine lv_iload_n hx hb dX0_need_0 rfl (lv_at hl 1 rfl) ?_
  refine lv_iconst (v := nI 1) hx hb dX0_need_1 (by decide) ?_
  refine lv_icmp_lt (tgt := 12) hx hb dX0_need_2 rfl (fun h2 => ?_) (fun h2 => ?_)
  · skip
    have q2 := bb_nle h2
    exact bb_throwS (k := 43) (tx := "no such need") bb_eA hx hb htr hown (fun w9 h9 => hts w9 (List.mem_cons_of_mem _ h9)) hZ (by decide +kernel) (hl.1.trans hml.symm) dX0_need_12 dX0_need_15 dX0_need_16 dX0_need_18 dX0_need_21 hout hlocks (Nat.le_of_ble_eq_true rfl) (Nat.le_of_ble_eq_true rfl) (Nat.le_of_ble_eq_true rfl) (Nat.le_of_ble_eq_true rfl)
  · skip
    have q2 := bb_le h2
    refine lv_iload_n hx hb dX0_need_5 rfl (lv_at hl 1 rfl) ?_
    refine lv_sipush (v := nI 500) hx hb dX0_need_6 (by decide) ?_
    refine lv_icmp_le (tgt := 22) hx hb dX0_need_9 rfl (fun h9 => (hbad.elim h2 (fun q9 => q9 h9)).elim) (fun h9 => ?_)
    have q9 := bb_lt h9
    exact bb_throwS (k := 43) (tx := "no such need") bb_eA hx hb htr hown (fun w9 h9 => hts w9 (List.mem_cons_of_mem _ h9)) hZ (by decide +kernel) (hl.1.trans hml.symm) dX0_need_12 dX0_need_15 dX0_need_16 dX0_need_18 dX0_need_21 hout hlocks (Nat.le_of_ble_eq_true rfl) (Nat.le_of_ble_eq_true rfl) (Nat.le_of_ble_eq_true rfl) (Nat.le_of_ble_eq_true rfl)

set_option maxHeartbeats 4000000 in
set_option maxRecDepth 100000 in
theorem t_promise2 (l : Launch) (htr : l.stackTraces = false) (Bd : Nat) (dC : Nat → ClassId) (dI : Nat → Nat → Nat) (cA : ClassId) (h0 a0 a1 a2 a3 : Nat) (w pr vo vf : Nat → Int32) (k : Int32) (n : Nat) (hn0 : n < 10) (b : Nat) (hb0 : b < 31) (hp : ¬ pr n ≤ nI b) : bb_MT l yX0_promise wsX0_promise ({ frames := 7, cells := 1, slots := 6, locals := 130 }) (bb_Pt [.ref h0, .int (nI n), .int (nI b)] (dC, dI) vwCl (bb_C h0 a0 a1 a2 a3 cA w pr vo vf k) [(cA, .int)] Bd) ISE := by
  refine bb_MT_of (cc := cX0_promise) (maxL := 4) (ret := some .int) (by decide) rfl ?_
  intro p e s m args below meth c s₁ B hml hv
  obtain ⟨rfl, ⟨hP, hK⟩, hZ⟩ := hv
  have hx := B.exec
  have hb := B.bytes
  have hts := atoms_spec (ws := wsX0_promise) B.pre
  have hout : c.exceptionTable.toList = [] := bb_noH (B.noHandlers (hts _ List.mem_cons_self))
  have hown : s.vm.findClass RX0 = some m.cls := findClass_of_methodNamed B.named
  have hlocks := B.notSynchronized
  have hin : ∀ w9 ∈ u_ws RX0 TX0 5, w9 ∈ wsX0_promise := fun w9 h9 => List.mem_cons_of_mem _ (bb_inX0 w9 h9)
  have hf13 := hts _ (List.mem_cons_of_mem _ bb_fX0_13)
  have hl := lv_entry ([.ref h0, .int (nI n), .int (nI b)]) (n := 4) (Nat.le_of_ble_eq_true rfl)
  rw [lg_entry_eq]
  generalize (lg_sl ([.ref h0, .int (nI n), .int (nI b)]) ++ List.replicate (4 - (lg_sl ([.ref h0, .int (nI n), .int (nI b)])).length) Slot.unset).toArray = ls at hl ⊢
  have hl : lv_has ls 4 [(0, .ref h0), (1, .int (nI n)), (2, .int (nI b))] := hl
  refine lv_iload_n hx hb dX0_promise_0 rfl (lv_at hl 1 rfl) ?_
  refine bb_cSv (As := [.int (nI n)]) (rest := []) ⟨hx, hb, hml, hown, hts⟩ (k_requireNode l n (by omega)) (cwS 1 hts gX0_promise_X0_requireNode rfl rfl rfl (by decide +kernel) ⟨Nat.le_of_ble_eq_true rfl, Nat.le_of_ble_eq_true rfl⟩) rfl hl.1 rfl (Nat.le_of_ble_eq_true rfl) dX0_promise_1 (Nat.zero_le _) (Nat.zero_le _) ?_
  refine lv_iload_n hx hb dX0_promise_4 rfl (lv_at hl 2 rfl) ?_
  refine bb_cSv (As := [.int (nI b)]) (rest := []) ⟨hx, hb, hml, hown, hts⟩ (k_requireBallot l b (by omega)) (cwS 1 hts gX0_promise_X0_requireBallot rfl rfl rfl (by decide +kernel) ⟨Nat.le_of_ble_eq_true rfl, Nat.le_of_ble_eq_true rfl⟩) rfl hl.1 rfl (Nat.le_of_ble_eq_true rfl) dX0_promise_5 (Nat.zero_le _) (Nat.zero_le _) ?_
  refine lv_aload_n hx hb dX0_promise_8 rfl (lv_at hl 0 rfl) ?_
  refine va_get (D := (dC, dI)) (ci := 0) (v := .ref a1) (C := RX0) (T := TX0) (N := 5) hx hb hts hin hown hK hP 0 rfl rfl 1 (by decide) hf13 (fun _ h9 => h9) rfl dX0_promise_9 ?_
  refine lv_iload_n hx hb dX0_promise_12 rfl (lv_at hl 1 rfl) ?_
  refine bb_ald hx hb hK hP 2 0 rfl rfl n (by omega) (by decide) dX0_promise_13 ?_
  refine lv_istore_n (lv' := [(3, .int (pr n)), (0, .ref h0), (1, .int (nI n)), (2, .int (nI b))]) hx hb dX0_promise_14 rfl hl (by decide) rfl (fun ls hl => ?_)
  refine lv_iload_n hx hb dX0_promise_15 rfl (lv_at hl 0 rfl) ?_
  refine lv_iload_n hx hb dX0_promise_16 rfl (lv_at hl 3 rfl) ?_
  refine lv_icmp_le (tgt := 30) hx hb dX0_promise_17 rfl (fun h17 => absurd h17 hp) (fun h17 => ?_)
  have q17 := bb_lt h17
  exact bb_throwS (k := 50) (tx := "a higher ballot is promised") bb_eI hx hb htr hown (fun w9 h9 => hts w9 (List.mem_cons_of_mem _ h9)) hZ (by decide +kernel) (hl.1.trans hml.symm) dX0_promise_20 dX0_promise_23 dX0_promise_24 dX0_promise_26 dX0_promise_29 hout hlocks (Nat.le_of_ble_eq_true rfl) (Nat.le_of_ble_eq_true rfl) (Nat.le_of_ble_eq_true rfl) (Nat.le_of_ble_eq_true rfl)

set_option maxHeartbeats 4000000 in
set_option maxRecDepth 100000 in
theorem t_vote2 (l : Launch) (htr : l.stackTraces = false) (Bd : Nat) (dC : Nat → ClassId) (dI : Nat → Nat → Nat) (cA : ClassId) (h0 a0 a1 a2 a3 : Nat) (w pr vo vf : Nat → Int32) (k : Int32) (n : Nat) (hn0 : n < 10) (b : Nat) (hb0 : b < 31) (v : Nat) (hv0 : v < 10) (hb2 : (!bb_op pr vo b n || !bb_only vf b (nI v)) = true) : bb_MT l yX0_vote wsX0_vote ({ frames := 7, cells := 1, slots := 6, locals := 130 }) (bb_Pt [.ref h0, .int (nI n), .int (nI b), .int (nI v)] (dC, dI) vwCl (bb_C h0 a0 a1 a2 a3 cA w pr vo vf k) [(cA, .int)] Bd) ISE := by
  refine bb_MT_of (cc := cX0_vote) (maxL := 4) (ret := some .int) (by decide) rfl ?_
  intro p e s m args below meth c s₁ B hml hv
  obtain ⟨rfl, ⟨hP, hK⟩, hZ⟩ := hv
  have hx := B.exec
  have hb := B.bytes
  have hts := atoms_spec (ws := wsX0_vote) B.pre
  have hout : c.exceptionTable.toList = [] := bb_noH (B.noHandlers (hts _ List.mem_cons_self))
  have hown : s.vm.findClass RX0 = some m.cls := findClass_of_methodNamed B.named
  have hlocks := B.notSynchronized
  have hl := lv_entry ([.ref h0, .int (nI n), .int (nI b), .int (nI v)]) (n := 4) (Nat.le_of_ble_eq_true rfl)
  rw [lg_entry_eq]
  generalize (lg_sl ([.ref h0, .int (nI n), .int (nI b), .int (nI v)]) ++ List.replicate (4 - (lg_sl ([.ref h0, .int (nI n), .int (nI b), .int (nI v)])).length) Slot.unset).toArray = ls at hl ⊢
  have hl : lv_has ls 4 [(0, .ref h0), (1, .int (nI n)), (2, .int (nI b)), (3, .int (nI v))] := hl
  refine lv_iload_n hx hb dX0_vote_0 rfl (lv_at hl 1 rfl) ?_
  refine bb_cSv (As := [.int (nI n)]) (rest := []) ⟨hx, hb, hml, hown, hts⟩ (k_requireNode l n (by omega)) (cwS 1 hts gX0_vote_X0_requireNode rfl rfl rfl (by decide +kernel) ⟨Nat.le_of_ble_eq_true rfl, Nat.le_of_ble_eq_true rfl⟩) rfl hl.1 rfl (Nat.le_of_ble_eq_true rfl) dX0_vote_1 (Nat.zero_le _) (Nat.zero_le _) ?_
  refine lv_iload_n hx hb dX0_vote_4 rfl (lv_at hl 2 rfl) ?_
  refine bb_cSv (As := [.int (nI b)]) (rest := []) ⟨hx, hb, hml, hown, hts⟩ (k_requireBallot l b (by omega)) (cwS 1 hts gX0_vote_X0_requireBallot rfl rfl rfl (by decide +kernel) ⟨Nat.le_of_ble_eq_true rfl, Nat.le_of_ble_eq_true rfl⟩) rfl hl.1 rfl (Nat.le_of_ble_eq_true rfl) dX0_vote_5 (Nat.zero_le _) (Nat.zero_le _) ?_
  refine lv_iload_n hx hb dX0_vote_8 rfl (lv_at hl 3 rfl) ?_
  refine bb_cSv (As := [.int (nI v)]) (rest := []) ⟨hx, hb, hml, hown, hts⟩ (k_requireValue l v (by omega)) (cwS 1 hts gX0_vote_X0_requireValue rfl rfl rfl (by decide +kernel) ⟨Nat.le_of_ble_eq_true rfl, Nat.le_of_ble_eq_true rfl⟩) rfl hl.1 rfl (Nat.le_of_ble_eq_true rfl) dX0_vote_9 (Nat.zero_le _) (Nat.zero_le _) ?_
  refine lv_aload_n hx hb dX0_vote_12 rfl (lv_at hl 0 rfl) ?_
  refine lv_iload_n hx hb dX0_vote_13 rfl (lv_at hl 1 rfl) ?_
  refine lv_iload_n hx hb dX0_vote_14 rfl (lv_at hl 2 rfl) ?_
  refine bb_cV (As := [.int (nI n), .int (nI b)]) (rest := []) (r := bb_I (bb_op pr vo b n)) 0 ⟨hx, hb, hml, hown, hts⟩ (k_isOpen l dC dI cA h0 a0 a1 a2 a3 w pr vo vf k n b (by omega) (by omega)) (cwV 2 hts gX0_vote_X0_isOpen rfl rfl rfl (by decide +kernel) ⟨Nat.le_of_ble_eq_true rfl, Nat.le_of_ble_eq_true rfl⟩) hP hK rfl rfl rfl hl.1 rfl (Nat.le_of_ble_eq_true rfl) dX0_vote_15 (Nat.zero_le _) (Nat.zero_le _) ?_
  refine lv_if_ne (tgt := 31) hx hb dX0_vote_18 rfl (fun h18 => ?_) (fun h18 => ?_)
  · skip
    have q18 := bb_nz h18
    refine lv_aload_n hx hb dX0_vote_31 rfl (lv_at hl 0 rfl) ?_
    refine lv_iload_n hx hb dX0_vote_32 rfl (lv_at hl 2 rfl) ?_
    refine lv_iload_n hx hb dX0_vote_33 rfl (lv_at hl 3 rfl) ?_
    refine bb_cV (As := [.int (nI b), .int (nI v)]) (rest := []) (r := bb_I (bb_only vf b (nI v))) 0 ⟨hx, hb, hml, hown, hts⟩ (k_isOnlyValue l dC dI cA h0 a0 a1 a2 a3 w pr vo vf k b (nI v) (by omega)) (cwV 2 hts gX0_vote_X0_isOnlyValue rfl rfl rfl (by decide +kernel) ⟨Nat.le_of_ble_eq_true rfl, Nat.le_of_ble_eq_true rfl⟩) hP hK rfl rfl rfl hl.1 rfl (Nat.le_of_ble_eq_true rfl) dX0_vote_34 (Nat.zero_le _) (Nat.zero_le _) ?_
    refine lv_if_ne (tgt := 50) hx hb dX0_vote_37 rfl (fun h37 => absurd hb2 (by rw [q18, bb_nz h37]; decide)) (fun h37 => ?_)
    have q37 := bb_I_0.mp h37
    exact bb_throwS (k := 65) (tx := "another value has a vote there") bb_eI hx hb htr hown (fun w9 h9 => hts w9 (List.mem_cons_of_mem _ h9)) hZ (by decide +kernel) (hl.1.trans hml.symm) dX0_vote_40 dX0_vote_43 dX0_vote_44 dX0_vote_46 dX0_vote_49 hout hlocks (Nat.le_of_ble_eq_true rfl) (Nat.le_of_ble_eq_true rfl) (Nat.le_of_ble_eq_true rfl) (Nat.le_of_ble_eq_true rfl)
  · skip
    have q18 := bb_I_0.mp h18
    exact bb_throwS (k := 60) (tx := "the node is not open there") bb_eI hx hb htr hown (fun w9 h9 => hts w9 (List.mem_cons_of_mem _ h9)) hZ (by decide +kernel) (hl.1.trans hml.symm) dX0_vote_21 dX0_vote_24 dX0_vote_25 dX0_vote_27 dX0_vote_30 hout hlocks (Nat.le_of_ble_eq_true rfl) (Nat.le_of_ble_eq_true rfl) (Nat.le_of_ble_eq_true rfl) (Nat.le_of_ble_eq_true rfl)

set_option maxHeartbeats 4000000 in
set_option maxRecDepth 100000 in
theorem t_ask2 (l : Launch) (htr : l.stackTraces = false) (Bd : Nat) (dC : Nat → ClassId) (dI : Nat → Nat → Nat) (cA : ClassId) (h0 a0 a1 a2 a3 : Nat) (w pr vo vf : Nat → Int32) (k : Int32) (a : Nat) (ha0 : a < 1024) (b : Nat) (hb0 : b < 31) (hb2 : (!bb_en w k (nI a) || !decide (bb_hm pr (nI a) 10 ≤ nI b)) = true) : bb_MT l yX0_ask wsX0_ask ({ frames := 7, cells := 1, slots := 6, locals := 130 }) (bb_Pt [.ref h0, .int (nI a), .int (nI b)] (dC, dI) vwCl (bb_C h0 a0 a1 a2 a3 cA w pr vo vf k) [(cA, .int)] Bd) ISE := by
  refine bb_MT_of (cc := cX0_ask) (maxL := 4) (ret := some .int) (by decide) rfl ?_
  intro p e s m args below meth c s₁ B hml hv
  obtain ⟨rfl, ⟨hP, hK⟩, hZ⟩ := hv
  have hx := B.exec
  have hb := B.bytes
  have hts := atoms_spec (ws := wsX0_ask) B.pre
  have hout : c.exceptionTable.toList = [] := bb_noH (B.noHandlers (hts _ List.mem_cons_self))
  have hown : s.vm.findClass RX0 = some m.cls := findClass_of_methodNamed B.named
  have hlocks := B.notSynchronized
  have hl := lv_entry ([.ref h0, .int (nI a), .int (nI b)]) (n := 4) (Nat.le_of_ble_eq_true rfl)
  rw [lg_entry_eq]
  generalize (lg_sl ([.ref h0, .int (nI a), .int (nI b)]) ++ List.replicate (4 - (lg_sl ([.ref h0, .int (nI a), .int (nI b)])).length) Slot.unset).toArray = ls at hl ⊢
  have hl : lv_has ls 4 [(0, .ref h0), (1, .int (nI a)), (2, .int (nI b))] := hl
  refine lv_iload_n hx hb dX0_ask_0 rfl (lv_at hl 1 rfl) ?_
  refine bb_cSv (As := [.int (nI a)]) (rest := []) ⟨hx, hb, hml, hown, hts⟩ (k_requireSet l a (by omega)) (cwS 1 hts gX0_ask_X0_requireSet rfl rfl rfl (by decide +kernel) ⟨Nat.le_of_ble_eq_true rfl, Nat.le_of_ble_eq_true rfl⟩) rfl hl.1 rfl (Nat.le_of_ble_eq_true rfl) dX0_ask_1 (Nat.zero_le _) (Nat.zero_le _) ?_
  refine lv_iload_n hx hb dX0_ask_4 rfl (lv_at hl 2 rfl) ?_
  refine bb_cSv (As := [.int (nI b)]) (rest := []) ⟨hx, hb, hml, hown, hts⟩ (k_requireBallot l b (by omega)) (cwS 1 hts gX0_ask_X0_requireBallot rfl rfl rfl (by decide +kernel) ⟨Nat.le_of_ble_eq_true rfl, Nat.le_of_ble_eq_true rfl⟩) rfl hl.1 rfl (Nat.le_of_ble_eq_true rfl) dX0_ask_5 (Nat.zero_le _) (Nat.zero_le _) ?_
  refine lv_aload_n hx hb dX0_ask_8 rfl (lv_at hl 0 rfl) ?_
  refine lv_iload_n hx hb dX0_ask_9 rfl (lv_at hl 1 rfl) ?_
  refine bb_cV (As := [.int (nI a)]) (rest := []) (r := bb_I (bb_en w k (nI a))) 0 ⟨hx, hb, hml, hown, hts⟩ (k_isEnough l dC dI cA h0 a0 a1 a2 a3 w pr vo vf k (nI a)) (cwV 1 hts gX0_ask_X0_isEnough rfl rfl rfl (by decide +kernel) ⟨Nat.le_of_ble_eq_true rfl, Nat.le_of_ble_eq_true rfl⟩) hP hK rfl rfl rfl hl.1 rfl (Nat.le_of_ble_eq_true rfl) dX0_ask_10 (Nat.zero_le _) (Nat.zero_le _) ?_
  refine lv_if_ne (tgt := 26) hx hb dX0_ask_13 rfl (fun h13 => ?_) (fun h13 => ?_)
  · skip
    have q13 := bb_nz h13
    refine lv_aload_n hx hb dX0_ask_26 rfl (lv_at hl 0 rfl) ?_
    refine lv_iload_n hx hb dX0_ask_27 rfl (lv_at hl 1 rfl) ?_
    refine bb_cV (As := [.int (nI a)]) (rest := []) (r := bb_hm pr (nI a) 10) 0 ⟨hx, hb, hml, hown, hts⟩ (k_highestPromise l dC dI cA h0 a0 a1 a2 a3 w pr vo vf k (nI a)) (cwV 1 hts gX0_ask_X0_highestPromise rfl rfl rfl (by decide +kernel) ⟨Nat.le_of_ble_eq_true rfl, Nat.le_of_ble_eq_true rfl⟩) hP hK rfl rfl rfl hl.1 rfl (Nat.le_of_ble_eq_true rfl) dX0_ask_28 (Nat.zero_le _) (Nat.zero_le _) ?_
    refine lv_iload_n hx hb dX0_ask_31 rfl (lv_at hl 2 rfl) ?_
    refine lv_icmp_le (tgt := 45) hx hb dX0_ask_32 rfl (fun h32 => absurd hb2 (by rw [q13, decide_eq_true h32]; decide)) (fun h32 => ?_)
    have q32 := bb_lt h32
    exact bb_throwS (k := 85) (tx := "one has promised a higher ballot") bb_eI hx hb htr hown (fun w9 h9 => hts w9 (List.mem_cons_of_mem _ h9)) hZ (by decide +kernel) (hl.1.trans hml.symm) dX0_ask_35 dX0_ask_38 dX0_ask_39 dX0_ask_41 dX0_ask_44 hout hlocks (Nat.le_of_ble_eq_true rfl) (Nat.le_of_ble_eq_true rfl) (Nat.le_of_ble_eq_true rfl) (Nat.le_of_ble_eq_true rfl)
  · skip
    have q13 := bb_I_0.mp h13
    exact bb_throwS (k := 80) (tx := "the set is not enough") bb_eI hx hb htr hown (fun w9 h9 => hts w9 (List.mem_cons_of_mem _ h9)) hZ (by decide +kernel) (hl.1.trans hml.symm) dX0_ask_16 dX0_ask_19 dX0_ask_20 dX0_ask_22 dX0_ask_25 hout hlocks (Nat.le_of_ble_eq_true rfl) (Nat.le_of_ble_eq_true rfl) (Nat.le_of_ble_eq_true rfl) (Nat.le_of_ble_eq_true rfl)

set_option maxHeartbeats 4000000 in
set_option maxRecDepth 100000 in
theorem t_about2 (l : Launch) (htr : l.stackTraces = false) (Bd : Nat) (dC : Nat → ClassId) (dI : Nat → Nat → Nat) (cA : ClassId) (h0 a0 a1 a2 a3 : Nat) (w pr vo vf : Nat → Int32) (k : Int32) (n : Nat) (hn0 : n < 10) (x1 : Int32) (hbad : x1.toInt < 0 ∨ 3 < x1.toInt) : bb_MT l yX0_about wsX0_about ({ frames := 7, cells := 1, slots := 6, locals := 130 }) (bb_Pt [.ref h0, .int (nI n), .int x1] (dC, dI) vwCl (bb_C h0 a0 a1 a2 a3 cA w pr vo vf k) [(cA, .int)] Bd) IAE := by
  refine bb_MT_of (cc := cX0_about) (maxL := 3) (ret := some .int) (by decide) rfl ?_
  intro p e s m args below meth c s₁ B hml hv
  obtain ⟨rfl, ⟨hP, hK⟩, hZ⟩ := hv
  have hx := B.exec
  have hb := B.bytes
  have hts := atoms_spec (ws := wsX0_about) B.pre
  have hout : c.exceptionTable.toList = [] := bb_noH (B.noHandlers (hts _ List.mem_cons_self))
  have hown : s.vm.findClass RX0 = some m.cls := findClass_of_methodNamed B.named
  have hlocks := B.notSynchronized
  have hl := lv_entry ([.ref h0, .int (nI n), .int x1]) (n := 3) (Nat.le_of_ble_eq_true rfl)
  rw [lg_entry_eq]
  generalize (lg_sl ([.ref h0, .int (nI n), .int x1]) ++ List.replicate (3 - (lg_sl ([.ref h0, .int (nI n), .int x1])).length) Slot.unset).toArray = ls at hl ⊢
  have hl : lv_has ls 3 [(0, .ref h0), (1, .int (nI n)), (2, .int x1)] := hl
  refine lv_iload_n hx hb dX0_about_0 rfl (lv_at hl 1 rfl) ?_
  refine bb_cSv (As := [.int (nI n)]) (rest := []) ⟨hx, hb, hml, hown, hts⟩ (k_requireNode l n (by omega)) (cwS 1 hts gX0_about_X0_requireNode rfl rfl rfl (by decide +kernel) ⟨Nat.le_of_ble_eq_true rfl, Nat.le_of_ble_eq_true rfl⟩) rfl hl.1 rfl (Nat.le_of_ble_eq_true rfl) dX0_about_1 (Nat.zero_le _) (Nat.zero_le _) ?_
  refine lv_iload_n hx hb dX0_about_4 rfl (lv_at hl 2 rfl) ?_
  refine lv_tableOut (tgt := 66) hx hb dX0_about_5 (hbad) rfl ?_
  exact bb_throwS (k := 110) (tx := "no such what") bb_eA hx hb htr hown (fun w9 h9 => hts w9 (List.mem_cons_of_mem _ h9)) hZ (by decide +kernel) (hl.1.trans hml.symm) dX0_about_66 dX0_about_69 dX0_about_70 dX0_about_72 dX0_about_75 hout hlocks (Nat.le_of_ble_eq_true rfl) (Nat.le_of_ble_eq_true rfl) (Nat.le_of_ble_eq_true rfl) (Nat.le_of_ble_eq_true rfl)
end
