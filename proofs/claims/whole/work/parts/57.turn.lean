/-! a turn of the law -/
theorem T_weight {p : Program} {l : Launch} {e : Env} {s : State} {m : MethodId} {below : List Frame} {meth : Method} {c : Code} {Q : State → Prop} {b L : Nat} {xs : Nat → Int32} {dC : Nat → ClassId} {dI : Nat → Nat → Nat} {cA cL : ClassId} (X : bb_Cx p l s m c b L xs dC dI cA cL) {g0 b0 b1 b2 h0 a0 a1 a2 a3 o0 : Nat} {w pr vo vf vt : Nat → Int32} {k th : Int32} {fo : Nat → Int64} {H : Heap} {locs : List Loc} {ls : Array Slot} {j : Nat} (hj : 4 * j + 3 < L) (hok : bb_ok w k pr vo vf vt)
    (hP : va_P (dC, dI) vwCl (bb_F g0 b0 b1 b2 h0 a0 a1 a2 a3 o0 cA cL w pr vo vf vt k th fo) H) (hD : va_D (bb_A s) (bb_F g0 b0 b1 b2 h0 a0 a1 a2 a3 o0 cA cL w pr vo vf vt k th fo)) (hS : va_S (bb_A s) s.heap H locs) (hl : lv_has ls 7 (bb_ll b h0 g0 o0 j)) (K : bb_K p l e s m below meth c b dC dI cA cL g0 b0 b1 b2 h0 a0 a1 a2 a3 o0 j Q) : W p l e room_1 s m #[Value.ref b] below meth c H locs (10 + j) (423 + 6 * j) Q (F0 m 120 ls []) := by
  rcases bb_out_or (xs (4 * j + 1)) (N := 10) (by decide) with h | ⟨n, hn, e1⟩
  · exact L_weight1 X hj hok hP hD hS hl K _ _ h rfl rfl
  by_cases h2 : xs (4 * j + 2) < 0 ∨ ¬ xs (4 * j + 2) ≤ nI 50
  · exact L_weight2 X hj hok hP hD hS hl K n hn _ h2 e1 rfl
  obtain ⟨a, ha, e2⟩ := bb_in_le (by decide) h2
  exact L_weight X hj hok hP hD hS hl K n hn a ha e1 e2
theorem T_need {p : Program} {l : Launch} {e : Env} {s : State} {m : MethodId} {below : List Frame} {meth : Method} {c : Code} {Q : State → Prop} {b L : Nat} {xs : Nat → Int32} {dC : Nat → ClassId} {dI : Nat → Nat → Nat} {cA cL : ClassId} (X : bb_Cx p l s m c b L xs dC dI cA cL) {g0 b0 b1 b2 h0 a0 a1 a2 a3 o0 : Nat} {w pr vo vf vt : Nat → Int32} {k th : Int32} {fo : Nat → Int64} {H : Heap} {locs : List Loc} {ls : Array Slot} {j : Nat} (hj : 4 * j + 3 < L) (hok : bb_ok w k pr vo vf vt)
    (hP : va_P (dC, dI) vwCl (bb_F g0 b0 b1 b2 h0 a0 a1 a2 a3 o0 cA cL w pr vo vf vt k th fo) H) (hD : va_D (bb_A s) (bb_F g0 b0 b1 b2 h0 a0 a1 a2 a3 o0 cA cL w pr vo vf vt k th fo)) (hS : va_S (bb_A s) s.heap H locs) (hl : lv_has ls 7 (bb_ll b h0 g0 o0 j)) (K : bb_K p l e s m below meth c b dC dI cA cL g0 b0 b1 b2 h0 a0 a1 a2 a3 o0 j Q) : W p l e room_1 s m #[Value.ref b] below meth c H locs (10 + j) (423 + 6 * j) Q (F0 m 188 ls []) := by
  by_cases h2 : xs (4 * j + 1) < nI 1 ∨ ¬ xs (4 * j + 1) ≤ nI 500
  · exact L_need1 X hj hok hP hD hS hl K _ h2 rfl
  obtain ⟨a, ha1, ha, e1⟩ := bb_in_need h2
  exact L_need X hj hok hP hD hS hl K a ha1 ha e1
theorem T_promise {p : Program} {l : Launch} {e : Env} {s : State} {m : MethodId} {below : List Frame} {meth : Method} {c : Code} {Q : State → Prop} {b L : Nat} {xs : Nat → Int32} {dC : Nat → ClassId} {dI : Nat → Nat → Nat} {cA cL : ClassId} (X : bb_Cx p l s m c b L xs dC dI cA cL) {g0 b0 b1 b2 h0 a0 a1 a2 a3 o0 : Nat} {w pr vo vf vt : Nat → Int32} {k th : Int32} {fo : Nat → Int64} {H : Heap} {locs : List Loc} {ls : Array Slot} {j : Nat} (hj : 4 * j + 3 < L) (hok : bb_ok w k pr vo vf vt)
    (hP : va_P (dC, dI) vwCl (bb_F g0 b0 b1 b2 h0 a0 a1 a2 a3 o0 cA cL w pr vo vf vt k th fo) H) (hD : va_D (bb_A s) (bb_F g0 b0 b1 b2 h0 a0 a1 a2 a3 o0 cA cL w pr vo vf vt k th fo)) (hS : va_S (bb_A s) s.heap H locs) (hl : lv_has ls 7 (bb_ll b h0 g0 o0 j)) (K : bb_K p l e s m below meth c b dC dI cA cL g0 b0 b1 b2 h0 a0 a1 a2 a3 o0 j Q) : W p l e room_1 s m #[Value.ref b] below meth c H locs (10 + j) (423 + 6 * j) Q (F0 m 244 ls []) := by
  rcases bb_out_or (xs (4 * j + 1)) (N := 10) (by decide) with h | ⟨n, hn, e1⟩
  · exact L_promise1 X hj hok hP hD hS hl K _ _ (by simp [h]) rfl rfl
  rcases bb_out_or (xs (4 * j + 2)) (N := 31) (by decide) with h | ⟨b9, hb9, e2⟩
  · exact L_promise1 X hj hok hP hD hS hl K _ _ (by simp [h]) rfl rfl
  by_cases hp : pr n ≤ nI b9
  · exact L_promise X hj hok hP hD hS hl K n hn b9 hb9 hp e1 e2
  · exact L_promise2 X hj hok hP hD hS hl K n hn b9 hb9 hp e1 e2
theorem T_vote {p : Program} {l : Launch} {e : Env} {s : State} {m : MethodId} {below : List Frame} {meth : Method} {c : Code} {Q : State → Prop} {b L : Nat} {xs : Nat → Int32} {dC : Nat → ClassId} {dI : Nat → Nat → Nat} {cA cL : ClassId} (X : bb_Cx p l s m c b L xs dC dI cA cL) {g0 b0 b1 b2 h0 a0 a1 a2 a3 o0 : Nat} {w pr vo vf vt : Nat → Int32} {k th : Int32} {fo : Nat → Int64} {H : Heap} {locs : List Loc} {ls : Array Slot} {j : Nat} (hj : 4 * j + 3 < L) (hok : bb_ok w k pr vo vf vt)
    (hP : va_P (dC, dI) vwCl (bb_F g0 b0 b1 b2 h0 a0 a1 a2 a3 o0 cA cL w pr vo vf vt k th fo) H) (hD : va_D (bb_A s) (bb_F g0 b0 b1 b2 h0 a0 a1 a2 a3 o0 cA cL w pr vo vf vt k th fo)) (hS : va_S (bb_A s) s.heap H locs) (hl : lv_has ls 7 (bb_ll b h0 g0 o0 j)) (K : bb_K p l e s m below meth c b dC dI cA cL g0 b0 b1 b2 h0 a0 a1 a2 a3 o0 j Q) : W p l e room_1 s m #[Value.ref b] below meth c H locs (10 + j) (423 + 6 * j) Q (F0 m 312 ls []) := by
  rcases bb_out_or (xs (4 * j + 1)) (N := 10) (by decide) with h | ⟨n, hn, e1⟩
  · exact L_vote1 X hj hok hP hD hS hl K _ _ _ (by simp [h]) rfl rfl rfl
  rcases bb_out_or (xs (4 * j + 2)) (N := 31) (by decide) with h | ⟨b9, hb9, e2⟩
  · exact L_vote1 X hj hok hP hD hS hl K _ _ _ (by simp [h]) rfl rfl rfl
  rcases bb_out_or (xs (4 * j + 3)) (N := 10) (by decide) with h | ⟨v, hv, e3⟩
  · exact L_vote1 X hj hok hP hD hS hl K _ _ _ (by simp [h]) rfl rfl rfl
  by_cases hb2 : (!bb_op pr vo b9 n || !bb_only vf b9 (nI v)) = true
  · exact L_vote2 X hj hok hP hD hS hl K n hn b9 hb9 v hv hb2 e1 e2 e3
  have h3 : bb_op pr vo b9 n = true := by cases h4 : bb_op pr vo b9 n with | true => rfl | false => exact absurd (by rw [h4]; rfl) hb2
  have h5 : bb_only vf b9 (nI v) = true := by cases h4 : bb_only vf b9 (nI v) with | true => rfl | false => exact absurd (by rw [h4, Bool.not_false, Bool.or_true]) hb2
  exact L_vote X hj hok hP hD hS hl K n hn b9 hb9 v hv h3 h5 e1 e2 e3
theorem T_ask {p : Program} {l : Launch} {e : Env} {s : State} {m : MethodId} {below : List Frame} {meth : Method} {c : Code} {Q : State → Prop} {b L : Nat} {xs : Nat → Int32} {dC : Nat → ClassId} {dI : Nat → Nat → Nat} {cA cL : ClassId} (X : bb_Cx p l s m c b L xs dC dI cA cL) {g0 b0 b1 b2 h0 a0 a1 a2 a3 o0 : Nat} {w pr vo vf vt : Nat → Int32} {k th : Int32} {fo : Nat → Int64} {H : Heap} {locs : List Loc} {ls : Array Slot} {j : Nat} (hj : 4 * j + 3 < L) (hok : bb_ok w k pr vo vf vt)
    (hP : va_P (dC, dI) vwCl (bb_F g0 b0 b1 b2 h0 a0 a1 a2 a3 o0 cA cL w pr vo vf vt k th fo) H) (hD : va_D (bb_A s) (bb_F g0 b0 b1 b2 h0 a0 a1 a2 a3 o0 cA cL w pr vo vf vt k th fo)) (hS : va_S (bb_A s) s.heap H locs) (hl : lv_has ls 7 (bb_ll b h0 g0 o0 j)) (K : bb_K p l e s m below meth c b dC dI cA cL g0 b0 b1 b2 h0 a0 a1 a2 a3 o0 j Q) : W p l e room_1 s m #[Value.ref b] below meth c H locs (10 + j) (423 + 6 * j) Q (F0 m 392 ls []) := by
  rcases bb_out_or (xs (4 * j + 1)) (N := 1024) (by decide) with h | ⟨a, ha, e1⟩
  · exact L_ask1 X hj hok hP hD hS hl K _ _ (by simp [h]) rfl rfl
  rcases bb_out_or (xs (4 * j + 2)) (N := 31) (by decide) with h | ⟨b9, hb9, e2⟩
  · exact L_ask1 X hj hok hP hD hS hl K _ _ (by simp [h]) rfl rfl
  by_cases hb2 : (!bb_en w k (nI a) || !decide (bb_hm pr (nI a) 10 ≤ nI b9)) = true
  · exact L_ask2 X hj hok hP hD hS hl K a ha b9 hb9 hb2 e1 e2
  have h3 : bb_en w k (nI a) = true := by cases h4 : bb_en w k (nI a) with | true => rfl | false => exact absurd (by rw [h4]; rfl) hb2
  have h5 : bb_hm pr (nI a) 10 ≤ nI b9 := Classical.byContradiction fun h4 => hb2 (by rw [decide_eq_false h4, Bool.not_false, Bool.or_true])
  exact L_ask X hj hok hP hD hS hl K a ha b9 hb9 h3 h5 e1 e2
theorem T_chosen {p : Program} {l : Launch} {e : Env} {s : State} {m : MethodId} {below : List Frame} {meth : Method} {c : Code} {Q : State → Prop} {b L : Nat} {xs : Nat → Int32} {dC : Nat → ClassId} {dI : Nat → Nat → Nat} {cA cL : ClassId} (X : bb_Cx p l s m c b L xs dC dI cA cL) {g0 b0 b1 b2 h0 a0 a1 a2 a3 o0 : Nat} {w pr vo vf vt : Nat → Int32} {k th : Int32} {fo : Nat → Int64} {H : Heap} {locs : List Loc} {ls : Array Slot} {j : Nat} (hj : 4 * j + 3 < L) (hok : bb_ok w k pr vo vf vt)
    (hP : va_P (dC, dI) vwCl (bb_F g0 b0 b1 b2 h0 a0 a1 a2 a3 o0 cA cL w pr vo vf vt k th fo) H) (hD : va_D (bb_A s) (bb_F g0 b0 b1 b2 h0 a0 a1 a2 a3 o0 cA cL w pr vo vf vt k th fo)) (hS : va_S (bb_A s) s.heap H locs) (hl : lv_has ls 7 (bb_ll b h0 g0 o0 j)) (K : bb_K p l e s m below meth c b dC dI cA cL g0 b0 b1 b2 h0 a0 a1 a2 a3 o0 j Q) : W p l e room_1 s m #[Value.ref b] below meth c H locs (10 + j) (423 + 6 * j) Q (F0 m 460 ls []) := by
  rcases bb_out_or (xs (4 * j + 1)) (N := 31) (by decide) with h | ⟨b9, hb9, e1⟩
  · exact L_chosen1 X hj hok hP hD hS hl K _ h rfl
  exact L_chosen X hj hok hP hD hS hl K b9 hb9 e1
theorem T_can {p : Program} {l : Launch} {e : Env} {s : State} {m : MethodId} {below : List Frame} {meth : Method} {c : Code} {Q : State → Prop} {b L : Nat} {xs : Nat → Int32} {dC : Nat → ClassId} {dI : Nat → Nat → Nat} {cA cL : ClassId} (X : bb_Cx p l s m c b L xs dC dI cA cL) {g0 b0 b1 b2 h0 a0 a1 a2 a3 o0 : Nat} {w pr vo vf vt : Nat → Int32} {k th : Int32} {fo : Nat → Int64} {H : Heap} {locs : List Loc} {ls : Array Slot} {j : Nat} (hj : 4 * j + 3 < L) (hok : bb_ok w k pr vo vf vt)
    (hP : va_P (dC, dI) vwCl (bb_F g0 b0 b1 b2 h0 a0 a1 a2 a3 o0 cA cL w pr vo vf vt k th fo) H) (hD : va_D (bb_A s) (bb_F g0 b0 b1 b2 h0 a0 a1 a2 a3 o0 cA cL w pr vo vf vt k th fo)) (hS : va_S (bb_A s) s.heap H locs) (hl : lv_has ls 7 (bb_ll b h0 g0 o0 j)) (K : bb_K p l e s m below meth c b dC dI cA cL g0 b0 b1 b2 h0 a0 a1 a2 a3 o0 j Q) : W p l e room_1 s m #[Value.ref b] below meth c H locs (10 + j) (423 + 6 * j) Q (F0 m 516 ls []) := by
  rcases bb_out_or (xs (4 * j + 1)) (N := 31) (by decide) with h | ⟨b9, hb9, e1⟩
  · exact L_can1 X hj hok hP hD hS hl K _ _ (by simp [h]) rfl rfl
  rcases bb_out_or (xs (4 * j + 2)) (N := 10) (by decide) with h | ⟨v, hv, e2⟩
  · exact L_can1 X hj hok hP hD hS hl K _ _ (by simp [h]) rfl rfl
  exact L_can X hj hok hP hD hS hl K b9 hb9 v hv e1 e2
theorem T_safe {p : Program} {l : Launch} {e : Env} {s : State} {m : MethodId} {below : List Frame} {meth : Method} {c : Code} {Q : State → Prop} {b L : Nat} {xs : Nat → Int32} {dC : Nat → ClassId} {dI : Nat → Nat → Nat} {cA cL : ClassId} (X : bb_Cx p l s m c b L xs dC dI cA cL) {g0 b0 b1 b2 h0 a0 a1 a2 a3 o0 : Nat} {w pr vo vf vt : Nat → Int32} {k th : Int32} {fo : Nat → Int64} {H : Heap} {locs : List Loc} {ls : Array Slot} {j : Nat} (hj : 4 * j + 3 < L) (hok : bb_ok w k pr vo vf vt)
    (hP : va_P (dC, dI) vwCl (bb_F g0 b0 b1 b2 h0 a0 a1 a2 a3 o0 cA cL w pr vo vf vt k th fo) H) (hD : va_D (bb_A s) (bb_F g0 b0 b1 b2 h0 a0 a1 a2 a3 o0 cA cL w pr vo vf vt k th fo)) (hS : va_S (bb_A s) s.heap H locs) (hl : lv_has ls 7 (bb_ll b h0 g0 o0 j)) (K : bb_K p l e s m below meth c b dC dI cA cL g0 b0 b1 b2 h0 a0 a1 a2 a3 o0 j Q) : W p l e room_1 s m #[Value.ref b] below meth c H locs (10 + j) (423 + 6 * j) Q (F0 m 591 ls []) := by
  rcases bb_out_or (xs (4 * j + 1)) (N := 31) (by decide) with h | ⟨b9, hb9, e1⟩
  · exact L_safe1 X hj hok hP hD hS hl K _ _ (by simp [h]) rfl rfl
  rcases bb_out_or (xs (4 * j + 2)) (N := 10) (by decide) with h | ⟨v, hv, e2⟩
  · exact L_safe1 X hj hok hP hD hS hl K _ _ (by simp [h]) rfl rfl
  exact L_safe X hj hok hP hD hS hl K b9 hb9 v hv e1 e2
theorem T_free {p : Program} {l : Launch} {e : Env} {s : State} {m : MethodId} {below : List Frame} {meth : Method} {c : Code} {Q : State → Prop} {b L : Nat} {xs : Nat → Int32} {dC : Nat → ClassId} {dI : Nat → Nat → Nat} {cA cL : ClassId} (X : bb_Cx p l s m c b L xs dC dI cA cL) {g0 b0 b1 b2 h0 a0 a1 a2 a3 o0 : Nat} {w pr vo vf vt : Nat → Int32} {k th : Int32} {fo : Nat → Int64} {H : Heap} {locs : List Loc} {ls : Array Slot} {j : Nat} (hj : 4 * j + 3 < L) (hok : bb_ok w k pr vo vf vt)
    (hP : va_P (dC, dI) vwCl (bb_F g0 b0 b1 b2 h0 a0 a1 a2 a3 o0 cA cL w pr vo vf vt k th fo) H) (hD : va_D (bb_A s) (bb_F g0 b0 b1 b2 h0 a0 a1 a2 a3 o0 cA cL w pr vo vf vt k th fo)) (hS : va_S (bb_A s) s.heap H locs) (hl : lv_has ls 7 (bb_ll b h0 g0 o0 j)) (K : bb_K p l e s m below meth c b dC dI cA cL g0 b0 b1 b2 h0 a0 a1 a2 a3 o0 j Q) : W p l e room_1 s m #[Value.ref b] below meth c H locs (10 + j) (423 + 6 * j) Q (F0 m 666 ls []) := by
  rcases bb_out_or (xs (4 * j + 1)) (N := 31) (by decide) with h | ⟨b9, hb9, e1⟩
  · exact L_free1 X hj hok hP hD hS hl K _ h rfl
  exact L_free X hj hok hP hD hS hl K b9 hb9 e1
theorem T_enough {p : Program} {l : Launch} {e : Env} {s : State} {m : MethodId} {below : List Frame} {meth : Method} {c : Code} {Q : State → Prop} {b L : Nat} {xs : Nat → Int32} {dC : Nat → ClassId} {dI : Nat → Nat → Nat} {cA cL : ClassId} (X : bb_Cx p l s m c b L xs dC dI cA cL) {g0 b0 b1 b2 h0 a0 a1 a2 a3 o0 : Nat} {w pr vo vf vt : Nat → Int32} {k th : Int32} {fo : Nat → Int64} {H : Heap} {locs : List Loc} {ls : Array Slot} {j : Nat} (hj : 4 * j + 3 < L) (hok : bb_ok w k pr vo vf vt)
    (hP : va_P (dC, dI) vwCl (bb_F g0 b0 b1 b2 h0 a0 a1 a2 a3 o0 cA cL w pr vo vf vt k th fo) H) (hD : va_D (bb_A s) (bb_F g0 b0 b1 b2 h0 a0 a1 a2 a3 o0 cA cL w pr vo vf vt k th fo)) (hS : va_S (bb_A s) s.heap H locs) (hl : lv_has ls 7 (bb_ll b h0 g0 o0 j)) (K : bb_K p l e s m below meth c b dC dI cA cL g0 b0 b1 b2 h0 a0 a1 a2 a3 o0 j Q) : W p l e room_1 s m #[Value.ref b] below meth c H locs (10 + j) (423 + 6 * j) Q (F0 m 722 ls []) := by
  rcases bb_out_or (xs (4 * j + 1)) (N := 1024) (by decide) with h | ⟨a, ha, e1⟩
  · exact L_enough1 X hj hok hP hD hS hl K _ h rfl
  exact L_enough X hj hok hP hD hS hl K a ha e1
theorem T_blocks {p : Program} {l : Launch} {e : Env} {s : State} {m : MethodId} {below : List Frame} {meth : Method} {c : Code} {Q : State → Prop} {b L : Nat} {xs : Nat → Int32} {dC : Nat → ClassId} {dI : Nat → Nat → Nat} {cA cL : ClassId} (X : bb_Cx p l s m c b L xs dC dI cA cL) {g0 b0 b1 b2 h0 a0 a1 a2 a3 o0 : Nat} {w pr vo vf vt : Nat → Int32} {k th : Int32} {fo : Nat → Int64} {H : Heap} {locs : List Loc} {ls : Array Slot} {j : Nat} (hj : 4 * j + 3 < L) (hok : bb_ok w k pr vo vf vt)
    (hP : va_P (dC, dI) vwCl (bb_F g0 b0 b1 b2 h0 a0 a1 a2 a3 o0 cA cL w pr vo vf vt k th fo) H) (hD : va_D (bb_A s) (bb_F g0 b0 b1 b2 h0 a0 a1 a2 a3 o0 cA cL w pr vo vf vt k th fo)) (hS : va_S (bb_A s) s.heap H locs) (hl : lv_has ls 7 (bb_ll b h0 g0 o0 j)) (K : bb_K p l e s m below meth c b dC dI cA cL g0 b0 b1 b2 h0 a0 a1 a2 a3 o0 j Q) : W p l e room_1 s m #[Value.ref b] below meth c H locs (10 + j) (423 + 6 * j) Q (F0 m 785 ls []) := by
  rcases bb_out_or (xs (4 * j + 1)) (N := 1024) (by decide) with h | ⟨a, ha, e1⟩
  · exact L_blocks1 X hj hok hP hD hS hl K _ h rfl
  exact L_blocks X hj hok hP hD hS hl K a ha e1
theorem T_sets {p : Program} {l : Launch} {e : Env} {s : State} {m : MethodId} {below : List Frame} {meth : Method} {c : Code} {Q : State → Prop} {b L : Nat} {xs : Nat → Int32} {dC : Nat → ClassId} {dI : Nat → Nat → Nat} {cA cL : ClassId} (X : bb_Cx p l s m c b L xs dC dI cA cL) {g0 b0 b1 b2 h0 a0 a1 a2 a3 o0 : Nat} {w pr vo vf vt : Nat → Int32} {k th : Int32} {fo : Nat → Int64} {H : Heap} {locs : List Loc} {ls : Array Slot} {j : Nat} (hj : 4 * j + 3 < L) (hok : bb_ok w k pr vo vf vt)
    (hP : va_P (dC, dI) vwCl (bb_F g0 b0 b1 b2 h0 a0 a1 a2 a3 o0 cA cL w pr vo vf vt k th fo) H) (hD : va_D (bb_A s) (bb_F g0 b0 b1 b2 h0 a0 a1 a2 a3 o0 cA cL w pr vo vf vt k th fo)) (hS : va_S (bb_A s) s.heap H locs) (hl : lv_has ls 7 (bb_ll b h0 g0 o0 j)) (K : bb_K p l e s m below meth c b dC dI cA cL g0 b0 b1 b2 h0 a0 a1 a2 a3 o0 j Q) : W p l e room_1 s m #[Value.ref b] below meth c H locs (10 + j) (423 + 6 * j) Q (F0 m 848 ls []) := by
  exact L_sets X hj hok hP hD hS hl K
theorem T_least {p : Program} {l : Launch} {e : Env} {s : State} {m : MethodId} {below : List Frame} {meth : Method} {c : Code} {Q : State → Prop} {b L : Nat} {xs : Nat → Int32} {dC : Nat → ClassId} {dI : Nat → Nat → Nat} {cA cL : ClassId} (X : bb_Cx p l s m c b L xs dC dI cA cL) {g0 b0 b1 b2 h0 a0 a1 a2 a3 o0 : Nat} {w pr vo vf vt : Nat → Int32} {k th : Int32} {fo : Nat → Int64} {H : Heap} {locs : List Loc} {ls : Array Slot} {j : Nat} (hj : 4 * j + 3 < L) (hok : bb_ok w k pr vo vf vt)
    (hP : va_P (dC, dI) vwCl (bb_F g0 b0 b1 b2 h0 a0 a1 a2 a3 o0 cA cL w pr vo vf vt k th fo) H) (hD : va_D (bb_A s) (bb_F g0 b0 b1 b2 h0 a0 a1 a2 a3 o0 cA cL w pr vo vf vt k th fo)) (hS : va_S (bb_A s) s.heap H locs) (hl : lv_has ls 7 (bb_ll b h0 g0 o0 j)) (K : bb_K p l e s m below meth c b dC dI cA cL g0 b0 b1 b2 h0 a0 a1 a2 a3 o0 j Q) : W p l e room_1 s m #[Value.ref b] below meth c H locs (10 + j) (423 + 6 * j) Q (F0 m 861 ls []) := by
  exact L_least X hj hok hP hD hS hl K
theorem T_meet {p : Program} {l : Launch} {e : Env} {s : State} {m : MethodId} {below : List Frame} {meth : Method} {c : Code} {Q : State → Prop} {b L : Nat} {xs : Nat → Int32} {dC : Nat → ClassId} {dI : Nat → Nat → Nat} {cA cL : ClassId} (X : bb_Cx p l s m c b L xs dC dI cA cL) {g0 b0 b1 b2 h0 a0 a1 a2 a3 o0 : Nat} {w pr vo vf vt : Nat → Int32} {k th : Int32} {fo : Nat → Int64} {H : Heap} {locs : List Loc} {ls : Array Slot} {j : Nat} (hj : 4 * j + 3 < L) (hok : bb_ok w k pr vo vf vt)
    (hP : va_P (dC, dI) vwCl (bb_F g0 b0 b1 b2 h0 a0 a1 a2 a3 o0 cA cL w pr vo vf vt k th fo) H) (hD : va_D (bb_A s) (bb_F g0 b0 b1 b2 h0 a0 a1 a2 a3 o0 cA cL w pr vo vf vt k th fo)) (hS : va_S (bb_A s) s.heap H locs) (hl : lv_has ls 7 (bb_ll b h0 g0 o0 j)) (K : bb_K p l e s m below meth c b dC dI cA cL g0 b0 b1 b2 h0 a0 a1 a2 a3 o0 j Q) : W p l e room_1 s m #[Value.ref b] below meth c H locs (10 + j) (423 + 6 * j) Q (F0 m 874 ls []) := by
  exact L_meet X hj hok hP hD hS hl K
theorem T_bare {p : Program} {l : Launch} {e : Env} {s : State} {m : MethodId} {below : List Frame} {meth : Method} {c : Code} {Q : State → Prop} {b L : Nat} {xs : Nat → Int32} {dC : Nat → ClassId} {dI : Nat → Nat → Nat} {cA cL : ClassId} (X : bb_Cx p l s m c b L xs dC dI cA cL) {g0 b0 b1 b2 h0 a0 a1 a2 a3 o0 : Nat} {w pr vo vf vt : Nat → Int32} {k th : Int32} {fo : Nat → Int64} {H : Heap} {locs : List Loc} {ls : Array Slot} {j : Nat} (hj : 4 * j + 3 < L) (hok : bb_ok w k pr vo vf vt)
    (hP : va_P (dC, dI) vwCl (bb_F g0 b0 b1 b2 h0 a0 a1 a2 a3 o0 cA cL w pr vo vf vt k th fo) H) (hD : va_D (bb_A s) (bb_F g0 b0 b1 b2 h0 a0 a1 a2 a3 o0 cA cL w pr vo vf vt k th fo)) (hS : va_S (bb_A s) s.heap H locs) (hl : lv_has ls 7 (bb_ll b h0 g0 o0 j)) (K : bb_K p l e s m below meth c b dC dI cA cL g0 b0 b1 b2 h0 a0 a1 a2 a3 o0 j Q) : W p l e room_1 s m #[Value.ref b] below meth c H locs (10 + j) (423 + 6 * j) Q (F0 m 887 ls []) := by
  exact L_bare X hj hok hP hD hS hl K
theorem T_about {p : Program} {l : Launch} {e : Env} {s : State} {m : MethodId} {below : List Frame} {meth : Method} {c : Code} {Q : State → Prop} {b L : Nat} {xs : Nat → Int32} {dC : Nat → ClassId} {dI : Nat → Nat → Nat} {cA cL : ClassId} (X : bb_Cx p l s m c b L xs dC dI cA cL) {g0 b0 b1 b2 h0 a0 a1 a2 a3 o0 : Nat} {w pr vo vf vt : Nat → Int32} {k th : Int32} {fo : Nat → Int64} {H : Heap} {locs : List Loc} {ls : Array Slot} {j : Nat} (hj : 4 * j + 3 < L) (hok : bb_ok w k pr vo vf vt)
    (hP : va_P (dC, dI) vwCl (bb_F g0 b0 b1 b2 h0 a0 a1 a2 a3 o0 cA cL w pr vo vf vt k th fo) H) (hD : va_D (bb_A s) (bb_F g0 b0 b1 b2 h0 a0 a1 a2 a3 o0 cA cL w pr vo vf vt k th fo)) (hS : va_S (bb_A s) s.heap H locs) (hl : lv_has ls 7 (bb_ll b h0 g0 o0 j)) (K : bb_K p l e s m below meth c b dC dI cA cL g0 b0 b1 b2 h0 a0 a1 a2 a3 o0 j Q) : W p l e room_1 s m #[Value.ref b] below meth c H locs (10 + j) (423 + 6 * j) Q (F0 m 900 ls []) := by
  rcases bb_out_or (xs (4 * j + 1)) (N := 10) (by decide) with h | ⟨n, hn, e1⟩
  · exact L_about1 X hj hok hP hD hS hl K _ _ h rfl rfl
  by_cases h2 : xs (4 * j + 2) < 0 ∨ ¬ xs (4 * j + 2) ≤ nI 3
  · exact L_about2 X hj hok hP hD hS hl K n hn _ h2 e1 rfl
  obtain ⟨a, ha, e2⟩ := bb_in_le (by decide) h2
  rcases (show a = 0 ∨ a = 1 ∨ a = 2 ∨ a = 3 by omega) with rfl | rfl | rfl | rfl
  · exact L_about_0 X hj hok hP hD hS hl K n hn e1 (e2.trans (by decide))
  · exact L_about_1 X hj hok hP hD hS hl K n hn e1 (e2.trans (by decide))
  · exact L_about_2 X hj hok hP hD hS hl K n hn e1 (e2.trans (by decide))
  · exact L_about_3 X hj hok hP hD hS hl K n hn e1 (e2.trans (by decide))
theorem T_count {p : Program} {l : Launch} {e : Env} {s : State} {m : MethodId} {below : List Frame} {meth : Method} {c : Code} {Q : State → Prop} {b L : Nat} {xs : Nat → Int32} {dC : Nat → ClassId} {dI : Nat → Nat → Nat} {cA cL : ClassId} (X : bb_Cx p l s m c b L xs dC dI cA cL) {g0 b0 b1 b2 h0 a0 a1 a2 a3 o0 : Nat} {w pr vo vf vt : Nat → Int32} {k th : Int32} {fo : Nat → Int64} {H : Heap} {locs : List Loc} {ls : Array Slot} {j : Nat} (hj : 4 * j + 3 < L) (hok : bb_ok w k pr vo vf vt)
    (hP : va_P (dC, dI) vwCl (bb_F g0 b0 b1 b2 h0 a0 a1 a2 a3 o0 cA cL w pr vo vf vt k th fo) H) (hD : va_D (bb_A s) (bb_F g0 b0 b1 b2 h0 a0 a1 a2 a3 o0 cA cL w pr vo vf vt k th fo)) (hS : va_S (bb_A s) s.heap H locs) (hl : lv_has ls 7 (bb_ll b h0 g0 o0 j)) (K : bb_K p l e s m below meth c b dC dI cA cL g0 b0 b1 b2 h0 a0 a1 a2 a3 o0 j Q) : W p l e room_1 s m #[Value.ref b] below meth c H locs (10 + j) (423 + 6 * j) Q (F0 m 968 ls []) := by
  by_cases h2 : (xs (4 * j + 1)).toInt < 0 ∨ 4 < (xs (4 * j + 1)).toInt
  · exact L_count_x X hj hok hP hD hS hl K _ h2 rfl
  obtain ⟨a, ha, e1⟩ := bb_in_le (N := 4) (by decide) (fun h3 => h2 ((bb_le_int (by decide)).mp h3))
  rcases (show a = 0 ∨ a = 1 ∨ a = 2 ∨ a = 3 ∨ a = 4 by omega) with rfl | rfl | rfl | rfl | rfl
  · exact L_count_0 X hj hok hP hD hS hl K (e1.trans (by decide))
  · exact L_count_1 X hj hok hP hD hS hl K (e1.trans (by decide))
  · exact L_count_2 X hj hok hP hD hS hl K (e1.trans (by decide))
  · exact L_count_3 X hj hok hP hD hS hl K (e1.trans (by decide))
  · exact L_count_4 X hj hok hP hD hS hl K (e1.trans (by decide))
theorem T_turn {p : Program} {l : Launch} {e : Env} {s : State} {m : MethodId} {below : List Frame} {meth : Method} {c : Code} {Q : State → Prop} {b L : Nat} {xs : Nat → Int32} {dC : Nat → ClassId} {dI : Nat → Nat → Nat} {cA cL : ClassId} (X : bb_Cx p l s m c b L xs dC dI cA cL) {g0 b0 b1 b2 h0 a0 a1 a2 a3 o0 : Nat} {w pr vo vf vt : Nat → Int32} {k th : Int32} {fo : Nat → Int64} {H : Heap} {locs : List Loc} {ls : Array Slot} {j : Nat} (hj : 4 * j + 3 < L) (hok : bb_ok w k pr vo vf vt)
    (hP : va_P (dC, dI) vwCl (bb_F g0 b0 b1 b2 h0 a0 a1 a2 a3 o0 cA cL w pr vo vf vt k th fo) H) (hD : va_D (bb_A s) (bb_F g0 b0 b1 b2 h0 a0 a1 a2 a3 o0 cA cL w pr vo vf vt k th fo)) (hS : va_S (bb_A s) s.heap H locs) (hl : lv_has ls 7 (bb_ll b h0 g0 o0 j)) (K : bb_K p l e s m below meth c b dC dI cA cL g0 b0 b1 b2 h0 a0 a1 a2 a3 o0 j Q) : W p l e room_1 s m #[Value.ref b] below meth c H locs (10 + j) (423 + 6 * j) Q (F0 m 39 ls [.int (xs (4 * j) &&& 31)]) := by
  have hx := X.1
  have hb : c.code = cL_law := X.2.1
  rcases bb_out_or (xs (4 * j) &&& 31) (N := 17) (by decide) with h | ⟨a, ha, e0⟩
  · refine lv_tableOut (tgt := 993) hx hb dL_law_39 ?_ rfl ?_
    · have h2 := bb_out_t h
      rw [Int32.lt_iff_toInt_lt, Int32.lt_iff_toInt_lt, nI_toInt (by decide), Int32.toInt_zero] at h2
      omega
    · refine W.widen (k := 11 + j) (n := 429 + 6 * j) (by omega) (by omega) ?_
      exact K _ _ _ _ _ _ _ _ _ _ _ hok hP hD hS hl
  · refine bb_topi e0 ?_
    rcases (show a = 0 ∨ a = 1 ∨ a = 2 ∨ a = 3 ∨ a = 4 ∨ a = 5 ∨ a = 6 ∨ a = 7 ∨ a = 8 ∨ a = 9 ∨ a = 10 ∨ a = 11 ∨ a = 12 ∨ a = 13 ∨ a = 14 ∨ a = 15 ∨ a = 16 by omega) with rfl | rfl | rfl | rfl | rfl | rfl | rfl | rfl | rfl | rfl | rfl | rfl | rfl | rfl | rfl | rfl | rfl
    · exact lv_tableIn (off := 81) (tgt := 120) hx hb dL_law_39 (by decide) (by decide) (by decide) rfl (T_weight X hj hok hP hD hS hl K)
    · exact lv_tableIn (off := 149) (tgt := 188) hx hb dL_law_39 (by decide) (by decide) (by decide) rfl (T_need X hj hok hP hD hS hl K)
    · exact lv_tableIn (off := 205) (tgt := 244) hx hb dL_law_39 (by decide) (by decide) (by decide) rfl (T_promise X hj hok hP hD hS hl K)
    · exact lv_tableIn (off := 273) (tgt := 312) hx hb dL_law_39 (by decide) (by decide) (by decide) rfl (T_vote X hj hok hP hD hS hl K)
    · exact lv_tableIn (off := 353) (tgt := 392) hx hb dL_law_39 (by decide) (by decide) (by decide) rfl (T_ask X hj hok hP hD hS hl K)
    · exact lv_tableIn (off := 421) (tgt := 460) hx hb dL_law_39 (by decide) (by decide) (by decide) rfl (T_chosen X hj hok hP hD hS hl K)
    · exact lv_tableIn (off := 477) (tgt := 516) hx hb dL_law_39 (by decide) (by decide) (by decide) rfl (T_can X hj hok hP hD hS hl K)
    · exact lv_tableIn (off := 552) (tgt := 591) hx hb dL_law_39 (by decide) (by decide) (by decide) rfl (T_safe X hj hok hP hD hS hl K)
    · exact lv_tableIn (off := 627) (tgt := 666) hx hb dL_law_39 (by decide) (by decide) (by decide) rfl (T_free X hj hok hP hD hS hl K)
    · exact lv_tableIn (off := 683) (tgt := 722) hx hb dL_law_39 (by decide) (by decide) (by decide) rfl (T_enough X hj hok hP hD hS hl K)
    · exact lv_tableIn (off := 746) (tgt := 785) hx hb dL_law_39 (by decide) (by decide) (by decide) rfl (T_blocks X hj hok hP hD hS hl K)
    · exact lv_tableIn (off := 809) (tgt := 848) hx hb dL_law_39 (by decide) (by decide) (by decide) rfl (T_sets X hj hok hP hD hS hl K)
    · exact lv_tableIn (off := 822) (tgt := 861) hx hb dL_law_39 (by decide) (by decide) (by decide) rfl (T_least X hj hok hP hD hS hl K)
    · exact lv_tableIn (off := 835) (tgt := 874) hx hb dL_law_39 (by decide) (by decide) (by decide) rfl (T_meet X hj hok hP hD hS hl K)
    · exact lv_tableIn (off := 848) (tgt := 887) hx hb dL_law_39 (by decide) (by decide) (by decide) rfl (T_bare X hj hok hP hD hS hl K)
    · exact lv_tableIn (off := 861) (tgt := 900) hx hb dL_law_39 (by decide) (by decide) (by decide) rfl (T_about X hj hok hP hD hS hl K)
    · exact lv_tableIn (off := 929) (tgt := 968) hx hb dL_law_39 (by decide) (by decide) (by decide) rfl (T_count X hj hok hP hD hS hl K)
