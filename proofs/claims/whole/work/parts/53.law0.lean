/-! the law's turns: what holds at the head of its loop, and rows for its script -/
abbrev bb_F (g0 b0 b1 b2 h0 a0 a1 a2 a3 o0 : Nat) (cA cL : ClassId) (w pr vo vf vt : Nat → Int32) (k th : Int32) (fo : Nat → Int64) : va_W := [(g0, .inr (1, [.ref b0, .ref b1, .ref b2, .int k, .int th])), (b0, .inl (cA, 10, .inl w)), (b1, .inl (cA, 10, .inl pr)), (b2, .inl (cA, 310, .inl vt)), (h0, .inr (0, [.ref a0, .ref a1, .ref a2, .ref a3, .int k])), (a0, .inl (cA, 10, .inl w)), (a1, .inl (cA, 10, .inl pr)), (a2, .inl (cA, 31, .inl vo)), (a3, .inl (cA, 31, .inl vf)), (o0, .inl (cL, 1, .inr (.inl fo)))]
abbrev bb_ll (b h0 g0 o0 j : Nat) : List (Nat × Value) := [(0, .ref b), (1, .ref h0), (2, .ref g0), (3, .ref o0), (4, .int (nI (4 * j)))]
def bb_A (s : State) : Nat → Prop := fun q => s.heap.size ≤ q
def bb_Cx (p : Program) (l : Launch) (s : State) (m : MethodId) (c : Code) (b L : Nat) (xs : Nat → Int32) (dC : Nat → ClassId) (dI : Nat → Nat → Nat) (cA cL : ClassId) : Prop :=
  p.tables.exec = Jvm.exec ∧ c.code = code ∧ c.maxLocals = 7 ∧ s.vm.findClass RL = some m.cls ∧ (∀ w ∈ wsL_law, w.before #[Value.ref b] s = true) ∧ va_X b L xs s s.heap ∧ b < s.heap.size ∧ va_K (dC, dI) vwCl [(cA, .int), (cL, .long)] s ∧ bb_TS s.heap.size s ∧ l.stackTraces = false ∧ L ≤ 2048
abbrev bb_K (p : Program) (l : Launch) (e : Env) (s : State) (m : MethodId) (below : List Frame) (meth : Method) (c : Code) (b : Nat) (dC : Nat → ClassId) (dI : Nat → Nat → Nat) (cA cL : ClassId) (g0 b0 b1 b2 h0 a0 a1 a2 a3 o0 j : Nat) (Q : State → Prop) : Prop :=
  ∀ (w pr vo vf vt : Nat → Int32) (k th : Int32) (fo : Nat → Int64) (H : Heap) (locs : List Loc) (ls : Array Slot), bb_ok w k pr vo vf vt → va_P (dC, dI) vwCl (bb_F g0 b0 b1 b2 h0 a0 a1 a2 a3 o0 cA cL w pr vo vf vt k th fo) H → va_D (bb_A s) (bb_F g0 b0 b1 b2 h0 a0 a1 a2 a3 o0 cA cL w pr vo vf vt k th fo) → va_S (bb_A s) s.heap H locs → lv_has ls 7 (bb_ll b h0 g0 o0 j) →
    W p l e room_1 s m #[Value.ref b] below meth c H locs (11 + j) (429 + 6 * j) Q (F0 m 993 ls [])
theorem bb_add1 (j : Nat) : nI (4 * j) + 1 = nI (4 * j + 1) := (nI_succ _).symm
theorem bb_add2 (j : Nat) : nI (4 * j) + 2 = nI (4 * j + 2) := by
  rw [nI_succ, nI_succ]
  rw [Int32.add_assoc]
  rfl
theorem bb_add3 (j : Nat) : nI (4 * j) + 3 = nI (4 * j + 3) := by
  rw [nI_succ, nI_succ, nI_succ]
  rw [Int32.add_assoc, Int32.add_assoc]
  rfl
theorem bb_add4 (j : Nat) : nI (4 * j) + Int32.ofInt 4 = nI (4 * (j + 1)) := by
  rw [show 4 * (j + 1) = 4 * j + 1 + 1 + 1 + 1 by omega, nI_succ, nI_succ, nI_succ, nI_succ]
  rw [Int32.add_assoc, Int32.add_assoc, Int32.add_assoc]
  rfl
theorem bb_cmp0 (x : Int64) : lg_cmp x x = 0 := by simp [lg_cmp]
theorem bb_cmp1 {b : Bool} (h : b = true) : lg_cmp (bb_L b) 1 = 0 := by rw [h]; decide
theorem bb_cmp2 {b : Bool} (h : b = false) : lg_cmp (bb_L b) 0 = 0 := by rw [h]; decide
theorem bb_in_le {x : Int32} {N : Nat} (hN : N < 2 ^ 30) (h : ¬ (x < 0 ∨ ¬ x ≤ nI N)) : ∃ a : Nat, a ≤ N ∧ x = nI a := by
  rcases bb_out_or x (N := N + 1) (by omega) with h1 | ⟨n, hn, e⟩
  · exfalso
    rcases bb_out_t h1 with h2 | h2
    · exact h (Or.inl h2)
    · refine h (Or.inr (fun h3 => h2 ?_))
      rw [Int32.le_iff_toInt_le, nI_toInt (by omega)] at h3
      rw [Int32.lt_iff_toInt_lt, nI_toInt (by omega)]
      omega
  · exact ⟨n, by omega, e⟩
theorem bb_in_need {x : Int32} (h : ¬ (x < nI 1 ∨ ¬ x ≤ nI 500)) : ∃ a : Nat, 1 ≤ a ∧ a ≤ 500 ∧ x = nI a := by
  have h1 : ¬ (x < 0 ∨ ¬ x ≤ nI 500) := by
    rintro (h2 | h2)
    · apply h
      left
      rw [Int32.lt_iff_toInt_lt] at h2 ⊢
      rw [nI_toInt (by omega)]
      rw [Int32.toInt_zero] at h2
      omega
    · exact h (Or.inr h2)
  obtain ⟨a, ha, e⟩ := bb_in_le (by omega) h1
  refine ⟨a, ?_, ha, e⟩
  rcases Nat.eq_zero_or_pos a with h2 | h2
  · exfalso
    apply h
    left
    rw [e, h2]
    decide
  · exact h2
theorem bb_le_int {x : Int32} {N : Nat} (hN : N < 2 ^ 31) : (x < 0 ∨ ¬ x ≤ nI N) ↔ (x.toInt < 0 ∨ (N : Int) < x.toInt) := by
  rw [Int32.lt_iff_toInt_lt, Int32.le_iff_toInt_le, nI_toInt hN, Int32.toInt_zero]
  omega
section BbLaw0
variable {p : Program} {l : Launch} {e : Env} {R : Room} {s : State} {m : MethodId} {args : Array Value} {below : List Frame} {meth : Method} {c : Code} {H H0 : Heap} {locs : List Loc} {cells slots : Nat} {Q : State → Prop} {pc : Nat} {ls : Array Slot} {st rest : List Value} {cc : ByteArray} {A : Nat → Prop} {D : va_G} {cl : List vw_C} {ws : va_W} {tys : List (ClassId × FieldType)} {a : Nat}
theorem bb_sld (hexec : p.tables.exec = Jvm.exec) (hb : c.code = cc) {b L : Nat} {xs : Nat → Int32} (hX : va_X b L xs s H0) (hbl : b < H0.size) (hbA : ¬ A b) (hS : va_S A H0 H locs) (i : Nat) (hi : i < L) (hL : L ≤ 2048) {v : Int32} (hv : xs i = v) (hdg : decode cc pc = .ok (.iaload, 1))
    (kk : W p l e R s m args below meth c H locs cells slots Q (F0 m (pc + 1) ls (.int v :: rest))) : W p l e R s m args below meth c H locs cells slots Q (F0 m pc ls (.int (nI i) :: .ref b :: rest)) := by
  refine va_sld hexec hb hX hbl hbA hS (vp_in_nI hi (by omega)) hdg ?_
  rw [nI_clamp (by omega), hv]
  exact kk
theorem bb_lal (hexec : p.tables.exec = Jvm.exec) (hb : c.code = cc) (hK : va_K D cl tys s) (hP : va_P D cl ws H) (q0 t0 : Nat) {cA : ClassId} {x : Int64} (ha : ws[q0]? = some (a, .inl (cA, 1, .inr (.inl (fun _ => x))))) (ht : tys[t0]? = some (cA, .long)) (hdg : decode cc pc = .ok (.laload, 1))
    (kk : W p l e R s m args below meth c H locs cells slots Q (F0 m (pc + 1) ls (.long x :: rest))) : W p l e R s m args below meth c H locs cells slots Q (F0 m pc ls (.int (nI 0) :: .ref a :: rest)) :=
  va_lald hexec hb hK hP q0 t0 ha ht (vp_in_nI (by decide) (by decide)) hdg kk
theorem bb_ibr {x y : Int32} (e1 : x = y) (k : W p l e R s m args below meth c H locs cells slots Q (F0 m pc ls (.int y :: rest))) : W p l e R s m args below meth c H locs cells slots Q (F0 m pc ls (.int x :: rest)) := bb_topi e1 k
end BbLaw0
