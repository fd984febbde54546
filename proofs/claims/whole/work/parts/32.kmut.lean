set_option maxHeartbeats 4000000 in
set_option maxRecDepth 100000 in
theorem j_weight (l : Launch) (dC : Nat → ClassId) (dI : Nat → Nat → Nat) (cA : ClassId) (h0 a0 a1 a2 a3 : Nat) (w pr vo vf : Nat → Int32) (k : Int32) (sz : Nat) (n : Nat) (hn0 : n < 10) (a : Nat) (ha0 : a ≤ 50) : Met l yX0_weight wsX0_weight ({ frames := 1, cells := 0, slots := 0, locals := 20 }) (bb_Pm [.ref h0, .int (nI n), .int (nI a)] (dC, dI) vwCl [(h0, .inr (0, [.ref a0, .ref a1, .ref a2, .ref a3, .int k])), (a0, .inl (cA, 10, .inl w)), (a1, .inl (cA, 10, .inl pr)), (a2, .inl (cA, 31, .inl vo)), (a3, .inl (cA, 31, .inl vf))] [(cA, .int)] sz) (bb_Qm (w n) (dC, dI) vwCl [(h0, .inr (0, [.ref a0, .ref a1, .ref a2, .ref a3, .int k])), (a0, .inl (cA, 10, .inl (upd w n (nI a)))), (a1, .inl (cA, 10, .inl pr)), (a2, .inl (cA, 31, .inl vo)), (a3, .inl (cA, 31, .inl vf))] (va_A [(h0, .inr (0, [.ref a0, .ref a1, .ref a2, .ref a3, .int k])), (a0, .inl (cA, 10, .inl w)), (a1, .inl (cA, 10, .inl pr)), (a2, .inl (cA, 31, .inl vo)), (a3, .inl (cA, 31, .inl vf))] sz)) 0 0 (va_A [(h0, .inr (0, [.ref a0, .ref a1, .ref a2, .ref a3, .int k])), (a0, .inl (cA, 10, .inl w)), (a1, .inl (cA, 10, .inl pr)), (a2, .inl (cA, 31, .inl vo)), (a3, .inl (cA, 31, .inl vf))] sz) := by
  refine Met.ofW (cc := cX0_weight) (maxL := 4) (ret := some .int) (by decide) rfl ?_
  intro p e s m args below meth c s₁ B hml hv
  obtain ⟨rfl, hsz, hP, hK, hD0⟩ := hv
  have hx := B.exec
  have hb := B.bytes
  have hr := B.returns
  have hts := atoms_spec (ws := wsX0_weight) B.pre
  have hown : s.vm.findClass RX0 = some m.cls := findClass_of_methodNamed B.named
  have hlocks := B.notSynchronized
  subst hsz
  have hD := hD0.self (sz := s.heap.size)
  generalize hAe : va_A [(h0, .inr (0, [.ref a0, .ref a1, .ref a2, .ref a3, .int k])), (a0, .inl (cA, 10, .inl w)), (a1, .inl (cA, 10, .inl pr)), (a2, .inl (cA, 31, .inl vo)), (a3, .inl (cA, 31, .inl vf))] s.heap.size = A at hD ⊢
  have hA : ∀ q : Nat, s.heap.size ≤ q → A q := fun q h => by rw [← hAe]; exact Or.inr h
  have hin : ∀ w9 ∈ u_ws RX0 TX0 5, w9 ∈ wsX0_weight := fun w9 h9 => List.mem_cons_of_mem _ (bb_inX0 w9 h9)
  have hf9 := hts _ (List.mem_cons_of_mem _ bb_fX0_9)
  have hl := lv_entry ([.ref h0, .int (nI n), .int (nI a)]) (n := 4) (Nat.le_of_ble_eq_true rfl)
  rw [lg_entry_eq]
  generalize (lg_sl ([.ref h0, .int (nI n), .int (nI a)]) ++ List.replicate (4 - (lg_sl ([.ref h0, .int (nI n), .int (nI a)])).length) Slot.unset).toArray = ls at hl ⊢
  have hl : lv_has ls 4 [(0, .ref h0), (1, .int (nI n)), (2, .int (nI a))] := hl
  refine bb_gen hP hD (fun H locs hP hD hS => ?_)
  refine lv_iload_n hx hb dX0_weight_0 rfl (lv_at hl 1 rfl) ?_
  refine bb_cSv (As := [.int (nI n)]) (rest := []) ⟨hx, hb, hml, hown, hts⟩ (k_requireNode l n (by omega)) (cwS 1 hts gX0_weight_X0_requireNode rfl rfl rfl (by decide +kernel) ⟨Nat.le_of_ble_eq_true rfl, Nat.le_of_ble_eq_true rfl⟩) rfl hl.1 rfl (Nat.le_of_ble_eq_true rfl) dX0_weight_1 (Nat.zero_le _) (Nat.zero_le _) ?_
  refine lv_iload_n hx hb dX0_weight_4 rfl (lv_at hl 2 rfl) ?_
  refine lv_if_lt (tgt := 14) hx hb dX0_weight_5 rfl (fun h5 => absurd h5 (nI_pos (by omega))) (fun h5 => ?_)
  refine lv_iload_n hx hb dX0_weight_8 rfl (lv_at hl 2 rfl) ?_
  refine lv_bipush (v := nI 50) hx hb dX0_weight_9 (by decide) ?_
  refine lv_icmp_le (tgt := 24) hx hb dX0_weight_11 rfl (fun h11 => ?_) (fun h11 => absurd (nI_le (by omega) (by decide)) h11)
  have q11 := bb_nlt h11
  refine lv_aload_n hx hb dX0_weight_24 rfl (lv_at hl 0 rfl) ?_
  refine va_get (D := (dC, dI)) (ci := 0) (v := .ref a0) (C := RX0) (T := TX0) (N := 5) hx hb hts hin hown hK hP 0 rfl rfl 0 (by decide) hf9 (fun _ h9 => h9) rfl dX0_weight_25 ?_
  refine lv_iload_n hx hb dX0_weight_28 rfl (lv_at hl 1 rfl) ?_
  refine bb_ald hx hb hK hP 1 0 rfl rfl n (by omega) (by decide) dX0_weight_29 ?_
  refine lv_istore_n (lv' := [(3, .int (w n)), (0, .ref h0), (1, .int (nI n)), (2, .int (nI a))]) hx hb dX0_weight_30 rfl hl (by decide) rfl (fun ls hl => ?_)
  refine lv_aload_n hx hb dX0_weight_31 rfl (lv_at hl 1 rfl) ?_
  refine va_get (D := (dC, dI)) (ci := 0) (v := .ref a0) (C := RX0) (T := TX0) (N := 5) hx hb hts hin hown hK hP 0 rfl rfl 0 (by decide) hf9 (fun _ h9 => h9) rfl dX0_weight_32 ?_
  refine lv_iload_n hx hb dX0_weight_35 rfl (lv_at hl 2 rfl) ?_
  refine lv_iload_n hx hb dX0_weight_36 rfl (lv_at hl 3 rfl) ?_
  refine bb_ast hx hb hK hP hD hS 1 0 rfl rfl n (by omega) (by decide) dX0_weight_37 (fun H locs hP hD hS => ?_)
  have hP : va_P (dC, dI) vwCl [(h0, .inr (0, [.ref a0, .ref a1, .ref a2, .ref a3, .int k])), (a0, .inl (cA, 10, .inl (upd w n (nI a)))), (a1, .inl (cA, 10, .inl pr)), (a2, .inl (cA, 31, .inl vo)), (a3, .inl (cA, 31, .inl vf))] H := hP
  have hD : va_D A [(h0, .inr (0, [.ref a0, .ref a1, .ref a2, .ref a3, .int k])), (a0, .inl (cA, 10, .inl (upd w n (nI a)))), (a1, .inl (cA, 10, .inl pr)), (a2, .inl (cA, 31, .inl vo)), (a3, .inl (cA, 31, .inl vf))] := hD
  refine lv_iload_n hx hb dX0_weight_38 rfl (lv_at hl 0 rfl) ?_
  exact W.iret (v := w n) hx hb hr (fun t ht _ => ⟨⟨w n, (), rfl, rfl, by show va_P _ _ _ t.heap; rw [ht]; exact hP⟩, hS.F ht⟩) hS.2.2 dX0_weight_39

set_option maxHeartbeats 4000000 in
set_option maxRecDepth 100000 in
theorem j_need (l : Launch) (dC : Nat → ClassId) (dI : Nat → Nat → Nat) (cA : ClassId) (h0 a0 a1 a2 a3 : Nat) (w pr vo vf : Nat → Int32) (k : Int32) (sz : Nat) (a : Nat) (ha1 : 1 ≤ a) (ha0 : a ≤ 500) : Met l yX0_need wsX0_need ({ frames := 0, cells := 0, slots := 0, locals := 0 }) (bb_Pm [.ref h0, .int (nI a)] (dC, dI) vwCl [(h0, .inr (0, [.ref a0, .ref a1, .ref a2, .ref a3, .int k])), (a0, .inl (cA, 10, .inl w)), (a1, .inl (cA, 10, .inl pr)), (a2, .inl (cA, 31, .inl vo)), (a3, .inl (cA, 31, .inl vf))] [(cA, .int)] sz) (bb_Qm (k) (dC, dI) vwCl [(h0, .inr (0, [.ref a0, .ref a1, .ref a2, .ref a3, .int (nI a)])), (a0, .inl (cA, 10, .inl w)), (a1, .inl (cA, 10, .inl pr)), (a2, .inl (cA, 31, .inl vo)), (a3, .inl (cA, 31, .inl vf))] (va_A [(h0, .inr (0, [.ref a0, .ref a1, .ref a2, .ref a3, .int k])), (a0, .inl (cA, 10, .inl w)), (a1, .inl (cA, 10, .inl pr)), (a2, .inl (cA, 31, .inl vo)), (a3, .inl (cA, 31, .inl vf))] sz)) 0 0 (va_A [(h0, .inr (0, [.ref a0, .ref a1, .ref a2, .ref a3, .int k])), (a0, .inl (cA, 10, .inl w)), (a1, .inl (cA, 10, .inl pr)), (a2, .inl (cA, 31, .inl vo)), (a3, .inl (cA, 31, .inl vf))] sz) := by
  refine Met.ofW (cc := cX0_need) (maxL := 3) (ret := some .int) (by decide) rfl ?_
  intro p e s m args below meth c s₁ B hml hv
  obtain ⟨rfl, hsz, hP, hK, hD0⟩ := hv
  have hx := B.exec
  have hb := B.bytes
  have hr := B.returns
  have hts := atoms_spec (ws := wsX0_need) B.pre
  have hown : s.vm.findClass RX0 = some m.cls := findClass_of_methodNamed B.named
  have hlocks := B.notSynchronized
  subst hsz
  have hD := hD0.self (sz := s.heap.size)
  generalize hAe : va_A [(h0, .inr (0, [.ref a0, .ref a1, .ref a2, .ref a3, .int k])), (a0, .inl (cA, 10, .inl w)), (a1, .inl (cA, 10, .inl pr)), (a2, .inl (cA, 31, .inl vo)), (a3, .inl (cA, 31, .inl vf))] s.heap.size = A at hD ⊢
  have hA : ∀ q : Nat, s.heap.size ≤ q → A q := fun q h => by rw [← hAe]; exact Or.inr h
  have hin : ∀ w9 ∈ u_ws RX0 TX0 5, w9 ∈ wsX0_need := fun w9 h9 => List.mem_cons_of_mem _ (bb_inX0 w9 h9)
  have hf22 := hts _ (List.mem_cons_of_mem _ bb_fX0_22)
  have hl := lv_entry ([.ref h0, .int (nI a)]) (n := 3) (Nat.le_of_ble_eq_true rfl)
  rw [lg_entry_eq]
  generalize (lg_sl ([.ref h0, .int (nI a)]) ++ List.replicate (3 - (lg_sl ([.ref h0, .int (nI a)])).length) Slot.unset).toArray = ls at hl ⊢
  have hl : lv_has ls 3 [(0, .ref h0), (1, .int (nI a))] := hl
  refine bb_gen hP hD (fun H locs hP hD hS => ?_)
  refine lv_iload_n hx hb dX0_need_0 rfl (lv_at hl 1 rfl) ?_
  refine lv_iconst (v := nI 1) hx hb dX0_need_1 (by decide) ?_
  refine lv_icmp_lt (tgt := 12) hx hb dX0_need_2 rfl (fun h2 => absurd h2 (nI_nlt (by omega) (by omega))) (fun h2 => ?_)
  have q2 := bb_le h2
  refine lv_iload_n hx hb dX0_need_5 rfl (lv_at hl 1 rfl) ?_
  refine lv_sipush (v := nI 500) hx hb dX0_need_6 (by decide) ?_
  refine lv_icmp_le (tgt := 22) hx hb dX0_need_9 rfl (fun h9 => ?_) (fun h9 => absurd (nI_le (by omega) (by decide)) h9)
  have q9 := bb_nlt h9
  refine lv_aload_n hx hb dX0_need_22 rfl (lv_at hl 0 rfl) ?_
  refine va_get (D := (dC, dI)) (ci := 0) (v := .int k) (C := RX0) (T := TX0) (N := 5) hx hb hts hin hown hK hP 0 rfl rfl 4 (by decide) hf22 (fun _ h9 => h9) rfl dX0_need_23 ?_
  refine lv_istore_n (lv' := [(2, .int k), (0, .ref h0), (1, .int (nI a))]) hx hb dX0_need_26 rfl hl (by decide) rfl (fun ls hl => ?_)
  refine lv_aload_n hx hb dX0_need_27 rfl (lv_at hl 1 rfl) ?_
  refine lv_iload_n hx hb dX0_need_28 rfl (lv_at hl 2 rfl) ?_
  refine va_put (D := (dC, dI)) (ci := 0) (v := .int (nI a)) (ty := .int) (C := RX0) (T := TX0) (N := 5) hx hb hts hin tyX0 tyX0_ok nX0 hown hK hP hD hS 0 rfl rfl 4 (by decide) hf22 (fun _ h9 => h9) rfl (by decide +kernel) rfl rfl (Nat.le_of_ble_eq_true rfl) dX0_need_29 (fun H locs hP hD hS => ?_)
  have hP : va_P (dC, dI) vwCl [(h0, .inr (0, [.ref a0, .ref a1, .ref a2, .ref a3, .int (nI a)])), (a0, .inl (cA, 10, .inl w)), (a1, .inl (cA, 10, .inl pr)), (a2, .inl (cA, 31, .inl vo)), (a3, .inl (cA, 31, .inl vf))] H := hP
  have hD : va_D A [(h0, .inr (0, [.ref a0, .ref a1, .ref a2, .ref a3, .int (nI a)])), (a0, .inl (cA, 10, .inl w)), (a1, .inl (cA, 10, .inl pr)), (a2, .inl (cA, 31, .inl vo)), (a3, .inl (cA, 31, .inl vf))] := hD
  refine lv_iload_n hx hb dX0_need_32 rfl (lv_at hl 0 rfl) ?_
  exact W.iret (v := k) hx hb hr (fun t ht _ => ⟨⟨k, (), rfl, rfl, by show va_P _ _ _ t.heap; rw [ht]; exact hP⟩, hS.F ht⟩) hS.2.2 dX0_need_33

set_option maxHeartbeats 4000000 in
set_option maxRecDepth 100000 in
theorem j_promise (l : Launch) (dC : Nat → ClassId) (dI : Nat → Nat → Nat) (cA : ClassId) (h0 a0 a1 a2 a3 : Nat) (w pr vo vf : Nat → Int32) (k : Int32) (sz : Nat) (n : Nat) (hn0 : n < 10) (b : Nat) (hb0 : b < 31) (hp : pr n ≤ nI b) : Met l yX0_promise wsX0_promise ({ frames := 1, cells := 0, slots := 0, locals := 20 }) (bb_Pm [.ref h0, .int (nI n), .int (nI b)] (dC, dI) vwCl [(h0, .inr (0, [.ref a0, .ref a1, .ref a2, .ref a3, .int k])), (a0, .inl (cA, 10, .inl w)), (a1, .inl (cA, 10, .inl pr)), (a2, .inl (cA, 31, .inl vo)), (a3, .inl (cA, 31, .inl vf))] [(cA, .int)] sz) (bb_Qm (pr n) (dC, dI) vwCl [(h0, .inr (0, [.ref a0, .ref a1, .ref a2, .ref a3, .int k])), (a0, .inl (cA, 10, .inl w)), (a1, .inl (cA, 10, .inl (upd pr n (nI b)))), (a2, .inl (cA, 31, .inl vo)), (a3, .inl (cA, 31, .inl vf))] (va_A [(h0, .inr (0, [.ref a0, .ref a1, .ref a2, .ref a3, .int k])), (a0, .inl (cA, 10, .inl w)), (a1, .inl (cA, 10, .inl pr)), (a2, .inl (cA, 31, .inl vo)), (a3, .inl (cA, 31, .inl vf))] sz)) 0 0 (va_A [(h0, .inr (0, [.ref a0, .ref a1, .ref a2, .ref a3, .int k])), (a0, .inl (cA, 10, .inl w)), (a1, .inl (cA, 10, .inl pr)), (a2, .inl (cA, 31, .inl vo)), (a3, .inl (cA, 31, .inl vf))] sz) := by
  refine Met.ofW (cc := cX0_promise) (maxL := 4) (ret := some .int) (by decide) rfl ?_
  intro p e s m args below meth c s₁ B hml hv
  obtain ⟨rfl, hsz, hP, hK, hD0⟩ := hv
  have hx := B.exec
  have hb := B.bytes
  have hr := B.returns
  have hts := atoms_spec (ws := wsX0_promise) B.pre
  have hown : s.vm.findClass RX0 = some m.cls := findClass_of_methodNamed B.named
  have hlocks := B.notSynchronized
  subst hsz
  have hD := hD0.self (sz := s.heap.size)
  generalize hAe : va_A [(h0, .inr (0, [.ref a0, .ref a1, .ref a2, .ref a3, .int k])), (a0, .inl (cA, 10, .inl w)), (a1, .inl (cA, 10, .inl pr)), (a2, .inl (cA, 31, .inl vo)), (a3, .inl (cA, 31, .inl vf))] s.heap.size = A at hD ⊢
  have hA : ∀ q : Nat, s.heap.size ≤ q → A q := fun q h => by rw [← hAe]; exact Or.inr h
  have hin : ∀ w9 ∈ u_ws RX0 TX0 5, w9 ∈ wsX0_promise := fun w9 h9 => List.mem_cons_of_mem _ (bb_inX0 w9 h9)
  have hf13 := hts _ (List.mem_cons_of_mem _ bb_fX0_13)
  have hl := lv_entry ([.ref h0, .int (nI n), .int (nI b)]) (n := 4) (Nat.le_of_ble_eq_true rfl)
  rw [lg_entry_eq]
  generalize (lg_sl ([.ref h0, .int (nI n), .int (nI b)]) ++ List.replicate (4 - (lg_sl ([.ref h0, .int (nI n), .int (nI b)])).length) Slot.unset).toArray = ls at hl ⊢
  have hl : lv_has ls 4 [(0, .ref h0), (1, .int (nI n)), (2, .int (nI b))] := hl
  refine bb_gen hP hD (fun H locs hP hD hS => ?_)
  refine lv_iload_n hx hb dX0_promise_0 rfl (lv_at hl 1 rfl) ?_
  refine bb_cSv (As := [.int (nI n)]) (rest := []) ⟨hx, hb, hml, hown, hts⟩ (k_requireNode l n (by omega)) (cwS 1 hts gX0_promise_X0_requireNode rfl rfl rfl (by decide +kernel) ⟨Nat.le_of_ble_eq_true rfl, Nat.le_of_ble_eq_true rfl⟩) rfl hl.1 rfl (Nat.le_of_ble_eq_true rfl) dX0_promise_1 (Nat.zero_le _) (Nat.zero_le _) ?_
  refine lv_iload_n hx hb dX0_promise_4 rfl (lv_at hl 2 rfl) ?_
  refine bb_cSv (As := [.int (nI b)]) (rest := []) ⟨hx, hb, hml, hown, hts⟩ (k_requireBallot l b (by omega)) (cwS 1 hts gX0_promise_X0_requireBallot rfl rfl rfl (by decide +kernel) ⟨Nat.le_of_ble_eq_true rfl, Nat.le_of_ble_eq_true rfl⟩) rfl hl.1 rfl (Nat.le_of_ble_eq_true rfl) dX0_promise_5 (Nat.zero_le _) (Nat.zero_le _) ?_
  refine lv_aload_n hx hb dX0_promise_8 rfl (lv_at hl 0 rfl) ?_
  refine va_get (D := (dC, dI)) (ci := 0) (v := .ref a1) (C := RX0) (T := TX0) (N := 5) hx hb hts hin hown hK hP 0 rfl rfl 1 (by decide) hf13 (fun _ h9 => h9) rfl dX0_promise_9 ?_
  refine lv_iload_n hx hb dX0_promise_12 rfl (lv_at hl 1 rfl) ?_
  refine bb_ald hx hb hK hP 2 0 rfl rfl n (by omega) (by decide) dX0_promise_13 ?_
  refine lv_istore_n (lv' := [(3, .int (pr n)), (0, .ref h0), (1, .int (nI n)), (2, .int (nI b))]) hx hb dX0_promise_14 rfl hl (by decide) rfl (fun ls hl => ?_)
  refine lv_iload_n hx hb dX0_promise_15 rfl (lv_at hl 0 rfl) ?_
  refine lv_iload_n hx hb dX0_promise_16 rfl (lv_at hl 3 rfl) ?_
  refine lv_icmp_le (tgt := 30) hx hb dX0_promise_17 rfl (fun h17 => ?_) (fun h17 => absurd hp h17)
  have q17 := bb_nlt h17
  refine lv_aload_n hx hb dX0_promise_30 rfl (lv_at hl 1 rfl) ?_
  refine va_get (D := (dC, dI)) (ci := 0) (v := .ref a1) (C := RX0) (T := TX0) (N := 5) hx hb hts hin hown hK hP 0 rfl rfl 1 (by decide) hf13 (fun _ h9 => h9) rfl dX0_promise_31 ?_
  refine lv_iload_n hx hb dX0_promise_34 rfl (lv_at hl 2 rfl) ?_
  refine lv_iload_n hx hb dX0_promise_35 rfl (lv_at hl 3 rfl) ?_
  refine bb_ast hx hb hK hP hD hS 2 0 rfl rfl n (by omega) (by decide) dX0_promise_36 (fun H locs hP hD hS => ?_)
  have hP : va_P (dC, dI) vwCl [(h0, .inr (0, [.ref a0, .ref a1, .ref a2, .ref a3, .int k])), (a0, .inl (cA, 10, .inl w)), (a1, .inl (cA, 10, .inl (upd pr n (nI b)))), (a2, .inl (cA, 31, .inl vo)), (a3, .inl (cA, 31, .inl vf))] H := hP
  have hD : va_D A [(h0, .inr (0, [.ref a0, .ref a1, .ref a2, .ref a3, .int k])), (a0, .inl (cA, 10, .inl w)), (a1, .inl (cA, 10, .inl (upd pr n (nI b)))), (a2, .inl (cA, 31, .inl vo)), (a3, .inl (cA, 31, .inl vf))] := hD
  refine lv_iload_n hx hb dX0_promise_37 rfl (lv_at hl 0 rfl) ?_
  exact W.iret (v := pr n) hx hb hr (fun t ht _ => ⟨⟨pr n, (), rfl, rfl, by show va_P _ _ _ t.heap; rw [ht]; exact hP⟩, hS.F ht⟩) hS.2.2 dX0_promise_38

set_option maxHeartbeats 4000000 in
set_option maxRecDepth 100000 in
theorem j_vote (l : Launch) (dC : Nat → ClassId) (dI : Nat → Nat → Nat) (cA : ClassId) (h0 a0 a1 a2 a3 : Nat) (w pr vo vf : Nat → Int32) (k : Int32) (sz : Nat) (n : Nat) (hn0 : n < 10) (b : Nat) (hb0 : b < 31) (v : Nat) (hv0 : v < 10) (hop : bb_op pr vo b n = true) (hon : bb_only vf b (nI v) = true) : Met l yX0_vote wsX0_vote ({ frames := 2, cells := 0, slots := 0, locals := 43 }) (bb_Pm [.ref h0, .int (nI n), .int (nI b), .int (nI v)] (dC, dI) vwCl [(h0, .inr (0, [.ref a0, .ref a1, .ref a2, .ref a3, .int k])), (a0, .inl (cA, 10, .inl w)), (a1, .inl (cA, 10, .inl pr)), (a2, .inl (cA, 31, .inl vo)), (a3, .inl (cA, 31, .inl vf))] [(cA, .int)] sz) (bb_Qm (bb_bc (vo b ||| (1 <<< (nI n &&& 31)))) (dC, dI) vwCl [(h0, .inr (0, [.ref a0, .ref a1, .ref a2, .ref a3, .int k])), (a0, .inl (cA, 10, .inl w)), (a1, .inl (cA, 10, .inl (upd pr n (nI b)))), (a2, .inl (cA, 31, .inl (upd vo b (vo b ||| (1 <<< (nI n &&& 31)))))), (a3, .inl (cA, 31, .inl (upd vf b (nI v))))] (va_A [(h0, .inr (0, [.ref a0, .ref a1, .ref a2, .ref a3, .int k])), (a0, .inl (cA, 10, .inl w)), (a1, .inl (cA, 10, .inl pr)), (a2, .inl (cA, 31, .inl vo)), (a3, .inl (cA, 31, .inl vf))] sz)) 0 0 (va_A [(h0, .inr (0, [.ref a0, .ref a1, .ref a2, .ref a3, .int k])), (a0, .inl (cA, 10, .inl w)), (a1, .inl (cA, 10, .inl pr)), (a2, .inl (cA, 31, .inl vo)), (a3, .inl (cA, 31, .inl vf))] sz) := by
  refine Met.ofW (cc := cX0_vote) (maxL := 4) (ret := some .int) (by decide) rfl ?_
  intro p e s m args below meth c s₁ B hml hv
  obtain ⟨rfl, hsz, hP, hK, hD0⟩ := hv
  have hx := B.exec
  have hb := B.bytes
  have hr := B.returns
  have hts := atoms_spec (ws := wsX0_vote) B.pre
  have hown : s.vm.findClass RX0 = some m.cls := findClass_of_methodNamed B.named
  have hlocks := B.notSynchronized
  subst hsz
  have hD := hD0.self (sz := s.heap.size)
  generalize hAe : va_A [(h0, .inr (0, [.ref a0, .ref a1, .ref a2, .ref a3, .int k])), (a0, .inl (cA, 10, .inl w)), (a1, .inl (cA, 10, .inl pr)), (a2, .inl (cA, 31, .inl vo)), (a3, .inl (cA, 31, .inl vf))] s.heap.size = A at hD ⊢
  have hA : ∀ q : Nat, s.heap.size ≤ q → A q := fun q h => by rw [← hAe]; exact Or.inr h
  have hin : ∀ w9 ∈ u_ws RX0 TX0 5, w9 ∈ wsX0_vote := fun w9 h9 => List.mem_cons_of_mem _ (bb_inX0 w9 h9)
  have hf13 := hts _ (List.mem_cons_of_mem _ bb_fX0_13)
  have hf16 := hts _ (List.mem_cons_of_mem _ bb_fX0_16)
  have hf19 := hts _ (List.mem_cons_of_mem _ bb_fX0_19)
  have hl := lv_entry ([.ref h0, .int (nI n), .int (nI b), .int (nI v)]) (n := 4) (Nat.le_of_ble_eq_true rfl)
  rw [lg_entry_eq]
  generalize (lg_sl ([.ref h0, .int (nI n), .int (nI b), .int (nI v)]) ++ List.replicate (4 - (lg_sl ([.ref h0, .int (nI n), .int (nI b), .int (nI v)])).length) Slot.unset).toArray = ls at hl ⊢
  have hl : lv_has ls 4 [(0, .ref h0), (1, .int (nI n)), (2, .int (nI b)), (3, .int (nI v))] := hl
  refine bb_gen hP hD (fun H locs hP hD hS => ?_)
  refine lv_iload_n hx hb dX0_vote_0 rfl (lv_at hl 1 rfl) ?_
  refine bb_cSv (As := [.int (nI n)]) (rest := []) ⟨hx, hb, hml, hown, hts⟩ (k_requireNode l n (by omega)) (cwS 1 hts gX0_vote_X0_requireNode rfl rfl rfl (by decide +kernel) ⟨Nat.le_of_ble_eq_true rfl, Nat.le_of_ble_eq_true rfl⟩) rfl hl.1 rfl (Nat.le_of_ble_eq_true rfl) dX0_vote_1 (Nat.zero_le _) (Nat.zero_le _) ?_
  refine lv_iload_n hx hb dX0_vote_4 rfl (lv_at hl 2 rfl) ?_
  refine bb_cSv (As := [.int (nI b)]) (rest := []) ⟨hx, hb, hml, hown, hts⟩ (k_requireBallot l b (by omega)) (cwS 1 hts gX0_vote_X0_requireBallot rfl rfl rfl (by decide +kernel) ⟨Nat.le_of_ble_eq_true rfl, Nat.le_of_ble_eq_true rfl⟩) rfl hl.1 rfl (Nat.le_of_ble_eq_true rfl) dX0_vote_5 (Nat.zero_le _) (Nat.zero_le _) ?_
  refine lv_iload_n hx hb dX0_vote_8 rfl (lv_at hl 3 rfl) ?_
  refine bb_cSv (As := [.int (nI v)]) (rest := []) ⟨hx, hb, hml, hown, hts⟩ (k_requireValue l v (by omega)) (cwS 1 hts gX0_vote_X0_requireValue rfl rfl rfl (by decide +kernel) ⟨Nat.le_of_ble_eq_true rfl, Nat.le_of_ble_eq_true rfl⟩) rfl hl.1 rfl (Nat.le_of_ble_eq_true rfl) dX0_vote_9 (Nat.zero_le _) (Nat.zero_le _) ?_
  refine lv_aload_n hx hb dX0_vote_12 rfl (lv_at hl 0 rfl) ?_
  refine lv_iload_n hx hb dX0_vote_13 rfl (lv_at hl 1 rfl) ?_
  refine lv_iload_n hx hb dX0_vote_14 rfl (lv_at hl 2 rfl) ?_
  refine bb_cV (As := [.int (nI n), .int (nI b)]) (rest := []) (r := bb_I (bb_op pr vo b n)) 0 ⟨hx, hb, hml, hown, hts⟩ (k_isOpen l dC dI cA h0 a0 a1 a2 a3 w pr vo vf k n b (by omega) (by omega)) (cwV 2 hts gX0_vote_X0_isOpen rfl rfl rfl (by decide +kernel) ⟨Nat.le_of_ble_eq_true rfl, Nat.le_of_ble_eq_true rfl⟩) hP hK rfl rfl rfl hl.1 rfl (Nat.le_of_ble_eq_true rfl) dX0_vote_15 (Nat.zero_le _) (Nat.zero_le _) ?_
  refine bb_topi (y := 1) (by rw [hop]; rfl) ?_
  refine lv_if_ne (tgt := 31) hx hb dX0_vote_18 rfl (fun h18 => ?_) (fun h18 => absurd h18 (by decide))
  refine lv_aload_n hx hb dX0_vote_31 rfl (lv_at hl 0 rfl) ?_
  refine lv_iload_n hx hb dX0_vote_32 rfl (lv_at hl 2 rfl) ?_
  refine lv_iload_n hx hb dX0_vote_33 rfl (lv_at hl 3 rfl) ?_
  refine bb_cV (As := [.int (nI b), .int (nI v)]) (rest := []) (r := bb_I (bb_only vf b (nI v))) 0 ⟨hx, hb, hml, hown, hts⟩ (k_isOnlyValue l dC dI cA h0 a0 a1 a2 a3 w pr vo vf k b (nI v) (by omega)) (cwV 2 hts gX0_vote_X0_isOnlyValue rfl rfl rfl (by decide +kernel) ⟨Nat.le_of_ble_eq_true rfl, Nat.le_of_ble_eq_true rfl⟩) hP hK rfl rfl rfl hl.1 rfl (Nat.le_of_ble_eq_true rfl) dX0_vote_34 (Nat.zero_le _) (Nat.zero_le _) ?_
  refine bb_topi (y := 1) (by rw [hon]; rfl) ?_
  refine lv_if_ne (tgt := 50) hx hb dX0_vote_37 rfl (fun h37 => ?_) (fun h37 => absurd h37 (by decide))
  refine lv_aload_n hx hb dX0_vote_50 rfl (lv_at hl 0 rfl) ?_
  refine va_get (D := (dC, dI)) (ci := 0) (v := .ref a1) (C := RX0) (T := TX0) (N := 5) hx hb hts hin hown hK hP 0 rfl rfl 1 (by decide) hf13 (fun _ h9 => h9) rfl dX0_vote_51 ?_
  refine lv_iload_n hx hb dX0_vote_54 rfl (lv_at hl 1 rfl) ?_
  refine lv_iload_n hx hb dX0_vote_55 rfl (lv_at hl 2 rfl) ?_
  refine bb_ast hx hb hK hP hD hS 2 0 rfl rfl n (by omega) (by decide) dX0_vote_56 (fun H locs hP hD hS => ?_)
  have hP : va_P (dC, dI) vwCl [(h0, .inr (0, [.ref a0, .ref a1, .ref a2, .ref a3, .int k])), (a0, .inl (cA, 10, .inl w)), (a1, .inl (cA, 10, .inl (upd pr n (nI b)))), (a2, .inl (cA, 31, .inl vo)), (a3, .inl (cA, 31, .inl vf))] H := hP
  have hD : va_D A [(h0, .inr (0, [.ref a0, .ref a1, .ref a2, .ref a3, .int k])), (a0, .inl (cA, 10, .inl w)), (a1, .inl (cA, 10, .inl (upd pr n (nI b)))), (a2, .inl (cA, 31, .inl vo)), (a3, .inl (cA, 31, .inl vf))] := hD
  refine lv_aload_n hx hb dX0_vote_57 rfl (lv_at hl 0 rfl) ?_
  refine va_get (D := (dC, dI)) (ci := 0) (v := .ref a3) (C := RX0) (T := TX0) (N := 5) hx hb hts hin hown hK hP 0 rfl rfl 3 (by decide) hf19 (fun _ h9 => h9) rfl dX0_vote_58 ?_
  refine lv_iload_n hx hb dX0_vote_61 rfl (lv_at hl 2 rfl) ?_
  refine lv_iload_n hx hb dX0_vote_62 rfl (lv_at hl 3 rfl) ?_
  refine bb_ast hx hb hK hP hD hS 4 0 rfl rfl b (by omega) (by decide) dX0_vote_63 (fun H locs hP hD hS => ?_)
  have hP : va_P (dC, dI) vwCl [(h0, .inr (0, [.ref a0, .ref a1, .ref a2, .ref a3, .int k])), (a0, .inl (cA, 10, .inl w)), (a1, .inl (cA, 10, .inl (upd pr n (nI b)))), (a2, .inl (cA, 31, .inl vo)), (a3, .inl (cA, 31, .inl (upd vf b (nI v))))] H := hP
  have hD : va_D A [(h0, .inr (0, [.ref a0, .ref a1, .ref a2, .ref a3, .int k])), (a0, .inl (cA, 10, .inl w)), (a1, .inl (cA, 10, .inl (upd pr n (nI b)))), (a2, .inl (cA, 31, .inl vo)), (a3, .inl (cA, 31, .inl (upd vf b (nI v))))] := hD
  refine lv_aload_n hx hb dX0_vote_64 rfl (lv_at hl 0 rfl) ?_
  refine va_get (D := (dC, dI)) (ci := 0) (v := .ref a2) (C := RX0) (T := TX0) (N := 5) hx hb hts hin hown hK hP 0 rfl rfl 2 (by decide) hf16 (fun _ h9 => h9) rfl dX0_vote_65 ?_
  refine lv_iload_n hx hb dX0_vote_68 rfl (lv_at hl 2 rfl) ?_
  refine lv_dup2_11 hx hb dX0_vote_69 rfl rfl ?_
  refine bb_ald hx hb hK hP 3 0 rfl rfl b (by omega) (by decide) dX0_vote_70 ?_
  refine lv_iconst (v := 1) hx hb dX0_vote_71 (by decide) ?_
  refine lv_iload_n hx hb dX0_vote_72 rfl (lv_at hl 1 rfl) ?_
  refine lv_ishl hx hb dX0_vote_73 ?_
  refine lv_ior hx hb dX0_vote_74 ?_
  refine bb_ast hx hb hK hP hD hS 3 0 rfl rfl b (by omega) (by decide) dX0_vote_75 (fun H locs hP hD hS => ?_)
  have hP : va_P (dC, dI) vwCl [(h0, .inr (0, [.ref a0, .ref a1, .ref a2, .ref a3, .int k])), (a0, .inl (cA, 10, .inl w)), (a1, .inl (cA, 10, .inl (upd pr n (nI b)))), (a2, .inl (cA, 31, .inl (upd vo b ((vo b) ||| (1 <<< ((nI n) &&& 31)))))), (a3, .inl (cA, 31, .inl (upd vf b (nI v))))] H := hP
  have hD : va_D A [(h0, .inr (0, [.ref a0, .ref a1, .ref a2, .ref a3, .int k])), (a0, .inl (cA, 10, .inl w)), (a1, .inl (cA, 10, .inl (upd pr n (nI b)))), (a2, .inl (cA, 31, .inl (upd vo b ((vo b) ||| (1 <<< ((nI n) &&& 31)))))), (a3, .inl (cA, 31, .inl (upd vf b (nI v))))] := hD
  refine lv_aload_n hx hb dX0_vote_76 rfl (lv_at hl 0 rfl) ?_
  refine va_get (D := (dC, dI)) (ci := 0) (v := .ref a2) (C := RX0) (T := TX0) (N := 5) hx hb hts hin hown hK hP 0 rfl rfl 2 (by decide) hf16 (fun _ h9 => h9) rfl dX0_vote_77 ?_
  refine lv_iload_n hx hb dX0_vote_80 rfl (lv_at hl 2 rfl) ?_
  refine bb_ald hx hb hK hP 3 0 rfl rfl b (by omega) (by decide) dX0_vote_81 ?_
  refine bb_topi (y := vo b ||| (1 <<< (nI n &&& 31))) (pk_us) ?_
  refine bb_cS (As := [.int (vo b ||| (1 <<< (nI n &&& 31)))]) (rest := []) (r := bb_bc (vo b ||| (1 <<< (nI n &&& 31)))) ⟨hx, hb, hml, hown, hts⟩ (k_bitCount l (vo b ||| (1 <<< (nI n &&& 31)))) (va_cwS 1 hts gX0_vote_J_bitCount rfl rfl rfl (by decide +kernel) ⟨Nat.le_of_ble_eq_true rfl, Nat.le_of_ble_eq_true rfl⟩) rfl hl.1 rfl (Nat.le_of_ble_eq_true rfl) dX0_vote_82 (Nat.zero_le _) (Nat.zero_le _) ?_
  have e1 : upd vo b ((vo b) ||| (1 <<< ((nI n) &&& 31))) = upd vo b (vo b ||| (1 <<< (nI n &&& 31))) := by simp [h18, h37]
  have hP : va_P (dC, dI) vwCl [(h0, .inr (0, [.ref a0, .ref a1, .ref a2, .ref a3, .int k])), (a0, .inl (cA, 10, .inl w)), (a1, .inl (cA, 10, .inl (upd pr n (nI b)))), (a2, .inl (cA, 31, .inl (upd vo b (vo b ||| (1 <<< (nI n &&& 31)))))), (a3, .inl (cA, 31, .inl (upd vf b (nI v))))] H := by rw [← e1]; exact hP
  have hD : va_D A [(h0, .inr (0, [.ref a0, .ref a1, .ref a2, .ref a3, .int k])), (a0, .inl (cA, 10, .inl w)), (a1, .inl (cA, 10, .inl (upd pr n (nI b)))), (a2, .inl (cA, 31, .inl (upd vo b (vo b ||| (1 <<< (nI n &&& 31)))))), (a3, .inl (cA, 31, .inl (upd vf b (nI v))))] := by rw [← e1]; exact hD
  exact W.iret (v := bb_bc (vo b ||| (1 <<< (nI n &&& 31)))) hx hb hr (fun t ht _ => ⟨⟨bb_bc (vo b ||| (1 <<< (nI n &&& 31))), (), rfl, rfl, by show va_P _ _ _ t.heap; rw [ht]; exact hP⟩, hS.F ht⟩) hS.2.2 dX0_vote_85

set_option maxHeartbeats 4000000 in
set_option maxRecDepth 100000 in
theorem j_promiseAll (l : Launch) (dC : Nat → ClassId) (dI : Nat → Nat → Nat) (cA : ClassId) (h0 a0 a1 a2 a3 : Nat) (w pr vo vf : Nat → Int32) (k : Int32) (sz : Nat) (st x : Int32) : Met l yX0_promiseAll wsX0_promiseAll ({ frames := 1, cells := 0, slots := 0, locals := 21 }) (bb_Pm [.ref h0, .int st, .int x] (dC, dI) vwCl [(h0, .inr (0, [.ref a0, .ref a1, .ref a2, .ref a3, .int k])), (a0, .inl (cA, 10, .inl w)), (a1, .inl (cA, 10, .inl pr)), (a2, .inl (cA, 31, .inl vo)), (a3, .inl (cA, 31, .inl vf))] [(cA, .int)] sz) (bb_Qv (dC, dI) vwCl [(h0, .inr (0, [.ref a0, .ref a1, .ref a2, .ref a3, .int k])), (a0, .inl (cA, 10, .inl w)), (a1, .inl (cA, 10, .inl (bb_pal pr st x 10))), (a2, .inl (cA, 31, .inl vo)), (a3, .inl (cA, 31, .inl vf))] (va_A [(h0, .inr (0, [.ref a0, .ref a1, .ref a2, .ref a3, .int k])), (a0, .inl (cA, 10, .inl w)), (a1, .inl (cA, 10, .inl pr)), (a2, .inl (cA, 31, .inl vo)), (a3, .inl (cA, 31, .inl vf))] sz)) 0 0 (va_A [(h0, .inr (0, [.ref a0, .ref a1, .ref a2, .ref a3, .int k])), (a0, .inl (cA, 10, .inl w)), (a1, .inl (cA, 10, .inl pr)), (a2, .inl (cA, 31, .inl vo)), (a3, .inl (cA, 31, .inl vf))] sz) := by
  refine Met.ofW (cc := cX0_promiseAll) (maxL := 4) (ret := none) (by decide) rfl ?_
  intro p e s m args below meth c s₁ B hml hv
  obtain ⟨rfl, hsz, hP, hK, hD0⟩ := hv
  have hx := B.exec
  have hb := B.bytes
  have hr := B.returns
  have hts := atoms_spec (ws := wsX0_promiseAll) B.pre
  have hown : s.vm.findClass RX0 = some m.cls := findClass_of_methodNamed B.named
  have hlocks := B.notSynchronized
  subst hsz
  have hD := hD0.self (sz := s.heap.size)
  generalize hAe : va_A [(h0, .inr (0, [.ref a0, .ref a1, .ref a2, .ref a3, .int k])), (a0, .inl (cA, 10, .inl w)), (a1, .inl (cA, 10, .inl pr)), (a2, .inl (cA, 31, .inl vo)), (a3, .inl (cA, 31, .inl vf))] s.heap.size = A at hD ⊢
  have hA : ∀ q : Nat, s.heap.size ≤ q → A q := fun q h => by rw [← hAe]; exact Or.inr h
  have hin : ∀ w9 ∈ u_ws RX0 TX0 5, w9 ∈ wsX0_promiseAll := fun w9 h9 => List.mem_cons_of_mem _ (bb_inX0 w9 h9)
  have hf13 := hts _ (List.mem_cons_of_mem _ bb_fX0_13)
  have hl := lv_entry ([.ref h0, .int st, .int x]) (n := 4) (Nat.le_of_ble_eq_true rfl)
  rw [lg_entry_eq]
  generalize (lg_sl ([.ref h0, .int st, .int x]) ++ List.replicate (4 - (lg_sl ([.ref h0, .int st, .int x])).length) Slot.unset).toArray = ls at hl ⊢
  have hl : lv_has ls 4 [(0, .ref h0), (1, .int st), (2, .int x)] := hl
  refine bb_gen hP hD (fun H locs hP hD hS => ?_)
  refine lv_iconst (v := 0) hx hb dX0_promiseAll_0 (by decide) ?_
  refine lv_istore_n (lv' := [(3, .int 0), (0, .ref h0), (1, .int st), (2, .int x)]) hx hb dX0_promiseAll_1 rfl hl (by decide) rfl (fun ls hl => ?_)
  have hl : lv_has ls 4 [(0, .ref h0), (1, .int st), (2, .int x), (3, .int 0)] := lv_sub hl [1, 2, 3, 0] rfl
  refine bb_forHW (pc := 2) (I := fun j9 ls H L => lv_has ls 4 [(0, .ref h0), (1, .int st), (2, .int x), (3, .int (nI j9))] ∧ va_P (dC, dI) vwCl [(h0, .inr (0, [.ref a0, .ref a1, .ref a2, .ref a3, .int k])), (a0, .inl (cA, 10, .inl w)), (a1, .inl (cA, 10, .inl (bb_pal pr st x j9))), (a2, .inl (cA, 31, .inl vo)), (a3, .inl (cA, 31, .inl vf))] H ∧ va_D A [(h0, .inr (0, [.ref a0, .ref a1, .ref a2, .ref a3, .int k])), (a0, .inl (cA, 10, .inl w)), (a1, .inl (cA, 10, .inl (bb_pal pr st x j9))), (a2, .inl (cA, 31, .inl vo)), (a3, .inl (cA, 31, .inl vf))] ∧ va_S A s.heap H L) 10 ?_ ?_ 0 ls H locs (Nat.zero_le _) ⟨hl, hP, hD, hS⟩
  · skip
    intro j ls H locs hj hI ihj
    obtain ⟨hl, hP, hD, hS⟩ := hI
    refine lv_iload_n hx hb dX0_promiseAll_2 rfl (lv_at hl 3 rfl) ?_
    refine lv_bipush (v := nI 10) hx hb dX0_promiseAll_3 (by decide) ?_
    refine lv_icmp_ge (tgt := 29) hx hb dX0_promiseAll_5 rfl (fun h5 => absurd h5 (nI_ge hj (by decide))) (fun h5 => ?_)
    have q5 := bb_lt h5
    refine lv_iload_n hx hb dX0_promiseAll_8 rfl (lv_at hl 1 rfl) ?_
    refine lv_iload_n hx hb dX0_promiseAll_9 rfl (lv_at hl 3 rfl) ?_
    refine bb_cS (As := [.int st, .int (nI j)]) (rest := []) (r := bb_I (bb_hb st j)) ⟨hx, hb, hml, hown, hts⟩ (k_holds l st j) (cwS 2 hts gX0_promiseAll_X0_holds rfl rfl rfl (by decide +kernel) ⟨Nat.le_of_ble_eq_true rfl, Nat.le_of_ble_eq_true rfl⟩) rfl hl.1 rfl (Nat.le_of_ble_eq_true rfl) dX0_promiseAll_10 (Nat.zero_le _) (Nat.zero_le _) ?_
    refine lv_if_eq (tgt := 23) hx hb dX0_promiseAll_13 rfl (fun h13 => ?_) (fun h13 => ?_)
    · skip
      have q13 := bb_I_0.mp h13
      refine lv_iinc (v := nI (j + 1)) (lv' := [(3, .int (nI (j + 1))), (0, .ref h0), (1, .int st), (2, .int x)]) hx hb dX0_promiseAll_23 hl (k := 3) rfl (bb_inc _) (by decide) rfl (fun ls hl => ?_)
      refine lv_goto (tgt := 2) hx hb dX0_promiseAll_26 rfl ?_
      have hl : lv_has ls 4 [(0, .ref h0), (1, .int st), (2, .int x), (3, .int (nI (j + 1)))] := lv_sub hl [1, 2, 3, 0] rfl
      have e1 : bb_pal pr st x j = bb_pal pr st x (j + 1) := by simp [bb_pal, h5, q5, h13, q13]
      have hP : va_P (dC, dI) vwCl [(h0, .inr (0, [.ref a0, .ref a1, .ref a2, .ref a3, .int k])), (a0, .inl (cA, 10, .inl w)), (a1, .inl (cA, 10, .inl (bb_pal pr st x (j + 1)))), (a2, .inl (cA, 31, .inl vo)), (a3, .inl (cA, 31, .inl vf))] H := by rw [← e1]; exact hP
      have hD : va_D A [(h0, .inr (0, [.ref a0, .ref a1, .ref a2, .ref a3, .int k])), (a0, .inl (cA, 10, .inl w)), (a1, .inl (cA, 10, .inl (bb_pal pr st x (j + 1)))), (a2, .inl (cA, 31, .inl vo)), (a3, .inl (cA, 31, .inl vf))] := by rw [← e1]; exact hD
      exact ihj ls H locs ⟨hl, hP, hD, hS⟩
    · skip
      have q13 := bb_nz h13
      refine lv_aload_n hx hb dX0_promiseAll_16 rfl (lv_at hl 0 rfl) ?_
      refine va_get (D := (dC, dI)) (ci := 0) (v := .ref a1) (C := RX0) (T := TX0) (N := 5) hx hb hts hin hown hK hP 0 rfl rfl 1 (by decide) hf13 (fun _ h9 => h9) rfl dX0_promiseAll_17 ?_
      refine lv_iload_n hx hb dX0_promiseAll_20 rfl (lv_at hl 3 rfl) ?_
      refine lv_iload_n hx hb dX0_promiseAll_21 rfl (lv_at hl 2 rfl) ?_
      refine bb_ast hx hb hK hP hD hS 2 0 rfl rfl j (by omega) (by decide) dX0_promiseAll_22 (fun H locs hP hD hS => ?_)
      have hP : va_P (dC, dI) vwCl [(h0, .inr (0, [.ref a0, .ref a1, .ref a2, .ref a3, .int k])), (a0, .inl (cA, 10, .inl w)), (a1, .inl (cA, 10, .inl (upd (bb_pal pr st x j) j x))), (a2, .inl (cA, 31, .inl vo)), (a3, .inl (cA, 31, .inl vf))] H := hP
      have hD : va_D A [(h0, .inr (0, [.ref a0, .ref a1, .ref a2, .ref a3, .int k])), (a0, .inl (cA, 10, .inl w)), (a1, .inl (cA, 10, .inl (upd (bb_pal pr st x j) j x))), (a2, .inl (cA, 31, .inl vo)), (a3, .inl (cA, 31, .inl vf))] := hD
      refine lv_iinc (v := nI (j + 1)) (lv' := [(3, .int (nI (j + 1))), (0, .ref h0), (1, .int st), (2, .int x)]) hx hb dX0_promiseAll_23 hl (k := 3) rfl (bb_inc _) (by decide) rfl (fun ls hl => ?_)
      refine lv_goto (tgt := 2) hx hb dX0_promiseAll_26 rfl ?_
      have hl : lv_has ls 4 [(0, .ref h0), (1, .int st), (2, .int x), (3, .int (nI (j + 1)))] := lv_sub hl [1, 2, 3, 0] rfl
      have e2 : upd (bb_pal pr st x j) j x = bb_pal pr st x (j + 1) := by simp [bb_pal, h5, q5, h13, q13]
      have hP : va_P (dC, dI) vwCl [(h0, .inr (0, [.ref a0, .ref a1, .ref a2, .ref a3, .int k])), (a0, .inl (cA, 10, .inl w)), (a1, .inl (cA, 10, .inl (bb_pal pr st x (j + 1)))), (a2, .inl (cA, 31, .inl vo)), (a3, .inl (cA, 31, .inl vf))] H := by rw [← e2]; exact hP
      have hD : va_D A [(h0, .inr (0, [.ref a0, .ref a1, .ref a2, .ref a3, .int k])), (a0, .inl (cA, 10, .inl w)), (a1, .inl (cA, 10, .inl (bb_pal pr st x (j + 1)))), (a2, .inl (cA, 31, .inl vo)), (a3, .inl (cA, 31, .inl vf))] := by rw [← e2]; exact hD
      exact ihj ls H locs ⟨hl, hP, hD, hS⟩
  · skip
    intro ls H locs hI
    obtain ⟨hl, hP, hD, hS⟩ := hI
    refine lv_iload_n hx hb dX0_promiseAll_2 rfl (lv_at hl 3 rfl) ?_
    refine lv_bipush (v := nI 10) hx hb dX0_promiseAll_3 (by decide) ?_
    refine lv_icmp_ge (tgt := 29) hx hb dX0_promiseAll_5 rfl (fun h5 => ?_) (fun h5 => absurd (nI_le (Nat.le_refl _) (by decide)) h5)
    have q5 := bb_nlt h5
    exact W.vret hx hb hr (fun t ht _ => ⟨⟨(), rfl, trivial, by show va_P _ _ _ t.heap; rw [ht]; exact hP⟩, hS.F ht⟩) hS.2.2 dX0_promiseAll_29

set_option maxHeartbeats 4000000 in
set_option maxRecDepth 100000 in
theorem j_ask (l : Launch) (dC : Nat → ClassId) (dI : Nat → Nat → Nat) (cA : ClassId) (h0 a0 a1 a2 a3 : Nat) (w pr vo vf : Nat → Int32) (k : Int32) (sz : Nat) (a : Nat) (ha0 : a < 1024) (b : Nat) (hb0 : b < 31) (hen : bb_en w k (nI a) = true) (hle : bb_hm pr (nI a) 10 ≤ nI b) : Met l yX0_ask wsX0_ask ({ frames := 3, cells := 0, slots := 0, locals := 65 }) (bb_Pm [.ref h0, .int (nI a), .int (nI b)] (dC, dI) vwCl [(h0, .inr (0, [.ref a0, .ref a1, .ref a2, .ref a3, .int k])), (a0, .inl (cA, 10, .inl w)), (a1, .inl (cA, 10, .inl pr)), (a2, .inl (cA, 31, .inl vo)), (a3, .inl (cA, 31, .inl vf))] [(cA, .int)] sz) (bb_Qm (bb_ask vo vf (nI a) b) (dC, dI) vwCl [(h0, .inr (0, [.ref a0, .ref a1, .ref a2, .ref a3, .int k])), (a0, .inl (cA, 10, .inl w)), (a1, .inl (cA, 10, .inl (bb_pal pr (nI a) (nI b) 10))), (a2, .inl (cA, 31, .inl vo)), (a3, .inl (cA, 31, .inl vf))] (va_A [(h0, .inr (0, [.ref a0, .ref a1, .ref a2, .ref a3, .int k])), (a0, .inl (cA, 10, .inl w)), (a1, .inl (cA, 10, .inl pr)), (a2, .inl (cA, 31, .inl vo)), (a3, .inl (cA, 31, .inl vf))] sz)) 0 0 (va_A [(h0, .inr (0, [.ref a0, .ref a1, .ref a2, .ref a3, .int k])), (a0, .inl (cA, 10, .inl w)), (a1, .inl (cA, 10, .inl pr)), (a2, .inl (cA, 31, .inl vo)), (a3, .inl (cA, 31, .inl vf))] sz) := by
  refine Met.ofW (cc := cX0_ask) (maxL := 4) (ret := some .int) (by decide) rfl ?_
  intro p e s m args below meth c s₁ B hml hv
  obtain ⟨rfl, hsz, hP, hK, hD0⟩ := hv
  have hx := B.exec
  have hb := B.bytes
  have hr := B.returns
  have hts := atoms_spec (ws := wsX0_ask) B.pre
  have hown : s.vm.findClass RX0 = some m.cls := findClass_of_methodNamed B.named
  have hlocks := B.notSynchronized
  subst hsz
  have hD := hD0.self (sz := s.heap.size)
  generalize hAe : va_A [(h0, .inr (0, [.ref a0, .ref a1, .ref a2, .ref a3, .int k])), (a0, .inl (cA, 10, .inl w)), (a1, .inl (cA, 10, .inl pr)), (a2, .inl (cA, 31, .inl vo)), (a3, .inl (cA, 31, .inl vf))] s.heap.size = A at hD ⊢
  have hA : ∀ q : Nat, s.heap.size ≤ q → A q := fun q h => by rw [← hAe]; exact Or.inr h
  have hin : ∀ w9 ∈ u_ws RX0 TX0 5, w9 ∈ wsX0_ask := fun w9 h9 => List.mem_cons_of_mem _ (bb_inX0 w9 h9)
  have hf19 := hts _ (List.mem_cons_of_mem _ bb_fX0_19)
  have hl := lv_entry ([.ref h0, .int (nI a), .int (nI b)]) (n := 4) (Nat.le_of_ble_eq_true rfl)
  rw [lg_entry_eq]
  generalize (lg_sl ([.ref h0, .int (nI a), .int (nI b)]) ++ List.replicate (4 - (lg_sl ([.ref h0, .int (nI a), .int (nI b)])).length) Slot.unset).toArray = ls at hl ⊢
  have hl : lv_has ls 4 [(0, .ref h0), (1, .int (nI a)), (2, .int (nI b))] := hl
  refine bb_gen hP hD (fun H locs hP hD hS => ?_)
  refine lv_iload_n hx hb dX0_ask_0 rfl (lv_at hl 1 rfl) ?_
  refine bb_cSv (As := [.int (nI a)]) (rest := []) ⟨hx, hb, hml, hown, hts⟩ (k_requireSet l a (by omega)) (cwS 1 hts gX0_ask_X0_requireSet rfl rfl rfl (by decide +kernel) ⟨Nat.le_of_ble_eq_true rfl, Nat.le_of_ble_eq_true rfl⟩) rfl hl.1 rfl (Nat.le_of_ble_eq_true rfl) dX0_ask_1 (Nat.zero_le _) (Nat.zero_le _) ?_
  refine lv_iload_n hx hb dX0_ask_4 rfl (lv_at hl 2 rfl) ?_
  refine bb_cSv (As := [.int (nI b)]) (rest := []) ⟨hx, hb, hml, hown, hts⟩ (k_requireBallot l b (by omega)) (cwS 1 hts gX0_ask_X0_requireBallot rfl rfl rfl (by decide +kernel) ⟨Nat.le_of_ble_eq_true rfl, Nat.le_of_ble_eq_true rfl⟩) rfl hl.1 rfl (Nat.le_of_ble_eq_true rfl) dX0_ask_5 (Nat.zero_le _) (Nat.zero_le _) ?_
  refine lv_aload_n hx hb dX0_ask_8 rfl (lv_at hl 0 rfl) ?_
  refine lv_iload_n hx hb dX0_ask_9 rfl (lv_at hl 1 rfl) ?_
  refine bb_cV (As := [.int (nI a)]) (rest := []) (r := bb_I (bb_en w k (nI a))) 0 ⟨hx, hb, hml, hown, hts⟩ (k_isEnough l dC dI cA h0 a0 a1 a2 a3 w pr vo vf k (nI a)) (cwV 1 hts gX0_ask_X0_isEnough rfl rfl rfl (by decide +kernel) ⟨Nat.le_of_ble_eq_true rfl, Nat.le_of_ble_eq_true rfl⟩) hP hK rfl rfl rfl hl.1 rfl (Nat.le_of_ble_eq_true rfl) dX0_ask_10 (Nat.zero_le _) (Nat.zero_le _) ?_
  refine bb_topi (y := 1) (by rw [hen]; rfl) ?_
  refine lv_if_ne (tgt := 26) hx hb dX0_ask_13 rfl (fun h13 => ?_) (fun h13 => absurd h13 (by decide))
  refine lv_aload_n hx hb dX0_ask_26 rfl (lv_at hl 0 rfl) ?_
  refine lv_iload_n hx hb dX0_ask_27 rfl (lv_at hl 1 rfl) ?_
  refine bb_cV (As := [.int (nI a)]) (rest := []) (r := bb_hm pr (nI a) 10) 0 ⟨hx, hb, hml, hown, hts⟩ (k_highestPromise l dC dI cA h0 a0 a1 a2 a3 w pr vo vf k (nI a)) (cwV 1 hts gX0_ask_X0_highestPromise rfl rfl rfl (by decide +kernel) ⟨Nat.le_of_ble_eq_true rfl, Nat.le_of_ble_eq_true rfl⟩) hP hK rfl rfl rfl hl.1 rfl (Nat.le_of_ble_eq_true rfl) dX0_ask_28 (Nat.zero_le _) (Nat.zero_le _) ?_
  refine lv_iload_n hx hb dX0_ask_31 rfl (lv_at hl 2 rfl) ?_
  refine lv_icmp_le (tgt := 45) hx hb dX0_ask_32 rfl (fun h32 => ?_) (fun h32 => absurd hle h32)
  have q32 := bb_nlt h32
  refine lv_aload_n hx hb dX0_ask_45 rfl (lv_at hl 0 rfl) ?_
  refine lv_iload_n hx hb dX0_ask_46 rfl (lv_at hl 1 rfl) ?_
  refine lv_iload_n hx hb dX0_ask_47 rfl (lv_at hl 2 rfl) ?_
  refine bb_cVmv (As := [.int (nI a), .int (nI b)]) (rest := []) (wd' := [(h0, .inr (0, [.ref a0, .ref a1, .ref a2, .ref a3, .int k])), (a0, .inl (cA, 10, .inl w)), (a1, .inl (cA, 10, .inl (bb_pal pr (nI a) (nI b) 10))), (a2, .inl (cA, 31, .inl vo)), (a3, .inl (cA, 31, .inl vf))]) 0 ⟨hx, hb, hml, hown, hts⟩ (j_promiseAll l dC dI cA h0 a0 a1 a2 a3 w pr vo vf k H.size (nI a) (nI b)) (cwV 2 hts gX0_ask_X0_promiseAll rfl rfl rfl (by decide +kernel) ⟨Nat.le_of_ble_eq_true rfl, Nat.le_of_ble_eq_true rfl⟩) hP hK hD hS hA rfl rfl rfl rfl hl.1 rfl (Nat.le_of_ble_eq_true rfl) dX0_ask_48 (Nat.zero_le _) (Nat.zero_le _) (fun H locs hP hD hS => ?_)
  have hP : va_P (dC, dI) vwCl [(h0, .inr (0, [.ref a0, .ref a1, .ref a2, .ref a3, .int k])), (a0, .inl (cA, 10, .inl w)), (a1, .inl (cA, 10, .inl (bb_pal pr (nI a) (nI b) 10))), (a2, .inl (cA, 31, .inl vo)), (a3, .inl (cA, 31, .inl vf))] H := hP
  have hD : va_D A [(h0, .inr (0, [.ref a0, .ref a1, .ref a2, .ref a3, .int k])), (a0, .inl (cA, 10, .inl w)), (a1, .inl (cA, 10, .inl (bb_pal pr (nI a) (nI b) 10))), (a2, .inl (cA, 31, .inl vo)), (a3, .inl (cA, 31, .inl vf))] := hD
  refine lv_aload_n hx hb dX0_ask_51 rfl (lv_at hl 0 rfl) ?_
  refine lv_iload_n hx hb dX0_ask_52 rfl (lv_at hl 2 rfl) ?_
  refine lv_iload_n hx hb dX0_ask_53 rfl (lv_at hl 1 rfl) ?_
  refine bb_cV (As := [.int (nI b), .int (nI a)]) (rest := []) (r := bb_la (fun c9 => decide (vo c9 &&& (nI a) ≠ 0)) b) 0 ⟨hx, hb, hml, hown, hts⟩ (k_lastBallotBelow l dC dI cA h0 a0 a1 a2 a3 w (bb_pal pr (nI a) (nI b) 10) vo vf k b (nI a) (by omega)) (cwV 2 hts gX0_ask_X0_lastBallotBelow rfl rfl rfl (by decide +kernel) ⟨Nat.le_of_ble_eq_true rfl, Nat.le_of_ble_eq_true rfl⟩) hP hK rfl rfl rfl hl.1 rfl (Nat.le_of_ble_eq_true rfl) dX0_ask_54 (Nat.zero_le _) (Nat.zero_le _) ?_
  refine lv_istore_n (lv' := [(3, .int (bb_la (fun c9 => decide (vo c9 &&& (nI a) ≠ 0)) b)), (0, .ref h0), (1, .int (nI a)), (2, .int (nI b))]) hx hb dX0_ask_57 rfl hl (by decide) rfl (fun ls hl => ?_)
  refine lv_iload_n hx hb dX0_ask_58 rfl (lv_at hl 0 rfl) ?_
  refine lv_iconst (v := (-1)) hx hb dX0_ask_59 (by decide) ?_
  refine lv_icmp_ne (tgt := 67) hx hb dX0_ask_60 rfl (fun h60 => ?_) (fun h60 => ?_)
  · skip
    obtain ⟨c9, hc9, ec9⟩ := bb_la_in h60
    refine lv_aload_n hx hb dX0_ask_67 rfl (lv_at hl 1 rfl) ?_
    refine va_get (D := (dC, dI)) (ci := 0) (v := .ref a3) (C := RX0) (T := TX0) (N := 5) hx hb hts hin hown hK hP 0 rfl rfl 3 (by decide) hf19 (fun _ h9 => h9) rfl dX0_ask_68 ?_
    refine lv_iload_n hx hb dX0_ask_71 rfl (lv_at hl 0 rfl) ?_
    refine bb_topi (y := nI c9) (ec9) ?_
    refine bb_ald hx hb hK hP 4 0 rfl rfl c9 (by omega) (by decide) dX0_ask_72 ?_
    have er : vf c9 = bb_ask vo vf (nI a) b := by unfold bb_ask; rw [ec9, if_neg (bb_m1 (by omega)), nI_clamp (by omega)]
    exact W.iret (v := vf c9) hx hb hr (fun t ht _ => ⟨⟨vf c9, (), rfl, er, by show va_P _ _ _ t.heap; rw [ht]; exact hP⟩, hS.F ht⟩) hS.2.2 dX0_ask_73
  · skip
    refine lv_iconst (v := (-1)) hx hb dX0_ask_63 (by decide) ?_
    refine lv_goto (tgt := 73) hx hb dX0_ask_64 rfl ?_
    have er : (-1) = bb_ask vo vf (nI a) b := by unfold bb_ask; rw [if_pos h60]
    exact W.iret (v := (-1)) hx hb hr (fun t ht _ => ⟨⟨(-1), (), rfl, er, by show va_P _ _ _ t.heap; rw [ht]; exact hP⟩, hS.F ht⟩) hS.2.2 dX0_ask_73
