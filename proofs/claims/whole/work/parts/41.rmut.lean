set_option maxHeartbeats 4000000 in
set_option maxRecDepth 100000 in
theorem r_weight (l : Launch) (dC : Nat → ClassId) (dI : Nat → Nat → Nat) (cA : ClassId) (g0 b0 b1 b2 : Nat) (w pr vt : Nat → Int32) (k th : Int32) (sz : Nat) (n : Nat) (hn0 : n < 10) (a : Nat) (ha0 : a ≤ 50) : Met l yX1_weight wsX1_weight ({ frames := 1, cells := 0, slots := 0, locals := 21 }) (bb_Pm [.ref g0, .int (nI n), .int (nI a)] (dC, dI) vwCl [(g0, .inr (1, [.ref b0, .ref b1, .ref b2, .int k, .int th])), (b0, .inl (cA, 10, .inl w)), (b1, .inl (cA, 10, .inl pr)), (b2, .inl (cA, 310, .inl vt))] [(cA, .int)] sz) (bb_Qm (w n) (dC, dI) vwCl [(g0, .inr (1, [.ref b0, .ref b1, .ref b2, .int k, .int 0])), (b0, .inl (cA, 10, .inl (upd w n (nI a)))), (b1, .inl (cA, 10, .inl pr)), (b2, .inl (cA, 310, .inl vt))] (va_A [(g0, .inr (1, [.ref b0, .ref b1, .ref b2, .int k, .int th])), (b0, .inl (cA, 10, .inl w)), (b1, .inl (cA, 10, .inl pr)), (b2, .inl (cA, 310, .inl vt))] sz)) 0 0 (va_A [(g0, .inr (1, [.ref b0, .ref b1, .ref b2, .int k, .int th])), (b0, .inl (cA, 10, .inl w)), (b1, .inl (cA, 10, .inl pr)), (b2, .inl (cA, 310, .inl vt))] sz) := by
  refine Met.ofW (cc := cX1_weight) (maxL := 4) (ret := some .int) (by decide) rfl ?_
  intro p e s m args below meth c s₁ B hml hv
  obtain ⟨rfl, hsz, hP, hK, hD0⟩ := hv
  have hx := B.exec
  have hb := B.bytes
  have hr := B.returns
  have hts := atoms_spec (ws := wsX1_weight) B.pre
  have hown : s.vm.findClass RX1 = some m.cls := findClass_of_methodNamed B.named
  have hlocks := B.notSynchronized
  subst hsz
  have hD := hD0.self (sz := s.heap.size)
  generalize hAe : va_A [(g0, .inr (1, [.ref b0, .ref b1, .ref b2, .int k, .int th])), (b0, .inl (cA, 10, .inl w)), (b1, .inl (cA, 10, .inl pr)), (b2, .inl (cA, 310, .inl vt))] s.heap.size = A at hD ⊢
  have hA : ∀ q : Nat, s.heap.size ≤ q → A q := fun q h => by rw [← hAe]; exact Or.inr h
  have hin : ∀ w9 ∈ u_ws RX1 TX1 5, w9 ∈ wsX1_weight := fun w9 h9 => List.mem_cons_of_mem _ (bb_inX1 w9 h9)
  have hf9 := hts _ (List.mem_cons_of_mem _ bb_fX1_9)
  have hf23 := hts _ (List.mem_cons_of_mem _ bb_fX1_23)
  have hl := lv_entry ([.ref g0, .int (nI n), .int (nI a)]) (n := 4) (Nat.le_of_ble_eq_true rfl)
  rw [lg_entry_eq]
  generalize (lg_sl ([.ref g0, .int (nI n), .int (nI a)]) ++ List.replicate (4 - (lg_sl ([.ref g0, .int (nI n), .int (nI a)])).length) Slot.unset).toArray = ls at hl ⊢
  have hl : lv_has ls 4 [(0, .ref g0), (1, .int (nI n)), (2, .int (nI a))] := hl
  refine bb_gen hP hD (fun H locs hP hD hS => ?_)
  refine lv_aload_n hx hb dX1_weight_0 rfl (lv_at hl 0 rfl) ?_
  refine lv_iload_n hx hb dX1_weight_1 rfl (lv_at hl 1 rfl) ?_
  refine lv_bipush (v := nI 10) hx hb dX1_weight_2 (by decide) ?_
  refine bb_cS (As := [.int (nI n), .int (nI 10)]) (rest := [.ref g0]) (r := bb_I (bb_out (nI n) (nI 10))) ⟨hx, hb, hml, hown, hts⟩ (m_out l (nI n) (nI 10)) (cwS 2 hts gX1_weight_X1_out rfl rfl rfl (by decide +kernel) ⟨Nat.le_of_ble_eq_true rfl, Nat.le_of_ble_eq_true rfl⟩) rfl hl.1 rfl (Nat.le_of_ble_eq_true rfl) dX1_weight_4 (Nat.zero_le _) (Nat.zero_le _) ?_
  refine bb_topi (y := 0) (by rw [bb_out_no hn0 (by decide)]; rfl) ?_
  refine lv_if_eq (tgt := 14) hx hb dX1_weight_7 rfl (fun h7 => ?_) (fun h7 => absurd rfl h7)
  refine lv_iload_n hx hb dX1_weight_14 rfl (lv_at hl 2 rfl) ?_
  refine lv_if_lt (tgt := 24) hx hb dX1_weight_15 rfl (fun h15 => absurd h15 (nI_pos (by omega))) (fun h15 => ?_)
  refine lv_iload_n hx hb dX1_weight_18 rfl (lv_at hl 2 rfl) ?_
  refine lv_bipush (v := nI 50) hx hb dX1_weight_19 (by decide) ?_
  refine lv_icmp_le (tgt := 28) hx hb dX1_weight_21 rfl (fun h21 => ?_) (fun h21 => absurd (nI_le (by omega) (by decide)) h21)
  have q21 := bb_nlt h21
  refine lv_iconst (v := 0) hx hb dX1_weight_28 (by decide) ?_
  refine va_put (D := (dC, dI)) (ci := 1) (v := .int 0) (ty := .int) (C := RX1) (T := TX1) (N := 5) hx hb hts hin tyX1 tyX1_ok nX1 hown hK hP hD hS 0 rfl rfl 4 (by decide) hf23 (fun _ h9 => h9) rfl (by decide +kernel) rfl rfl (Nat.le_of_ble_eq_true rfl) dX1_weight_29 (fun H locs hP hD hS => ?_)
  have hP : va_P (dC, dI) vwCl [(g0, .inr (1, [.ref b0, .ref b1, .ref b2, .int k, .int 0])), (b0, .inl (cA, 10, .inl w)), (b1, .inl (cA, 10, .inl pr)), (b2, .inl (cA, 310, .inl vt))] H := hP
  have hD : va_D A [(g0, .inr (1, [.ref b0, .ref b1, .ref b2, .int k, .int 0])), (b0, .inl (cA, 10, .inl w)), (b1, .inl (cA, 10, .inl pr)), (b2, .inl (cA, 310, .inl vt))] := hD
  refine lv_aload_n hx hb dX1_weight_32 rfl (lv_at hl 0 rfl) ?_
  refine va_get (D := (dC, dI)) (ci := 1) (v := .int 0) (C := RX1) (T := TX1) (N := 5) hx hb hts hin hown hK hP 0 rfl rfl 4 (by decide) hf23 (fun _ h9 => h9) rfl dX1_weight_33 ?_
  refine lv_if_le (tgt := 41) hx hb dX1_weight_36 rfl (fun h36 => ?_) (fun h36 => absurd (by decide) h36)
  refine lv_aload_n hx hb dX1_weight_41 rfl (lv_at hl 0 rfl) ?_
  refine va_get (D := (dC, dI)) (ci := 1) (v := .ref b0) (C := RX1) (T := TX1) (N := 5) hx hb hts hin hown hK hP 0 rfl rfl 0 (by decide) hf9 (fun _ h9 => h9) rfl dX1_weight_42 ?_
  refine lv_iload_n hx hb dX1_weight_45 rfl (lv_at hl 1 rfl) ?_
  refine bb_ald hx hb hK hP 1 0 rfl rfl n (by omega) (by decide) dX1_weight_46 ?_
  refine lv_istore_n (lv' := [(3, .int (w n)), (0, .ref g0), (1, .int (nI n)), (2, .int (nI a))]) hx hb dX1_weight_47 rfl hl (by decide) rfl (fun ls hl => ?_)
  refine lv_aload_n hx hb dX1_weight_48 rfl (lv_at hl 1 rfl) ?_
  refine va_get (D := (dC, dI)) (ci := 1) (v := .ref b0) (C := RX1) (T := TX1) (N := 5) hx hb hts hin hown hK hP 0 rfl rfl 0 (by decide) hf9 (fun _ h9 => h9) rfl dX1_weight_49 ?_
  refine lv_iload_n hx hb dX1_weight_52 rfl (lv_at hl 2 rfl) ?_
  refine lv_iload_n hx hb dX1_weight_53 rfl (lv_at hl 3 rfl) ?_
  refine bb_ast hx hb hK hP hD hS 1 0 rfl rfl n (by omega) (by decide) dX1_weight_54 (fun H locs hP hD hS => ?_)
  have hP : va_P (dC, dI) vwCl [(g0, .inr (1, [.ref b0, .ref b1, .ref b2, .int k, .int 0])), (b0, .inl (cA, 10, .inl (upd w n (nI a)))), (b1, .inl (cA, 10, .inl pr)), (b2, .inl (cA, 310, .inl vt))] H := hP
  have hD : va_D A [(g0, .inr (1, [.ref b0, .ref b1, .ref b2, .int k, .int 0])), (b0, .inl (cA, 10, .inl (upd w n (nI a)))), (b1, .inl (cA, 10, .inl pr)), (b2, .inl (cA, 310, .inl vt))] := hD
  refine lv_iload_n hx hb dX1_weight_55 rfl (lv_at hl 0 rfl) ?_
  exact W.iret (v := w n) hx hb hr (fun t ht _ => ⟨⟨w n, (), rfl, rfl, by show va_P _ _ _ t.heap; rw [ht]; exact hP⟩, hS.F ht⟩) hS.2.2 dX1_weight_56

set_option maxHeartbeats 4000000 in
set_option maxRecDepth 100000 in
theorem r_weight1 (l : Launch) (dC : Nat → ClassId) (dI : Nat → Nat → Nat) (cA : ClassId) (g0 b0 b1 b2 : Nat) (w pr vt : Nat → Int32) (k th : Int32) (sz : Nat) (x0 x1 : Int32) (hbad : bb_out x0 (nI 10) = true) : Met l yX1_weight wsX1_weight ({ frames := 1, cells := 0, slots := 0, locals := 21 }) (bb_Pm [.ref g0, .int x0, .int x1] (dC, dI) vwCl [(g0, .inr (1, [.ref b0, .ref b1, .ref b2, .int k, .int th])), (b0, .inl (cA, 10, .inl w)), (b1, .inl (cA, 10, .inl pr)), (b2, .inl (cA, 310, .inl vt))] [(cA, .int)] sz) (bb_Qm (0) (dC, dI) vwCl [(g0, .inr (1, [.ref b0, .ref b1, .ref b2, .int k, .int 1])), (b0, .inl (cA, 10, .inl w)), (b1, .inl (cA, 10, .inl pr)), (b2, .inl (cA, 310, .inl vt))] (va_A [(g0, .inr (1, [.ref b0, .ref b1, .ref b2, .int k, .int th])), (b0, .inl (cA, 10, .inl w)), (b1, .inl (cA, 10, .inl pr)), (b2, .inl (cA, 310, .inl vt))] sz)) 0 0 (va_A [(g0, .inr (1, [.ref b0, .ref b1, .ref b2, .int k, .int th])), (b0, .inl (cA, 10, .inl w)), (b1, .inl (cA, 10, .inl pr)), (b2, .inl (cA, 310, .inl vt))] sz) := by
  refine Met.ofW (cc := cX1_weight) (maxL := 4) (ret := some .int) (by decide) rfl ?_
  intro p e s m args below meth c s₁ B hml hv
  obtain ⟨rfl, hsz, hP, hK, hD0⟩ := hv
  have hx := B.exec
  have hb := B.bytes
  have hr := B.returns
  have hts := atoms_spec (ws := wsX1_weight) B.pre
  have hown : s.vm.findClass RX1 = some m.cls := findClass_of_methodNamed B.named
  have hlocks := B.notSynchronized
  subst hsz
  have hD := hD0.self (sz := s.heap.size)
  generalize hAe : va_A [(g0, .inr (1, [.ref b0, .ref b1, .ref b2, .int k, .int th])), (b0, .inl (cA, 10, .inl w)), (b1, .inl (cA, 10, .inl pr)), (b2, .inl (cA, 310, .inl vt))] s.heap.size = A at hD ⊢
  have hA : ∀ q : Nat, s.heap.size ≤ q → A q := fun q h => by rw [← hAe]; exact Or.inr h
  have hin : ∀ w9 ∈ u_ws RX1 TX1 5, w9 ∈ wsX1_weight := fun w9 h9 => List.mem_cons_of_mem _ (bb_inX1 w9 h9)
  have hf23 := hts _ (List.mem_cons_of_mem _ bb_fX1_23)
  have hl := lv_entry ([.ref g0, .int x0, .int x1]) (n := 4) (Nat.le_of_ble_eq_true rfl)
  rw [lg_entry_eq]
  generalize (lg_sl ([.ref g0, .int x0, .int x1]) ++ List.replicate (4 - (lg_sl ([.ref g0, .int x0, .int x1])).length) Slot.unset).toArray = ls at hl ⊢
  have hl : lv_has ls 4 [(0, .ref g0), (1, .int x0), (2, .int x1)] := hl
  refine bb_gen hP hD (fun H locs hP hD hS => ?_)
  refine lv_aload_n hx hb dX1_weight_0 rfl (lv_at hl 0 rfl) ?_
  refine lv_iload_n hx hb dX1_weight_1 rfl (lv_at hl 1 rfl) ?_
  refine lv_bipush (v := nI 10) hx hb dX1_weight_2 (by decide) ?_
  refine bb_cS (As := [.int x0, .int (nI 10)]) (rest := [.ref g0]) (r := bb_I (bb_out x0 (nI 10))) ⟨hx, hb, hml, hown, hts⟩ (m_out l x0 (nI 10)) (cwS 2 hts gX1_weight_X1_out rfl rfl rfl (by decide +kernel) ⟨Nat.le_of_ble_eq_true rfl, Nat.le_of_ble_eq_true rfl⟩) rfl hl.1 rfl (Nat.le_of_ble_eq_true rfl) dX1_weight_4 (Nat.zero_le _) (Nat.zero_le _) ?_
  refine bb_topi (y := 1) (by rw [hbad]; rfl) ?_
  refine lv_if_eq (tgt := 14) hx hb dX1_weight_7 rfl (fun h7 => absurd h7 (by decide)) (fun h7 => ?_)
  refine lv_iconst (v := 1) hx hb dX1_weight_10 (by decide) ?_
  refine lv_goto (tgt := 29) hx hb dX1_weight_11 rfl ?_
  refine va_put (D := (dC, dI)) (ci := 1) (v := .int 1) (ty := .int) (C := RX1) (T := TX1) (N := 5) hx hb hts hin tyX1 tyX1_ok nX1 hown hK hP hD hS 0 rfl rfl 4 (by decide) hf23 (fun _ h9 => h9) rfl (by decide +kernel) rfl rfl (Nat.le_of_ble_eq_true rfl) dX1_weight_29 (fun H locs hP hD hS => ?_)
  have hP : va_P (dC, dI) vwCl [(g0, .inr (1, [.ref b0, .ref b1, .ref b2, .int k, .int 1])), (b0, .inl (cA, 10, .inl w)), (b1, .inl (cA, 10, .inl pr)), (b2, .inl (cA, 310, .inl vt))] H := hP
  have hD : va_D A [(g0, .inr (1, [.ref b0, .ref b1, .ref b2, .int k, .int 1])), (b0, .inl (cA, 10, .inl w)), (b1, .inl (cA, 10, .inl pr)), (b2, .inl (cA, 310, .inl vt))] := hD
  refine lv_aload_n hx hb dX1_weight_32 rfl (lv_at hl 0 rfl) ?_
  refine va_get (D := (dC, dI)) (ci := 1) (v := .int 1) (C := RX1) (T := TX1) (N := 5) hx hb hts hin hown hK hP 0 rfl rfl 4 (by decide) hf23 (fun _ h9 => h9) rfl dX1_weight_33 ?_
  refine lv_if_le (tgt := 41) hx hb dX1_weight_36 rfl (fun h36 => absurd h36 (by decide)) (fun h36 => ?_)
  refine lv_iconst (v := 0) hx hb dX1_weight_39 (by decide) ?_
  exact W.iret (v := 0) hx hb hr (fun t ht _ => ⟨⟨0, (), rfl, rfl, by show va_P _ _ _ t.heap; rw [ht]; exact hP⟩, hS.F ht⟩) hS.2.2 dX1_weight_40

set_option maxHeartbeats 4000000 in
set_option maxRecDepth 100000 in
theorem r_weight2 (l : Launch) (dC : Nat → ClassId) (dI : Nat → Nat → Nat) (cA : ClassId) (g0 b0 b1 b2 : Nat) (w pr vt : Nat → Int32) (k th : Int32) (sz : Nat) (n : Nat) (hn0 : n < 10) (x1 : Int32) (hbad : x1 < 0 ∨ ¬ x1 ≤ nI 50) : Met l yX1_weight wsX1_weight ({ frames := 1, cells := 0, slots := 0, locals := 21 }) (bb_Pm [.ref g0, .int (nI n), .int x1] (dC, dI) vwCl [(g0, .inr (1, [.ref b0, .ref b1, .ref b2, .int k, .int th])), (b0, .inl (cA, 10, .inl w)), (b1, .inl (cA, 10, .inl pr)), (b2, .inl (cA, 310, .inl vt))] [(cA, .int)] sz) (bb_Qm (0) (dC, dI) vwCl [(g0, .inr (1, [.ref b0, .ref b1, .ref b2, .int k, .int 2])), (b0, .inl (cA, 10, .inl w)), (b1, .inl (cA, 10, .inl pr)), (b2, .inl (cA, 310, .inl vt))] (va_A [(g0, .inr (1, [.ref b0, .ref b1, .ref b2, .int k, .int th])), (b0, .inl (cA, 10, .inl w)), (b1, .inl (cA, 10, .inl pr)), (b2, .inl (cA, 310, .inl vt))] sz)) 0 0 (va_A [(g0, .inr (1, [.ref b0, .ref b1, .ref b2, .int k, .int th])), (b0, .inl (cA, 10, .inl w)), (b1, .inl (cA, 10, .inl pr)), (b2, .inl (cA, 310, .inl vt))] sz) := by
  refine Met.ofW (cc := cX1_weight) (maxL := 4) (ret := some .int) (by decide) rfl ?_
  intro p e s m args below meth c s₁ B hml hv
  obtain ⟨rfl, hsz, hP, hK, hD0⟩ := hv
  have hx := B.exec
  have hb := B.bytes
  have hr := B.returns
  have hts := atoms_spec (ws := wsX1_weight) B.pre
  have hown : s.vm.findClass RX1 = some m.cls := findClass_of_methodNamed B.named
  have hlocks := B.notSynchronized
  subst hsz
  have hD := hD0.self (sz := s.heap.size)
  generalize hAe : va_A [(g0, .inr (1, [.ref b0, .ref b1, .ref b2, .int k, .int th])), (b0, .inl (cA, 10, .inl w)), (b1, .inl (cA, 10, .inl pr)), (b2, .inl (cA, 310, .inl vt))] s.heap.size = A at hD ⊢
  have hA : ∀ q : Nat, s.heap.size ≤ q → A q := fun q h => by rw [← hAe]; exact Or.inr h
  have hin : ∀ w9 ∈ u_ws RX1 TX1 5, w9 ∈ wsX1_weight := fun w9 h9 => List.mem_cons_of_mem _ (bb_inX1 w9 h9)
  have hf23 := hts _ (List.mem_cons_of_mem _ bb_fX1_23)
  have hl := lv_entry ([.ref g0, .int (nI n), .int x1]) (n := 4) (Nat.le_of_ble_eq_true rfl)
  rw [lg_entry_eq]
  generalize (lg_sl ([.ref g0, .int (nI n), .int x1]) ++ List.replicate (4 - (lg_sl ([.ref g0, .int (nI n), .int x1])).length) Slot.unset).toArray = ls at hl ⊢
  have hl : lv_has ls 4 [(0, .ref g0), (1, .int (nI n)), (2, .int x1)] := hl
  refine bb_gen hP hD (fun H locs hP hD hS => ?_)
  refine lv_aload_n hx hb dX1_weight_0 rfl (lv_at hl 0 rfl) ?_
  refine lv_iload_n hx hb dX1_weight_1 rfl (lv_at hl 1 rfl) ?_
  refine lv_bipush (v := nI 10) hx hb dX1_weight_2 (by decide) ?_
  refine bb_cS (As := [.int (nI n), .int (nI 10)]) (rest := [.ref g0]) (r := bb_I (bb_out (nI n) (nI 10))) ⟨hx, hb, hml, hown, hts⟩ (m_out l (nI n) (nI 10)) (cwS 2 hts gX1_weight_X1_out rfl rfl rfl (by decide +kernel) ⟨Nat.le_of_ble_eq_true rfl, Nat.le_of_ble_eq_true rfl⟩) rfl hl.1 rfl (Nat.le_of_ble_eq_true rfl) dX1_weight_4 (Nat.zero_le _) (Nat.zero_le _) ?_
  refine bb_topi (y := 0) (by rw [bb_out_no hn0 (by decide)]; rfl) ?_
  refine lv_if_eq (tgt := 14) hx hb dX1_weight_7 rfl (fun h7 => ?_) (fun h7 => absurd rfl h7)
  refine lv_iload_n hx hb dX1_weight_14 rfl (lv_at hl 2 rfl) ?_
  refine lv_if_lt (tgt := 24) hx hb dX1_weight_15 rfl (fun h15 => ?_) (fun h15 => ?_)
  · skip
    refine lv_iconst (v := 2) hx hb dX1_weight_24 (by decide) ?_
    refine lv_goto (tgt := 29) hx hb dX1_weight_25 rfl ?_
    refine va_put (D := (dC, dI)) (ci := 1) (v := .int 2) (ty := .int) (C := RX1) (T := TX1) (N := 5) hx hb hts hin tyX1 tyX1_ok nX1 hown hK hP hD hS 0 rfl rfl 4 (by decide) hf23 (fun _ h9 => h9) rfl (by decide +kernel) rfl rfl (Nat.le_of_ble_eq_true rfl) dX1_weight_29 (fun H locs hP hD hS => ?_)
    have hP : va_P (dC, dI) vwCl [(g0, .inr (1, [.ref b0, .ref b1, .ref b2, .int k, .int 2])), (b0, .inl (cA, 10, .inl w)), (b1, .inl (cA, 10, .inl pr)), (b2, .inl (cA, 310, .inl vt))] H := hP
    have hD : va_D A [(g0, .inr (1, [.ref b0, .ref b1, .ref b2, .int k, .int 2])), (b0, .inl (cA, 10, .inl w)), (b1, .inl (cA, 10, .inl pr)), (b2, .inl (cA, 310, .inl vt))] := hD
    refine lv_aload_n hx hb dX1_weight_32 rfl (lv_at hl 0 rfl) ?_
    refine va_get (D := (dC, dI)) (ci := 1) (v := .int 2) (C := RX1) (T := TX1) (N := 5) hx hb hts hin hown hK hP 0 rfl rfl 4 (by decide) hf23 (fun _ h9 => h9) rfl dX1_weight_33 ?_
    refine lv_if_le (tgt := 41) hx hb dX1_weight_36 rfl (fun h36 => absurd h36 (by decide)) (fun h36 => ?_)
    refine lv_iconst (v := 0) hx hb dX1_weight_39 (by decide) ?_
    exact W.iret (v := 0) hx hb hr (fun t ht _ => ⟨⟨0, (), rfl, rfl, by show va_P _ _ _ t.heap; rw [ht]; exact hP⟩, hS.F ht⟩) hS.2.2 dX1_weight_40
  · skip
    refine lv_iload_n hx hb dX1_weight_18 rfl (lv_at hl 2 rfl) ?_
    refine lv_bipush (v := nI 50) hx hb dX1_weight_19 (by decide) ?_
    refine lv_icmp_le (tgt := 28) hx hb dX1_weight_21 rfl (fun h21 => absurd h21 (hbad.resolve_left h15)) (fun h21 => ?_)
    have q21 := bb_lt h21
    refine lv_iconst (v := 2) hx hb dX1_weight_24 (by decide) ?_
    refine lv_goto (tgt := 29) hx hb dX1_weight_25 rfl ?_
    refine va_put (D := (dC, dI)) (ci := 1) (v := .int 2) (ty := .int) (C := RX1) (T := TX1) (N := 5) hx hb hts hin tyX1 tyX1_ok nX1 hown hK hP hD hS 0 rfl rfl 4 (by decide) hf23 (fun _ h9 => h9) rfl (by decide +kernel) rfl rfl (Nat.le_of_ble_eq_true rfl) dX1_weight_29 (fun H locs hP hD hS => ?_)
    have hP : va_P (dC, dI) vwCl [(g0, .inr (1, [.ref b0, .ref b1, .ref b2, .int k, .int 2])), (b0, .inl (cA, 10, .inl w)), (b1, .inl (cA, 10, .inl pr)), (b2, .inl (cA, 310, .inl vt))] H := hP
    have hD : va_D A [(g0, .inr (1, [.ref b0, .ref b1, .ref b2, .int k, .int 2])), (b0, .inl (cA, 10, .inl w)), (b1, .inl (cA, 10, .inl pr)), (b2, .inl (cA, 310, .inl vt))] := hD
    refine lv_aload_n hx hb dX1_weight_32 rfl (lv_at hl 0 rfl) ?_
    refine va_get (D := (dC, dI)) (ci := 1) (v := .int 2) (C := RX1) (T := TX1) (N := 5) hx hb hts hin hown hK hP 0 rfl rfl 4 (by decide) hf23 (fun _ h9 => h9) rfl dX1_weight_33 ?_
    refine lv_if_le (tgt := 41) hx hb dX1_weight_36 rfl (fun h36 => absurd h36 (by decide)) (fun h36 => ?_)
    refine lv_iconst (v := 0) hx hb dX1_weight_39 (by decide) ?_
    exact W.iret (v := 0) hx hb hr (fun t ht _ => ⟨⟨0, (), rfl, rfl, by show va_P _ _ _ t.heap; rw [ht]; exact hP⟩, hS.F ht⟩) hS.2.2 dX1_weight_40

set_option maxHeartbeats 4000000 in
set_option maxRecDepth 100000 in
theorem r_fail (l : Launch) (dC : Nat → ClassId) (dI : Nat → Nat → Nat) (cA : ClassId) (g0 b0 b1 b2 : Nat) (w pr vt : Nat → Int32) (k th : Int32) (sz : Nat) (x : Int32) : Met l yX1_fail wsX1_fail ({ frames := 0, cells := 0, slots := 0, locals := 0 }) (bb_Pm [.ref g0, .int x] (dC, dI) vwCl [(g0, .inr (1, [.ref b0, .ref b1, .ref b2, .int k, .int th])), (b0, .inl (cA, 10, .inl w)), (b1, .inl (cA, 10, .inl pr)), (b2, .inl (cA, 310, .inl vt))] [(cA, .int)] sz) (bb_Qm (0) (dC, dI) vwCl [(g0, .inr (1, [.ref b0, .ref b1, .ref b2, .int k, .int x])), (b0, .inl (cA, 10, .inl w)), (b1, .inl (cA, 10, .inl pr)), (b2, .inl (cA, 310, .inl vt))] (va_A [(g0, .inr (1, [.ref b0, .ref b1, .ref b2, .int k, .int th])), (b0, .inl (cA, 10, .inl w)), (b1, .inl (cA, 10, .inl pr)), (b2, .inl (cA, 310, .inl vt))] sz)) 0 0 (va_A [(g0, .inr (1, [.ref b0, .ref b1, .ref b2, .int k, .int th])), (b0, .inl (cA, 10, .inl w)), (b1, .inl (cA, 10, .inl pr)), (b2, .inl (cA, 310, .inl vt))] sz) := by
  refine Met.ofW (cc := cX1_fail) (maxL := 2) (ret := some .int) (by decide) rfl ?_
  intro p e s m args below meth c s₁ B hml hv
  obtain ⟨rfl, hsz, hP, hK, hD0⟩ := hv
  have hx := B.exec
  have hb := B.bytes
  have hr := B.returns
  have hts := atoms_spec (ws := wsX1_fail) B.pre
  have hown : s.vm.findClass RX1 = some m.cls := findClass_of_methodNamed B.named
  have hlocks := B.notSynchronized
  subst hsz
  have hD := hD0.self (sz := s.heap.size)
  generalize hAe : va_A [(g0, .inr (1, [.ref b0, .ref b1, .ref b2, .int k, .int th])), (b0, .inl (cA, 10, .inl w)), (b1, .inl (cA, 10, .inl pr)), (b2, .inl (cA, 310, .inl vt))] s.heap.size = A at hD ⊢
  have hA : ∀ q : Nat, s.heap.size ≤ q → A q := fun q h => by rw [← hAe]; exact Or.inr h
  have hin : ∀ w9 ∈ u_ws RX1 TX1 5, w9 ∈ wsX1_fail := fun w9 h9 => List.mem_cons_of_mem _ (bb_inX1 w9 h9)
  have hf23 := hts _ (List.mem_cons_of_mem _ bb_fX1_23)
  have hl := lv_entry ([.ref g0, .int x]) (n := 2) (Nat.le_of_ble_eq_true rfl)
  rw [lg_entry_eq]
  generalize (lg_sl ([.ref g0, .int x]) ++ List.replicate (2 - (lg_sl ([.ref g0, .int x])).length) Slot.unset).toArray = ls at hl ⊢
  have hl : lv_has ls 2 [(0, .ref g0), (1, .int x)] := hl
  refine bb_gen hP hD (fun H locs hP hD hS => ?_)
  refine lv_aload_n hx hb dX1_fail_0 rfl (lv_at hl 0 rfl) ?_
  refine lv_iload_n hx hb dX1_fail_1 rfl (lv_at hl 1 rfl) ?_
  refine va_put (D := (dC, dI)) (ci := 1) (v := .int x) (ty := .int) (C := RX1) (T := TX1) (N := 5) hx hb hts hin tyX1 tyX1_ok nX1 hown hK hP hD hS 0 rfl rfl 4 (by decide) hf23 (fun _ h9 => h9) rfl (by decide +kernel) rfl rfl (Nat.le_of_ble_eq_true rfl) dX1_fail_2 (fun H locs hP hD hS => ?_)
  have hP : va_P (dC, dI) vwCl [(g0, .inr (1, [.ref b0, .ref b1, .ref b2, .int k, .int x])), (b0, .inl (cA, 10, .inl w)), (b1, .inl (cA, 10, .inl pr)), (b2, .inl (cA, 310, .inl vt))] H := hP
  have hD : va_D A [(g0, .inr (1, [.ref b0, .ref b1, .ref b2, .int k, .int x])), (b0, .inl (cA, 10, .inl w)), (b1, .inl (cA, 10, .inl pr)), (b2, .inl (cA, 310, .inl vt))] := hD
  refine lv_iconst (v := 0) hx hb dX1_fail_5 (by decide) ?_
  exact W.iret (v := 0) hx hb hr (fun t ht _ => ⟨⟨0, (), rfl, rfl, by show va_P _ _ _ t.heap; rw [ht]; exact hP⟩, hS.F ht⟩) hS.2.2 dX1_fail_6

set_option maxHeartbeats 4000000 in
set_option maxRecDepth 100000 in
theorem r_need (l : Launch) (dC : Nat → ClassId) (dI : Nat → Nat → Nat) (cA : ClassId) (g0 b0 b1 b2 : Nat) (w pr vt : Nat → Int32) (k th : Int32) (sz : Nat) (a : Nat) (ha1 : 1 ≤ a) (ha0 : a ≤ 500) : Met l yX1_need wsX1_need ({ frames := 0, cells := 0, slots := 0, locals := 0 }) (bb_Pm [.ref g0, .int (nI a)] (dC, dI) vwCl [(g0, .inr (1, [.ref b0, .ref b1, .ref b2, .int k, .int th])), (b0, .inl (cA, 10, .inl w)), (b1, .inl (cA, 10, .inl pr)), (b2, .inl (cA, 310, .inl vt))] [(cA, .int)] sz) (bb_Qm (k) (dC, dI) vwCl [(g0, .inr (1, [.ref b0, .ref b1, .ref b2, .int (nI a), .int 0])), (b0, .inl (cA, 10, .inl w)), (b1, .inl (cA, 10, .inl pr)), (b2, .inl (cA, 310, .inl vt))] (va_A [(g0, .inr (1, [.ref b0, .ref b1, .ref b2, .int k, .int th])), (b0, .inl (cA, 10, .inl w)), (b1, .inl (cA, 10, .inl pr)), (b2, .inl (cA, 310, .inl vt))] sz)) 0 0 (va_A [(g0, .inr (1, [.ref b0, .ref b1, .ref b2, .int k, .int th])), (b0, .inl (cA, 10, .inl w)), (b1, .inl (cA, 10, .inl pr)), (b2, .inl (cA, 310, .inl vt))] sz) := by
  refine Met.ofW (cc := cX1_need) (maxL := 3) (ret := some .int) (by decide) rfl ?_
  intro p e s m args below meth c s₁ B hml hv
  obtain ⟨rfl, hsz, hP, hK, hD0⟩ := hv
  have hx := B.exec
  have hb := B.bytes
  have hr := B.returns
  have hts := atoms_spec (ws := wsX1_need) B.pre
  have hown : s.vm.findClass RX1 = some m.cls := findClass_of_methodNamed B.named
  have hlocks := B.notSynchronized
  subst hsz
  have hD := hD0.self (sz := s.heap.size)
  generalize hAe : va_A [(g0, .inr (1, [.ref b0, .ref b1, .ref b2, .int k, .int th])), (b0, .inl (cA, 10, .inl w)), (b1, .inl (cA, 10, .inl pr)), (b2, .inl (cA, 310, .inl vt))] s.heap.size = A at hD ⊢
  have hA : ∀ q : Nat, s.heap.size ≤ q → A q := fun q h => by rw [← hAe]; exact Or.inr h
  have hin : ∀ w9 ∈ u_ws RX1 TX1 5, w9 ∈ wsX1_need := fun w9 h9 => List.mem_cons_of_mem _ (bb_inX1 w9 h9)
  have hf19 := hts _ (List.mem_cons_of_mem _ bb_fX1_19)
  have hf23 := hts _ (List.mem_cons_of_mem _ bb_fX1_23)
  have hl := lv_entry ([.ref g0, .int (nI a)]) (n := 3) (Nat.le_of_ble_eq_true rfl)
  rw [lg_entry_eq]
  generalize (lg_sl ([.ref g0, .int (nI a)]) ++ List.replicate (3 - (lg_sl ([.ref g0, .int (nI a)])).length) Slot.unset).toArray = ls at hl ⊢
  have hl : lv_has ls 3 [(0, .ref g0), (1, .int (nI a))] := hl
  refine bb_gen hP hD (fun H locs hP hD hS => ?_)
  refine lv_aload_n hx hb dX1_need_0 rfl (lv_at hl 0 rfl) ?_
  refine lv_iload_n hx hb dX1_need_1 rfl (lv_at hl 1 rfl) ?_
  refine lv_iconst (v := nI 1) hx hb dX1_need_2 (by decide) ?_
  refine lv_icmp_lt (tgt := 13) hx hb dX1_need_3 rfl (fun h3 => absurd h3 (nI_nlt (by omega) (by omega))) (fun h3 => ?_)
  have q3 := bb_le h3
  refine lv_iload_n hx hb dX1_need_6 rfl (lv_at hl 1 rfl) ?_
  refine lv_sipush (v := nI 500) hx hb dX1_need_7 (by decide) ?_
  refine lv_icmp_le (tgt := 17) hx hb dX1_need_10 rfl (fun h10 => ?_) (fun h10 => absurd (nI_le (by omega) (by decide)) h10)
  have q10 := bb_nlt h10
  refine lv_iconst (v := 0) hx hb dX1_need_17 (by decide) ?_
  refine va_put (D := (dC, dI)) (ci := 1) (v := .int 0) (ty := .int) (C := RX1) (T := TX1) (N := 5) hx hb hts hin tyX1 tyX1_ok nX1 hown hK hP hD hS 0 rfl rfl 4 (by decide) hf23 (fun _ h9 => h9) rfl (by decide +kernel) rfl rfl (Nat.le_of_ble_eq_true rfl) dX1_need_18 (fun H locs hP hD hS => ?_)
  have hP : va_P (dC, dI) vwCl [(g0, .inr (1, [.ref b0, .ref b1, .ref b2, .int k, .int 0])), (b0, .inl (cA, 10, .inl w)), (b1, .inl (cA, 10, .inl pr)), (b2, .inl (cA, 310, .inl vt))] H := hP
  have hD : va_D A [(g0, .inr (1, [.ref b0, .ref b1, .ref b2, .int k, .int 0])), (b0, .inl (cA, 10, .inl w)), (b1, .inl (cA, 10, .inl pr)), (b2, .inl (cA, 310, .inl vt))] := hD
  refine lv_aload_n hx hb dX1_need_21 rfl (lv_at hl 0 rfl) ?_
  refine va_get (D := (dC, dI)) (ci := 1) (v := .int 0) (C := RX1) (T := TX1) (N := 5) hx hb hts hin hown hK hP 0 rfl rfl 4 (by decide) hf23 (fun _ h9 => h9) rfl dX1_need_22 ?_
  refine lv_if_le (tgt := 30) hx hb dX1_need_25 rfl (fun h25 => ?_) (fun h25 => absurd (by decide) h25)
  refine lv_aload_n hx hb dX1_need_30 rfl (lv_at hl 0 rfl) ?_
  refine va_get (D := (dC, dI)) (ci := 1) (v := .int k) (C := RX1) (T := TX1) (N := 5) hx hb hts hin hown hK hP 0 rfl rfl 3 (by decide) hf19 (fun _ h9 => h9) rfl dX1_need_31 ?_
  refine lv_istore_n (lv' := [(2, .int k), (0, .ref g0), (1, .int (nI a))]) hx hb dX1_need_34 rfl hl (by decide) rfl (fun ls hl => ?_)
  refine lv_aload_n hx hb dX1_need_35 rfl (lv_at hl 1 rfl) ?_
  refine lv_iload_n hx hb dX1_need_36 rfl (lv_at hl 2 rfl) ?_
  refine va_put (D := (dC, dI)) (ci := 1) (v := .int (nI a)) (ty := .int) (C := RX1) (T := TX1) (N := 5) hx hb hts hin tyX1 tyX1_ok nX1 hown hK hP hD hS 0 rfl rfl 3 (by decide) hf19 (fun _ h9 => h9) rfl (by decide +kernel) rfl rfl (Nat.le_of_ble_eq_true rfl) dX1_need_37 (fun H locs hP hD hS => ?_)
  have hP : va_P (dC, dI) vwCl [(g0, .inr (1, [.ref b0, .ref b1, .ref b2, .int (nI a), .int 0])), (b0, .inl (cA, 10, .inl w)), (b1, .inl (cA, 10, .inl pr)), (b2, .inl (cA, 310, .inl vt))] H := hP
  have hD : va_D A [(g0, .inr (1, [.ref b0, .ref b1, .ref b2, .int (nI a), .int 0])), (b0, .inl (cA, 10, .inl w)), (b1, .inl (cA, 10, .inl pr)), (b2, .inl (cA, 310, .inl vt))] := hD
  refine lv_iload_n hx hb dX1_need_40 rfl (lv_at hl 0 rfl) ?_
  exact W.iret (v := k) hx hb hr (fun t ht _ => ⟨⟨k, (), rfl, rfl, by show va_P _ _ _ t.heap; rw [ht]; exact hP⟩, hS.F ht⟩) hS.2.2 dX1_need_41

set_option maxHeartbeats 4000000 in
set_option maxRecDepth 100000 in
theorem r_need1 (l : Launch) (dC : Nat → ClassId) (dI : Nat → Nat → Nat) (cA : ClassId) (g0 b0 b1 b2 : Nat) (w pr vt : Nat → Int32) (k th : Int32) (sz : Nat) (x0 : Int32) (hbad : x0 < nI 1 ∨ ¬ x0 ≤ nI 500) : Met l yX1_need wsX1_need ({ frames := 0, cells := 0, slots := 0, locals := 0 }) (bb_Pm [.ref g0, .int x0] (dC, dI) vwCl [(g0, .inr (1, [.ref b0, .ref b1, .ref b2, .int k, .int th])), (b0, .inl (cA, 10, .inl w)), (b1, .inl (cA, 10, .inl pr)), (b2, .inl (cA, 310, .inl vt))] [(cA, .int)] sz) (bb_Qm (0) (dC, dI) vwCl [(g0, .inr (1, [.ref b0, .ref b1, .ref b2, .int k, .int 1])), (b0, .inl (cA, 10, .inl w)), (b1, .inl (cA, 10, .inl pr)), (b2, .inl (cA, 310, .inl vt))] (va_A [(g0, .inr (1, [.ref b0, .ref b1, .ref b2, .int k, .int th])), (b0, .inl (cA, 10, .inl w)), (b1, .inl (cA, 10, .inl pr)), (b2, .inl (cA, 310, .inl vt))] sz)) 0 0 (va_A [(g0, .inr (1, [.ref b0, .ref b1, .ref b2, .int k, .int th])), (b0, .inl (cA, 10, .inl w)), (b1, .inl (cA, 10, .inl pr)), (b2, .inl (cA, 310, .inl vt))] sz) := by
  refine Met.ofW (cc := cX1_need) (maxL := 3) (ret := some .int) (by decide) rfl ?_
  intro p e s m args below meth c s₁ B hml hv
  obtain ⟨rfl, hsz, hP, hK, hD0⟩ := hv
  have hx := B.exec
  have hb := B.bytes
  have hr := B.returns
  have hts := atoms_spec (ws := wsX1_need) B.pre
  have hown : s.vm.findClass RX1 = some m.cls := findClass_of_methodNamed B.named
  have hlocks := B.notSynchronized
  subst hsz
  have hD := hD0.self (sz := s.heap.size)
  generalize hAe : va_A [(g0, .inr (1, [.ref b0, .ref b1, .ref b2, .int k, .int th])), (b0, .inl (cA, 10, .inl w)), (b1, .inl (cA, 10, .inl pr)), (b2, .inl (cA, 310, .inl vt))] s.heap.size = A at hD ⊢
  have hA : ∀ q : Nat, s.heap.size ≤ q → A q := fun q h => by rw [← hAe]; exact Or.inr h
  have hin : ∀ w9 ∈ u_ws RX1 TX1 5, w9 ∈ wsX1_need := fun w9 h9 => List.mem_cons_of_mem _ (bb_inX1 w9 h9)
  have hf23 := hts _ (List.mem_cons_of_mem _ bb_fX1_23)
  have hl := lv_entry ([.ref g0, .int x0]) (n := 3) (Nat.le_of_ble_eq_true rfl)
  rw [lg_entry_eq]
  generalize (lg_sl ([.ref g0, .int x0]) ++ List.replicate (3 - (lg_sl ([.ref g0, .int x0])).length) Slot.unset).toArray = ls at hl ⊢
  have hl : lv_has ls 3 [(0, .ref g0), (1, .int x0)] := hl
  refine bb_gen hP hD (fun H locs hP hD hS => ?_)
  refine lv_aload_n hx hb dX1_need_0 rfl (lv_at hl 0 rfl) ?_
  refine lv_iload_n hx hb dX1_need_1 rfl (lv_at hl 1 rfl) ?_
  refine lv_iconst (v := nI 1) hx hb dX1_need_2 (by decide) ?_
  refine lv_icmp_lt (tgt := 13) hx hb dX1_need_3 rfl (fun h3 => ?_) (fun h3 => ?_)
  · skip
    have q3 := bb_nle h3
    refine lv_iconst (v := 1) hx hb dX1_need_13 (by decide) ?_
    refine lv_goto (tgt := 18) hx hb dX1_need_14 rfl ?_
    refine va_put (D := (dC, dI)) (ci := 1) (v := .int 1) (ty := .int) (C := RX1) (T := TX1) (N := 5) hx hb hts hin tyX1 tyX1_ok nX1 hown hK hP hD hS 0 rfl rfl 4 (by decide) hf23 (fun _ h9 => h9) rfl (by decide +kernel) rfl rfl (Nat.le_of_ble_eq_true rfl) dX1_need_18 (fun H locs hP hD hS => ?_)
    have hP : va_P (dC, dI) vwCl [(g0, .inr (1, [.ref b0, .ref b1, .ref b2, .int k, .int 1])), (b0, .inl (cA, 10, .inl w)), (b1, .inl (cA, 10, .inl pr)), (b2, .inl (cA, 310, .inl vt))] H := hP
    have hD : va_D A [(g0, .inr (1, [.ref b0, .ref b1, .ref b2, .int k, .int 1])), (b0, .inl (cA, 10, .inl w)), (b1, .inl (cA, 10, .inl pr)), (b2, .inl (cA, 310, .inl vt))] := hD
    refine lv_aload_n hx hb dX1_need_21 rfl (lv_at hl 0 rfl) ?_
    refine va_get (D := (dC, dI)) (ci := 1) (v := .int 1) (C := RX1) (T := TX1) (N := 5) hx hb hts hin hown hK hP 0 rfl rfl 4 (by decide) hf23 (fun _ h9 => h9) rfl dX1_need_22 ?_
    refine lv_if_le (tgt := 30) hx hb dX1_need_25 rfl (fun h25 => absurd h25 (by decide)) (fun h25 => ?_)
    refine lv_iconst (v := 0) hx hb dX1_need_28 (by decide) ?_
    exact W.iret (v := 0) hx hb hr (fun t ht _ => ⟨⟨0, (), rfl, rfl, by show va_P _ _ _ t.heap; rw [ht]; exact hP⟩, hS.F ht⟩) hS.2.2 dX1_need_29
  · skip
    have q3 := bb_le h3
    refine lv_iload_n hx hb dX1_need_6 rfl (lv_at hl 1 rfl) ?_
    refine lv_sipush (v := nI 500) hx hb dX1_need_7 (by decide) ?_
    refine lv_icmp_le (tgt := 17) hx hb dX1_need_10 rfl (fun h10 => absurd h10 (hbad.resolve_left h3)) (fun h10 => ?_)
    have q10 := bb_lt h10
    refine lv_iconst (v := 1) hx hb dX1_need_13 (by decide) ?_
    refine lv_goto (tgt := 18) hx hb dX1_need_14 rfl ?_
    refine va_put (D := (dC, dI)) (ci := 1) (v := .int 1) (ty := .int) (C := RX1) (T := TX1) (N := 5) hx hb hts hin tyX1 tyX1_ok nX1 hown hK hP hD hS 0 rfl rfl 4 (by decide) hf23 (fun _ h9 => h9) rfl (by decide +kernel) rfl rfl (Nat.le_of_ble_eq_true rfl) dX1_need_18 (fun H locs hP hD hS => ?_)
    have hP : va_P (dC, dI) vwCl [(g0, .inr (1, [.ref b0, .ref b1, .ref b2, .int k, .int 1])), (b0, .inl (cA, 10, .inl w)), (b1, .inl (cA, 10, .inl pr)), (b2, .inl (cA, 310, .inl vt))] H := hP
    have hD : va_D A [(g0, .inr (1, [.ref b0, .ref b1, .ref b2, .int k, .int 1])), (b0, .inl (cA, 10, .inl w)), (b1, .inl (cA, 10, .inl pr)), (b2, .inl (cA, 310, .inl vt))] := hD
    refine lv_aload_n hx hb dX1_need_21 rfl (lv_at hl 0 rfl) ?_
    refine va_get (D := (dC, dI)) (ci := 1) (v := .int 1) (C := RX1) (T := TX1) (N := 5) hx hb hts hin hown hK hP 0 rfl rfl 4 (by decide) hf23 (fun _ h9 => h9) rfl dX1_need_22 ?_
    refine lv_if_le (tgt := 30) hx hb dX1_need_25 rfl (fun h25 => absurd h25 (by decide)) (fun h25 => ?_)
    refine lv_iconst (v := 0) hx hb dX1_need_28 (by decide) ?_
    exact W.iret (v := 0) hx hb hr (fun t ht _ => ⟨⟨0, (), rfl, rfl, by show va_P _ _ _ t.heap; rw [ht]; exact hP⟩, hS.F ht⟩) hS.2.2 dX1_need_29

set_option maxHeartbeats 4000000 in
set_option maxRecDepth 100000 in
theorem r_promise (l : Launch) (dC : Nat → ClassId) (dI : Nat → Nat → Nat) (cA : ClassId) (g0 b0 b1 b2 : Nat) (w pr vt : Nat → Int32) (k th : Int32) (sz : Nat) (n : Nat) (hn0 : n < 10) (b : Nat) (hb0 : b < 31) (hp : pr n ≤ nI b) : Met l yX1_promise wsX1_promise ({ frames := 1, cells := 0, slots := 0, locals := 21 }) (bb_Pm [.ref g0, .int (nI n), .int (nI b)] (dC, dI) vwCl [(g0, .inr (1, [.ref b0, .ref b1, .ref b2, .int k, .int th])), (b0, .inl (cA, 10, .inl w)), (b1, .inl (cA, 10, .inl pr)), (b2, .inl (cA, 310, .inl vt))] [(cA, .int)] sz) (bb_Qm (pr n) (dC, dI) vwCl [(g0, .inr (1, [.ref b0, .ref b1, .ref b2, .int k, .int 0])), (b0, .inl (cA, 10, .inl w)), (b1, .inl (cA, 10, .inl (upd pr n (nI b)))), (b2, .inl (cA, 310, .inl vt))] (va_A [(g0, .inr (1, [.ref b0, .ref b1, .ref b2, .int k, .int th])), (b0, .inl (cA, 10, .inl w)), (b1, .inl (cA, 10, .inl pr)), (b2, .inl (cA, 310, .inl vt))] sz)) 0 0 (va_A [(g0, .inr (1, [.ref b0, .ref b1, .ref b2, .int k, .int th])), (b0, .inl (cA, 10, .inl w)), (b1, .inl (cA, 10, .inl pr)), (b2, .inl (cA, 310, .inl vt))] sz) := by
  refine Met.ofW (cc := cX1_promise) (maxL := 4) (ret := some .int) (by decide) rfl ?_
  intro p e s m args below meth c s₁ B hml hv
  obtain ⟨rfl, hsz, hP, hK, hD0⟩ := hv
  have hx := B.exec
  have hb := B.bytes
  have hr := B.returns
  have hts := atoms_spec (ws := wsX1_promise) B.pre
  have hown : s.vm.findClass RX1 = some m.cls := findClass_of_methodNamed B.named
  have hlocks := B.notSynchronized
  subst hsz
  have hD := hD0.self (sz := s.heap.size)
  generalize hAe : va_A [(g0, .inr (1, [.ref b0, .ref b1, .ref b2, .int k, .int th])), (b0, .inl (cA, 10, .inl w)), (b1, .inl (cA, 10, .inl pr)), (b2, .inl (cA, 310, .inl vt))] s.heap.size = A at hD ⊢
  have hA : ∀ q : Nat, s.heap.size ≤ q → A q := fun q h => by rw [← hAe]; exact Or.inr h
  have hin : ∀ w9 ∈ u_ws RX1 TX1 5, w9 ∈ wsX1_promise := fun w9 h9 => List.mem_cons_of_mem _ (bb_inX1 w9 h9)
  have hf13 := hts _ (List.mem_cons_of_mem _ bb_fX1_13)
  have hf23 := hts _ (List.mem_cons_of_mem _ bb_fX1_23)
  have hl := lv_entry ([.ref g0, .int (nI n), .int (nI b)]) (n := 4) (Nat.le_of_ble_eq_true rfl)
  rw [lg_entry_eq]
  generalize (lg_sl ([.ref g0, .int (nI n), .int (nI b)]) ++ List.replicate (4 - (lg_sl ([.ref g0, .int (nI n), .int (nI b)])).length) Slot.unset).toArray = ls at hl ⊢
  have hl : lv_has ls 4 [(0, .ref g0), (1, .int (nI n)), (2, .int (nI b))] := hl
  refine bb_gen hP hD (fun H locs hP hD hS => ?_)
  refine lv_aload_n hx hb dX1_promise_0 rfl (lv_at hl 0 rfl) ?_
  refine lv_iload_n hx hb dX1_promise_1 rfl (lv_at hl 1 rfl) ?_
  refine lv_bipush (v := nI 10) hx hb dX1_promise_2 (by decide) ?_
  refine bb_cS (As := [.int (nI n), .int (nI 10)]) (rest := [.ref g0]) (r := bb_I (bb_out (nI n) (nI 10))) ⟨hx, hb, hml, hown, hts⟩ (m_out l (nI n) (nI 10)) (cwS 2 hts gX1_promise_X1_out rfl rfl rfl (by decide +kernel) ⟨Nat.le_of_ble_eq_true rfl, Nat.le_of_ble_eq_true rfl⟩) rfl hl.1 rfl (Nat.le_of_ble_eq_true rfl) dX1_promise_4 (Nat.zero_le _) (Nat.zero_le _) ?_
  refine bb_topi (y := 0) (by rw [bb_out_no hn0 (by decide)]; rfl) ?_
  refine lv_if_ne (tgt := 19) hx hb dX1_promise_7 rfl (fun h7 => absurd rfl h7) (fun h7 => ?_)
  refine lv_iload_n hx hb dX1_promise_10 rfl (lv_at hl 2 rfl) ?_
  refine lv_bipush (v := nI 31) hx hb dX1_promise_11 (by decide) ?_
  refine bb_cS (As := [.int (nI b), .int (nI 31)]) (rest := [.ref g0]) (r := bb_I (bb_out (nI b) (nI 31))) ⟨hx, hb, hml, hown, hts⟩ (m_out l (nI b) (nI 31)) (cwS 2 hts gX1_promise_X1_out rfl rfl rfl (by decide +kernel) ⟨Nat.le_of_ble_eq_true rfl, Nat.le_of_ble_eq_true rfl⟩) rfl hl.1 rfl (Nat.le_of_ble_eq_true rfl) dX1_promise_13 (Nat.zero_le _) (Nat.zero_le _) ?_
  refine bb_topi (y := 0) (by rw [bb_out_no hb0 (by decide)]; rfl) ?_
  refine lv_if_eq (tgt := 23) hx hb dX1_promise_16 rfl (fun h16 => ?_) (fun h16 => absurd rfl h16)
  refine lv_iconst (v := 0) hx hb dX1_promise_23 (by decide) ?_
  refine va_put (D := (dC, dI)) (ci := 1) (v := .int 0) (ty := .int) (C := RX1) (T := TX1) (N := 5) hx hb hts hin tyX1 tyX1_ok nX1 hown hK hP hD hS 0 rfl rfl 4 (by decide) hf23 (fun _ h9 => h9) rfl (by decide +kernel) rfl rfl (Nat.le_of_ble_eq_true rfl) dX1_promise_24 (fun H locs hP hD hS => ?_)
  have hP : va_P (dC, dI) vwCl [(g0, .inr (1, [.ref b0, .ref b1, .ref b2, .int k, .int 0])), (b0, .inl (cA, 10, .inl w)), (b1, .inl (cA, 10, .inl pr)), (b2, .inl (cA, 310, .inl vt))] H := hP
  have hD : va_D A [(g0, .inr (1, [.ref b0, .ref b1, .ref b2, .int k, .int 0])), (b0, .inl (cA, 10, .inl w)), (b1, .inl (cA, 10, .inl pr)), (b2, .inl (cA, 310, .inl vt))] := hD
  refine lv_aload_n hx hb dX1_promise_27 rfl (lv_at hl 0 rfl) ?_
  refine va_get (D := (dC, dI)) (ci := 1) (v := .int 0) (C := RX1) (T := TX1) (N := 5) hx hb hts hin hown hK hP 0 rfl rfl 4 (by decide) hf23 (fun _ h9 => h9) rfl dX1_promise_28 ?_
  refine lv_if_le (tgt := 36) hx hb dX1_promise_31 rfl (fun h31 => ?_) (fun h31 => absurd (by decide) h31)
  refine lv_aload_n hx hb dX1_promise_36 rfl (lv_at hl 0 rfl) ?_
  refine va_get (D := (dC, dI)) (ci := 1) (v := .ref b1) (C := RX1) (T := TX1) (N := 5) hx hb hts hin hown hK hP 0 rfl rfl 1 (by decide) hf13 (fun _ h9 => h9) rfl dX1_promise_37 ?_
  refine lv_iload_n hx hb dX1_promise_40 rfl (lv_at hl 1 rfl) ?_
  refine bb_ald hx hb hK hP 2 0 rfl rfl n (by omega) (by decide) dX1_promise_41 ?_
  refine lv_iload_n hx hb dX1_promise_42 rfl (lv_at hl 2 rfl) ?_
  refine lv_icmp_le (tgt := 52) hx hb dX1_promise_43 rfl (fun h43 => ?_) (fun h43 => absurd hp h43)
  have q43 := bb_nlt h43
  refine lv_aload_n hx hb dX1_promise_52 rfl (lv_at hl 0 rfl) ?_
  refine va_get (D := (dC, dI)) (ci := 1) (v := .ref b1) (C := RX1) (T := TX1) (N := 5) hx hb hts hin hown hK hP 0 rfl rfl 1 (by decide) hf13 (fun _ h9 => h9) rfl dX1_promise_53 ?_
  refine lv_iload_n hx hb dX1_promise_56 rfl (lv_at hl 1 rfl) ?_
  refine bb_ald hx hb hK hP 2 0 rfl rfl n (by omega) (by decide) dX1_promise_57 ?_
  refine lv_istore_n (lv' := [(3, .int (pr n)), (0, .ref g0), (1, .int (nI n)), (2, .int (nI b))]) hx hb dX1_promise_58 rfl hl (by decide) rfl (fun ls hl => ?_)
  refine lv_aload_n hx hb dX1_promise_59 rfl (lv_at hl 1 rfl) ?_
  refine va_get (D := (dC, dI)) (ci := 1) (v := .ref b1) (C := RX1) (T := TX1) (N := 5) hx hb hts hin hown hK hP 0 rfl rfl 1 (by decide) hf13 (fun _ h9 => h9) rfl dX1_promise_60 ?_
  refine lv_iload_n hx hb dX1_promise_63 rfl (lv_at hl 2 rfl) ?_
  refine lv_iload_n hx hb dX1_promise_64 rfl (lv_at hl 3 rfl) ?_
  refine bb_ast hx hb hK hP hD hS 2 0 rfl rfl n (by omega) (by decide) dX1_promise_65 (fun H locs hP hD hS => ?_)
  have hP : va_P (dC, dI) vwCl [(g0, .inr (1, [.ref b0, .ref b1, .ref b2, .int k, .int 0])), (b0, .inl (cA, 10, .inl w)), (b1, .inl (cA, 10, .inl (upd pr n (nI b)))), (b2, .inl (cA, 310, .inl vt))] H := hP
  have hD : va_D A [(g0, .inr (1, [.ref b0, .ref b1, .ref b2, .int k, .int 0])), (b0, .inl (cA, 10, .inl w)), (b1, .inl (cA, 10, .inl (upd pr n (nI b)))), (b2, .inl (cA, 310, .inl vt))] := hD
  refine lv_iload_n hx hb dX1_promise_66 rfl (lv_at hl 0 rfl) ?_
  exact W.iret (v := pr n) hx hb hr (fun t ht _ => ⟨⟨pr n, (), rfl, rfl, by show va_P _ _ _ t.heap; rw [ht]; exact hP⟩, hS.F ht⟩) hS.2.2 dX1_promise_67

set_option maxHeartbeats 4000000 in
set_option maxRecDepth 100000 in
theorem r_promise1 (l : Launch) (dC : Nat → ClassId) (dI : Nat → Nat → Nat) (cA : ClassId) (g0 b0 b1 b2 : Nat) (w pr vt : Nat → Int32) (k th : Int32) (sz : Nat) (x0 x1 : Int32) (hbad : (bb_out x0 (nI 10) || bb_out x1 (nI 31)) = true) : Met l yX1_promise wsX1_promise ({ frames := 1, cells := 0, slots := 0, locals := 21 }) (bb_Pm [.ref g0, .int x0, .int x1] (dC, dI) vwCl [(g0, .inr (1, [.ref b0, .ref b1, .ref b2, .int k, .int th])), (b0, .inl (cA, 10, .inl w)), (b1, .inl (cA, 10, .inl pr)), (b2, .inl (cA, 310, .inl vt))] [(cA, .int)] sz) (bb_Qm (0) (dC, dI) vwCl [(g0, .inr (1, [.ref b0, .ref b1, .ref b2, .int k, .int 1])), (b0, .inl (cA, 10, .inl w)), (b1, .inl (cA, 10, .inl pr)), (b2, .inl (cA, 310, .inl vt))] (va_A [(g0, .inr (1, [.ref b0, .ref b1, .ref b2, .int k, .int th])), (b0, .inl (cA, 10, .inl w)), (b1, .inl (cA, 10, .inl pr)), (b2, .inl (cA, 310, .inl vt))] sz)) 0 0 (va_A [(g0, .inr (1, [.ref b0, .ref b1, .ref b2, .int k, .int th])), (b0, .inl (cA, 10, .inl w)), (b1, .inl (cA, 10, .inl pr)), (b2, .inl (cA, 310, .inl vt))] sz) := by
  refine Met.ofW (cc := cX1_promise) (maxL := 4) (ret := some .int) (by decide) rfl ?_
  intro p e s m args below meth c s₁ B hml hv
  obtain ⟨rfl, hsz, hP, hK, hD0⟩ := hv
  have hx := B.exec
  have hb := B.bytes
  have hr := B.returns
  have hts := atoms_spec (ws := wsX1_promise) B.pre
  have hown : s.vm.findClass RX1 = some m.cls := findClass_of_methodNamed B.named
  have hlocks := B.notSynchronized
  subst hsz
  have hD := hD0.self (sz := s.heap.size)
  generalize hAe : va_A [(g0, .inr (1, [.ref b0, .ref b1, .ref b2, .int k, .int th])), (b0, .inl (cA, 10, .inl w)), (b1, .inl (cA, 10, .inl pr)), (b2, .inl (cA, 310, .inl vt))] s.heap.size = A at hD ⊢
  have hA : ∀ q : Nat, s.heap.size ≤ q → A q := fun q h => by rw [← hAe]; exact Or.inr h
  have hin : ∀ w9 ∈ u_ws RX1 TX1 5, w9 ∈ wsX1_promise := fun w9 h9 => List.mem_cons_of_mem _ (bb_inX1 w9 h9)
  have hf23 := hts _ (List.mem_cons_of_mem _ bb_fX1_23)
  have hl := lv_entry ([.ref g0, .int x0, .int x1]) (n := 4) (Nat.le_of_ble_eq_true rfl)
  rw [lg_entry_eq]
  generalize (lg_sl ([.ref g0, .int x0, .int x1]) ++ List.replicate (4 - (lg_sl ([.ref g0, .int x0, .int x1])).length) Slot.unset).toArray = ls at hl ⊢
  have hl : lv_has ls 4 [(0, .ref g0), (1, .int x0), (2, .int x1)] := hl
  refine bb_gen hP hD (fun H locs hP hD hS => ?_)
  refine lv_aload_n hx hb dX1_promise_0 rfl (lv_at hl 0 rfl) ?_
  refine lv_iload_n hx hb dX1_promise_1 rfl (lv_at hl 1 rfl) ?_
  refine lv_bipush (v := nI 10) hx hb dX1_promise_2 (by decide) ?_
  refine bb_cS (As := [.int x0, .int (nI 10)]) (rest := [.ref g0]) (r := bb_I (bb_out x0 (nI 10))) ⟨hx, hb, hml, hown, hts⟩ (m_out l x0 (nI 10)) (cwS 2 hts gX1_promise_X1_out rfl rfl rfl (by decide +kernel) ⟨Nat.le_of_ble_eq_true rfl, Nat.le_of_ble_eq_true rfl⟩) rfl hl.1 rfl (Nat.le_of_ble_eq_true rfl) dX1_promise_4 (Nat.zero_le _) (Nat.zero_le _) ?_
  refine lv_if_ne (tgt := 19) hx hb dX1_promise_7 rfl (fun h7 => ?_) (fun h7 => ?_)
  · skip
    have q7 := bb_nz h7
    refine lv_iconst (v := 1) hx hb dX1_promise_19 (by decide) ?_
    refine lv_goto (tgt := 24) hx hb dX1_promise_20 rfl ?_
    refine va_put (D := (dC, dI)) (ci := 1) (v := .int 1) (ty := .int) (C := RX1) (T := TX1) (N := 5) hx hb hts hin tyX1 tyX1_ok nX1 hown hK hP hD hS 0 rfl rfl 4 (by decide) hf23 (fun _ h9 => h9) rfl (by decide +kernel) rfl rfl (Nat.le_of_ble_eq_true rfl) dX1_promise_24 (fun H locs hP hD hS => ?_)
    have hP : va_P (dC, dI) vwCl [(g0, .inr (1, [.ref b0, .ref b1, .ref b2, .int k, .int 1])), (b0, .inl (cA, 10, .inl w)), (b1, .inl (cA, 10, .inl pr)), (b2, .inl (cA, 310, .inl vt))] H := hP
    have hD : va_D A [(g0, .inr (1, [.ref b0, .ref b1, .ref b2, .int k, .int 1])), (b0, .inl (cA, 10, .inl w)), (b1, .inl (cA, 10, .inl pr)), (b2, .inl (cA, 310, .inl vt))] := hD
    refine lv_aload_n hx hb dX1_promise_27 rfl (lv_at hl 0 rfl) ?_
    refine va_get (D := (dC, dI)) (ci := 1) (v := .int 1) (C := RX1) (T := TX1) (N := 5) hx hb hts hin hown hK hP 0 rfl rfl 4 (by decide) hf23 (fun _ h9 => h9) rfl dX1_promise_28 ?_
    refine lv_if_le (tgt := 36) hx hb dX1_promise_31 rfl (fun h31 => absurd h31 (by decide)) (fun h31 => ?_)
    refine lv_iconst (v := 0) hx hb dX1_promise_34 (by decide) ?_
    exact W.iret (v := 0) hx hb hr (fun t ht _ => ⟨⟨0, (), rfl, rfl, by show va_P _ _ _ t.heap; rw [ht]; exact hP⟩, hS.F ht⟩) hS.2.2 dX1_promise_35
  · skip
    have q7 := bb_I_0.mp h7
    refine lv_iload_n hx hb dX1_promise_10 rfl (lv_at hl 2 rfl) ?_
    refine lv_bipush (v := nI 31) hx hb dX1_promise_11 (by decide) ?_
    refine bb_cS (As := [.int x1, .int (nI 31)]) (rest := [.ref g0]) (r := bb_I (bb_out x1 (nI 31))) ⟨hx, hb, hml, hown, hts⟩ (m_out l x1 (nI 31)) (cwS 2 hts gX1_promise_X1_out rfl rfl rfl (by decide +kernel) ⟨Nat.le_of_ble_eq_true rfl, Nat.le_of_ble_eq_true rfl⟩) rfl hl.1 rfl (Nat.le_of_ble_eq_true rfl) dX1_promise_13 (Nat.zero_le _) (Nat.zero_le _) ?_
    refine lv_if_eq (tgt := 23) hx hb dX1_promise_16 rfl (fun h16 => absurd hbad (by simp [bb_I_0.mp h16, q7])) (fun h16 => ?_)
    have q16 := bb_nz h16
    refine lv_iconst (v := 1) hx hb dX1_promise_19 (by decide) ?_
    refine lv_goto (tgt := 24) hx hb dX1_promise_20 rfl ?_
    refine va_put (D := (dC, dI)) (ci := 1) (v := .int 1) (ty := .int) (C := RX1) (T := TX1) (N := 5) hx hb hts hin tyX1 tyX1_ok nX1 hown hK hP hD hS 0 rfl rfl 4 (by decide) hf23 (fun _ h9 => h9) rfl (by decide +kernel) rfl rfl (Nat.le_of_ble_eq_true rfl) dX1_promise_24 (fun H locs hP hD hS => ?_)
    have hP : va_P (dC, dI) vwCl [(g0, .inr (1, [.ref b0, .ref b1, .ref b2, .int k, .int 1])), (b0, .inl (cA, 10, .inl w)), (b1, .inl (cA, 10, .inl pr)), (b2, .inl (cA, 310, .inl vt))] H := hP
    have hD : va_D A [(g0, .inr (1, [.ref b0, .ref b1, .ref b2, .int k, .int 1])), (b0, .inl (cA, 10, .inl w)), (b1, .inl (cA, 10, .inl pr)), (b2, .inl (cA, 310, .inl vt))] := hD
    refine lv_aload_n hx hb dX1_promise_27 rfl (lv_at hl 0 rfl) ?_
    refine va_get (D := (dC, dI)) (ci := 1) (v := .int 1) (C := RX1) (T := TX1) (N := 5) hx hb hts hin hown hK hP 0 rfl rfl 4 (by decide) hf23 (fun _ h9 => h9) rfl dX1_promise_28 ?_
    refine lv_if_le (tgt := 36) hx hb dX1_promise_31 rfl (fun h31 => absurd h31 (by decide)) (fun h31 => ?_)
    refine lv_iconst (v := 0) hx hb dX1_promise_34 (by decide) ?_
    exact W.iret (v := 0) hx hb hr (fun t ht _ => ⟨⟨0, (), rfl, rfl, by show va_P _ _ _ t.heap; rw [ht]; exact hP⟩, hS.F ht⟩) hS.2.2 dX1_promise_35

set_option maxHeartbeats 4000000 in
set_option maxRecDepth 100000 in
theorem r_promise2 (l : Launch) (dC : Nat → ClassId) (dI : Nat → Nat → Nat) (cA : ClassId) (g0 b0 b1 b2 : Nat) (w pr vt : Nat → Int32) (k th : Int32) (sz : Nat) (n : Nat) (hn0 : n < 10) (b : Nat) (hb0 : b < 31) (hp : ¬ pr n ≤ nI b) : Met l yX1_promise wsX1_promise ({ frames := 1, cells := 0, slots := 0, locals := 21 }) (bb_Pm [.ref g0, .int (nI n), .int (nI b)] (dC, dI) vwCl [(g0, .inr (1, [.ref b0, .ref b1, .ref b2, .int k, .int th])), (b0, .inl (cA, 10, .inl w)), (b1, .inl (cA, 10, .inl pr)), (b2, .inl (cA, 310, .inl vt))] [(cA, .int)] sz) (bb_Qm (0) (dC, dI) vwCl [(g0, .inr (1, [.ref b0, .ref b1, .ref b2, .int k, .int 2])), (b0, .inl (cA, 10, .inl w)), (b1, .inl (cA, 10, .inl pr)), (b2, .inl (cA, 310, .inl vt))] (va_A [(g0, .inr (1, [.ref b0, .ref b1, .ref b2, .int k, .int th])), (b0, .inl (cA, 10, .inl w)), (b1, .inl (cA, 10, .inl pr)), (b2, .inl (cA, 310, .inl vt))] sz)) 0 0 (va_A [(g0, .inr (1, [.ref b0, .ref b1, .ref b2, .int k, .int th])), (b0, .inl (cA, 10, .inl w)), (b1, .inl (cA, 10, .inl pr)), (b2, .inl (cA, 310, .inl vt))] sz) := by
  refine Met.ofW (cc := cX1_promise) (maxL := 4) (ret := some .int) (by decide) rfl ?_
  intro p e s m args below meth c s₁ B hml hv
  obtain ⟨rfl, hsz, hP, hK, hD0⟩ := hv
  have hx := B.exec
  have hb := B.bytes
  have hr := B.returns
  have hts := atoms_spec (ws := wsX1_promise) B.pre
  have hown : s.vm.findClass RX1 = some m.cls := findClass_of_methodNamed B.named
  have hlocks := B.notSynchronized
  subst hsz
  have hD := hD0.self (sz := s.heap.size)
  generalize hAe : va_A [(g0, .inr (1, [.ref b0, .ref b1, .ref b2, .int k, .int th])), (b0, .inl (cA, 10, .inl w)), (b1, .inl (cA, 10, .inl pr)), (b2, .inl (cA, 310, .inl vt))] s.heap.size = A at hD ⊢
  have hA : ∀ q : Nat, s.heap.size ≤ q → A q := fun q h => by rw [← hAe]; exact Or.inr h
  have hin : ∀ w9 ∈ u_ws RX1 TX1 5, w9 ∈ wsX1_promise := fun w9 h9 => List.mem_cons_of_mem _ (bb_inX1 w9 h9)
  have hf13 := hts _ (List.mem_cons_of_mem _ bb_fX1_13)
  have hf23 := hts _ (List.mem_cons_of_mem _ bb_fX1_23)
  have hl := lv_entry ([.ref g0, .int (nI n), .int (nI b)]) (n := 4) (Nat.le_of_ble_eq_true rfl)
  rw [lg_entry_eq]
  generalize (lg_sl ([.ref g0, .int (nI n), .int (nI b)]) ++ List.replicate (4 - (lg_sl ([.ref g0, .int (nI n), .int (nI b)])).length) Slot.unset).toArray = ls at hl ⊢
  have hl : lv_has ls 4 [(0, .ref g0), (1, .int (nI n)), (2, .int (nI b))] := hl
  refine bb_gen hP hD (fun H locs hP hD hS => ?_)
  refine lv_aload_n hx hb dX1_promise_0 rfl (lv_at hl 0 rfl) ?_
  refine lv_iload_n hx hb dX1_promise_1 rfl (lv_at hl 1 rfl) ?_
  refine lv_bipush (v := nI 10) hx hb dX1_promise_2 (by decide) ?_
  refine bb_cS (As := [.int (nI n), .int (nI 10)]) (rest := [.ref g0]) (r := bb_I (bb_out (nI n) (nI 10))) ⟨hx, hb, hml, hown, hts⟩ (m_out l (nI n) (nI 10)) (cwS 2 hts gX1_promise_X1_out rfl rfl rfl (by decide +kernel) ⟨Nat.le_of_ble_eq_true rfl, Nat.le_of_ble_eq_true rfl⟩) rfl hl.1 rfl (Nat.le_of_ble_eq_true rfl) dX1_promise_4 (Nat.zero_le _) (Nat.zero_le _) ?_
  refine bb_topi (y := 0) (by rw [bb_out_no hn0 (by decide)]; rfl) ?_
  refine lv_if_ne (tgt := 19) hx hb dX1_promise_7 rfl (fun h7 => absurd rfl h7) (fun h7 => ?_)
  refine lv_iload_n hx hb dX1_promise_10 rfl (lv_at hl 2 rfl) ?_
  refine lv_bipush (v := nI 31) hx hb dX1_promise_11 (by decide) ?_
  refine bb_cS (As := [.int (nI b), .int (nI 31)]) (rest := [.ref g0]) (r := bb_I (bb_out (nI b) (nI 31))) ⟨hx, hb, hml, hown, hts⟩ (m_out l (nI b) (nI 31)) (cwS 2 hts gX1_promise_X1_out rfl rfl rfl (by decide +kernel) ⟨Nat.le_of_ble_eq_true rfl, Nat.le_of_ble_eq_true rfl⟩) rfl hl.1 rfl (Nat.le_of_ble_eq_true rfl) dX1_promise_13 (Nat.zero_le _) (Nat.zero_le _) ?_
  refine bb_topi (y := 0) (by rw [bb_out_no hb0 (by decide)]; rfl) ?_
  refine lv_if_eq (tgt := 23) hx hb dX1_promise_16 rfl (fun h16 => ?_) (fun h16 => absurd rfl h16)
  refine lv_iconst (v := 0) hx hb dX1_promise_23 (by decide) ?_
  refine va_put (D := (dC, dI)) (ci := 1) (v := .int 0) (ty := .int) (C := RX1) (T := TX1) (N := 5) hx hb hts hin tyX1 tyX1_ok nX1 hown hK hP hD hS 0 rfl rfl 4 (by decide) hf23 (fun _ h9 => h9) rfl (by decide +kernel) rfl rfl (Nat.le_of_ble_eq_true rfl) dX1_promise_24 (fun H locs hP hD hS => ?_)
  have hP : va_P (dC, dI) vwCl [(g0, .inr (1, [.ref b0, .ref b1, .ref b2, .int k, .int 0])), (b0, .inl (cA, 10, .inl w)), (b1, .inl (cA, 10, .inl pr)), (b2, .inl (cA, 310, .inl vt))] H := hP
  have hD : va_D A [(g0, .inr (1, [.ref b0, .ref b1, .ref b2, .int k, .int 0])), (b0, .inl (cA, 10, .inl w)), (b1, .inl (cA, 10, .inl pr)), (b2, .inl (cA, 310, .inl vt))] := hD
  refine lv_aload_n hx hb dX1_promise_27 rfl (lv_at hl 0 rfl) ?_
  refine va_get (D := (dC, dI)) (ci := 1) (v := .int 0) (C := RX1) (T := TX1) (N := 5) hx hb hts hin hown hK hP 0 rfl rfl 4 (by decide) hf23 (fun _ h9 => h9) rfl dX1_promise_28 ?_
  refine lv_if_le (tgt := 36) hx hb dX1_promise_31 rfl (fun h31 => ?_) (fun h31 => absurd (by decide) h31)
  refine lv_aload_n hx hb dX1_promise_36 rfl (lv_at hl 0 rfl) ?_
  refine va_get (D := (dC, dI)) (ci := 1) (v := .ref b1) (C := RX1) (T := TX1) (N := 5) hx hb hts hin hown hK hP 0 rfl rfl 1 (by decide) hf13 (fun _ h9 => h9) rfl dX1_promise_37 ?_
  refine lv_iload_n hx hb dX1_promise_40 rfl (lv_at hl 1 rfl) ?_
  refine bb_ald hx hb hK hP 2 0 rfl rfl n (by omega) (by decide) dX1_promise_41 ?_
  refine lv_iload_n hx hb dX1_promise_42 rfl (lv_at hl 2 rfl) ?_
  refine lv_icmp_le (tgt := 52) hx hb dX1_promise_43 rfl (fun h43 => absurd h43 hp) (fun h43 => ?_)
  have q43 := bb_lt h43
  refine lv_aload_n hx hb dX1_promise_46 rfl (lv_at hl 0 rfl) ?_
  refine lv_iconst (v := 2) hx hb dX1_promise_47 (by decide) ?_
  refine bb_cVm (As := [.int 2]) (rest := []) (r := 0) (wd' := [(g0, .inr (1, [.ref b0, .ref b1, .ref b2, .int k, .int 2])), (b0, .inl (cA, 10, .inl w)), (b1, .inl (cA, 10, .inl pr)), (b2, .inl (cA, 310, .inl vt))]) 0 ⟨hx, hb, hml, hown, hts⟩ (r_fail l dC dI cA g0 b0 b1 b2 w pr vt k 0 H.size 2) (cwV 1 hts gX1_promise_X1_fail rfl rfl rfl (by decide +kernel) ⟨Nat.le_of_ble_eq_true rfl, Nat.le_of_ble_eq_true rfl⟩) hP hK hD hS hA rfl rfl rfl rfl hl.1 rfl (Nat.le_of_ble_eq_true rfl) dX1_promise_48 (Nat.zero_le _) (Nat.zero_le _) (fun H locs hP hD hS => ?_)
  have hP : va_P (dC, dI) vwCl [(g0, .inr (1, [.ref b0, .ref b1, .ref b2, .int k, .int 2])), (b0, .inl (cA, 10, .inl w)), (b1, .inl (cA, 10, .inl pr)), (b2, .inl (cA, 310, .inl vt))] H := hP
  have hD : va_D A [(g0, .inr (1, [.ref b0, .ref b1, .ref b2, .int k, .int 2])), (b0, .inl (cA, 10, .inl w)), (b1, .inl (cA, 10, .inl pr)), (b2, .inl (cA, 310, .inl vt))] := hD
  exact W.iret (v := 0) hx hb hr (fun t ht _ => ⟨⟨0, (), rfl, rfl, by show va_P _ _ _ t.heap; rw [ht]; exact hP⟩, hS.F ht⟩) hS.2.2 dX1_promise_51

set_option maxHeartbeats 4000000 in
set_option maxRecDepth 100000 in
theorem r_vote (l : Launch) (dC : Nat → ClassId) (dI : Nat → Nat → Nat) (cA : ClassId) (g0 b0 b1 b2 : Nat) (w pr vt : Nat → Int32) (k th : Int32) (sz : Nat) (n : Nat) (hn0 : n < 10) (b : Nat) (hb0 : b < 31) (v : Nat) (hv0 : v < 10) (hop : bb_rop pr vt b n = true) (hot : bb_rot vt b (nI v) = false) : Met l yX1_vote wsX1_vote ({ frames := 2, cells := 0, slots := 0, locals := 45 }) (bb_Pm [.ref g0, .int (nI n), .int (nI b), .int (nI v)] (dC, dI) vwCl [(g0, .inr (1, [.ref b0, .ref b1, .ref b2, .int k, .int th])), (b0, .inl (cA, 10, .inl w)), (b1, .inl (cA, 10, .inl pr)), (b2, .inl (cA, 310, .inl vt))] [(cA, .int)] sz) (bb_Qm (nI (bb_cn (fun m9 => decide ((upd vt (31 * n + b) (nI v)) (31 * m9 + b) ≠ -1)) 10)) (dC, dI) vwCl [(g0, .inr (1, [.ref b0, .ref b1, .ref b2, .int k, .int 0])), (b0, .inl (cA, 10, .inl w)), (b1, .inl (cA, 10, .inl (upd pr n (nI b)))), (b2, .inl (cA, 310, .inl (upd vt (31 * n + b) (nI v))))] (va_A [(g0, .inr (1, [.ref b0, .ref b1, .ref b2, .int k, .int th])), (b0, .inl (cA, 10, .inl w)), (b1, .inl (cA, 10, .inl pr)), (b2, .inl (cA, 310, .inl vt))] sz)) 0 0 (va_A [(g0, .inr (1, [.ref b0, .ref b1, .ref b2, .int k, .int th])), (b0, .inl (cA, 10, .inl w)), (b1, .inl (cA, 10, .inl pr)), (b2, .inl (cA, 310, .inl vt))] sz) := by
  refine Met.ofW (cc := cX1_vote) (maxL := 6) (ret := some .int) (by decide) rfl ?_
  intro p e s m args below meth c s₁ B hml hv
  obtain ⟨rfl, hsz, hP, hK, hD0⟩ := hv
  have hx := B.exec
  have hb := B.bytes
  have hr := B.returns
  have hts := atoms_spec (ws := wsX1_vote) B.pre
  have hown : s.vm.findClass RX1 = some m.cls := findClass_of_methodNamed B.named
  have hlocks := B.notSynchronized
  subst hsz
  have hD := hD0.self (sz := s.heap.size)
  generalize hAe : va_A [(g0, .inr (1, [.ref b0, .ref b1, .ref b2, .int k, .int th])), (b0, .inl (cA, 10, .inl w)), (b1, .inl (cA, 10, .inl pr)), (b2, .inl (cA, 310, .inl vt))] s.heap.size = A at hD ⊢
  have hA : ∀ q : Nat, s.heap.size ≤ q → A q := fun q h => by rw [← hAe]; exact Or.inr h
  have hin : ∀ w9 ∈ u_ws RX1 TX1 5, w9 ∈ wsX1_vote := fun w9 h9 => List.mem_cons_of_mem _ (bb_inX1 w9 h9)
  have hf13 := hts _ (List.mem_cons_of_mem _ bb_fX1_13)
  have hf16 := hts _ (List.mem_cons_of_mem _ bb_fX1_16)
  have hf23 := hts _ (List.mem_cons_of_mem _ bb_fX1_23)
  have hl := lv_entry ([.ref g0, .int (nI n), .int (nI b), .int (nI v)]) (n := 6) (Nat.le_of_ble_eq_true rfl)
  rw [lg_entry_eq]
  generalize (lg_sl ([.ref g0, .int (nI n), .int (nI b), .int (nI v)]) ++ List.replicate (6 - (lg_sl ([.ref g0, .int (nI n), .int (nI b), .int (nI v)])).length) Slot.unset).toArray = ls at hl ⊢
  have hl : lv_has ls 6 [(0, .ref g0), (1, .int (nI n)), (2, .int (nI b)), (3, .int (nI v))] := hl
  refine bb_gen hP hD (fun H locs hP hD hS => ?_)
  refine lv_aload_n hx hb dX1_vote_0 rfl (lv_at hl 0 rfl) ?_
  refine lv_iload_n hx hb dX1_vote_1 rfl (lv_at hl 1 rfl) ?_
  refine lv_bipush (v := nI 10) hx hb dX1_vote_2 (by decide) ?_
  refine bb_cS (As := [.int (nI n), .int (nI 10)]) (rest := [.ref g0]) (r := bb_I (bb_out (nI n) (nI 10))) ⟨hx, hb, hml, hown, hts⟩ (m_out l (nI n) (nI 10)) (cwS 2 hts gX1_vote_X1_out rfl rfl rfl (by decide +kernel) ⟨Nat.le_of_ble_eq_true rfl, Nat.le_of_ble_eq_true rfl⟩) rfl hl.1 rfl (Nat.le_of_ble_eq_true rfl) dX1_vote_4 (Nat.zero_le _) (Nat.zero_le _) ?_
  refine bb_topi (y := 0) (by rw [bb_out_no hn0 (by decide)]; rfl) ?_
  refine lv_if_ne (tgt := 28) hx hb dX1_vote_7 rfl (fun h7 => absurd rfl h7) (fun h7 => ?_)
  refine lv_iload_n hx hb dX1_vote_10 rfl (lv_at hl 2 rfl) ?_
  refine lv_bipush (v := nI 31) hx hb dX1_vote_11 (by decide) ?_
  refine bb_cS (As := [.int (nI b), .int (nI 31)]) (rest := [.ref g0]) (r := bb_I (bb_out (nI b) (nI 31))) ⟨hx, hb, hml, hown, hts⟩ (m_out l (nI b) (nI 31)) (cwS 2 hts gX1_vote_X1_out rfl rfl rfl (by decide +kernel) ⟨Nat.le_of_ble_eq_true rfl, Nat.le_of_ble_eq_true rfl⟩) rfl hl.1 rfl (Nat.le_of_ble_eq_true rfl) dX1_vote_13 (Nat.zero_le _) (Nat.zero_le _) ?_
  refine bb_topi (y := 0) (by rw [bb_out_no hb0 (by decide)]; rfl) ?_
  refine lv_if_ne (tgt := 28) hx hb dX1_vote_16 rfl (fun h16 => absurd rfl h16) (fun h16 => ?_)
  refine lv_iload_n hx hb dX1_vote_19 rfl (lv_at hl 3 rfl) ?_
  refine lv_bipush (v := nI 10) hx hb dX1_vote_20 (by decide) ?_
  refine bb_cS (As := [.int (nI v), .int (nI 10)]) (rest := [.ref g0]) (r := bb_I (bb_out (nI v) (nI 10))) ⟨hx, hb, hml, hown, hts⟩ (m_out l (nI v) (nI 10)) (cwS 2 hts gX1_vote_X1_out rfl rfl rfl (by decide +kernel) ⟨Nat.le_of_ble_eq_true rfl, Nat.le_of_ble_eq_true rfl⟩) rfl hl.1 rfl (Nat.le_of_ble_eq_true rfl) dX1_vote_22 (Nat.zero_le _) (Nat.zero_le _) ?_
  refine bb_topi (y := 0) (by rw [bb_out_no hv0 (by decide)]; rfl) ?_
  refine lv_if_eq (tgt := 32) hx hb dX1_vote_25 rfl (fun h25 => ?_) (fun h25 => absurd rfl h25)
  refine lv_iconst (v := 0) hx hb dX1_vote_32 (by decide) ?_
  refine va_put (D := (dC, dI)) (ci := 1) (v := .int 0) (ty := .int) (C := RX1) (T := TX1) (N := 5) hx hb hts hin tyX1 tyX1_ok nX1 hown hK hP hD hS 0 rfl rfl 4 (by decide) hf23 (fun _ h9 => h9) rfl (by decide +kernel) rfl rfl (Nat.le_of_ble_eq_true rfl) dX1_vote_33 (fun H locs hP hD hS => ?_)
  have hP : va_P (dC, dI) vwCl [(g0, .inr (1, [.ref b0, .ref b1, .ref b2, .int k, .int 0])), (b0, .inl (cA, 10, .inl w)), (b1, .inl (cA, 10, .inl pr)), (b2, .inl (cA, 310, .inl vt))] H := hP
  have hD : va_D A [(g0, .inr (1, [.ref b0, .ref b1, .ref b2, .int k, .int 0])), (b0, .inl (cA, 10, .inl w)), (b1, .inl (cA, 10, .inl pr)), (b2, .inl (cA, 310, .inl vt))] := hD
  refine lv_aload_n hx hb dX1_vote_36 rfl (lv_at hl 0 rfl) ?_
  refine va_get (D := (dC, dI)) (ci := 1) (v := .int 0) (C := RX1) (T := TX1) (N := 5) hx hb hts hin hown hK hP 0 rfl rfl 4 (by decide) hf23 (fun _ h9 => h9) rfl dX1_vote_37 ?_
  refine lv_if_le (tgt := 45) hx hb dX1_vote_40 rfl (fun h40 => ?_) (fun h40 => absurd (by decide) h40)
  refine lv_aload_n hx hb dX1_vote_45 rfl (lv_at hl 0 rfl) ?_
  refine lv_iload_n hx hb dX1_vote_46 rfl (lv_at hl 1 rfl) ?_
  refine lv_iload_n hx hb dX1_vote_47 rfl (lv_at hl 2 rfl) ?_
  refine bb_cV (As := [.int (nI n), .int (nI b)]) (rest := []) (r := bb_I (bb_rop pr vt b n)) 0 ⟨hx, hb, hml, hown, hts⟩ (m_isOpen l dC dI cA g0 b0 b1 b2 w pr vt k 0 n b (by omega) (by omega)) (cwV 2 hts gX1_vote_X1_isOpen rfl rfl rfl (by decide +kernel) ⟨Nat.le_of_ble_eq_true rfl, Nat.le_of_ble_eq_true rfl⟩) hP hK rfl rfl rfl hl.1 rfl (Nat.le_of_ble_eq_true rfl) dX1_vote_48 (Nat.zero_le _) (Nat.zero_le _) ?_
  refine bb_topi (y := 1) (by rw [hop]; rfl) ?_
  refine lv_if_eq (tgt := 63) hx hb dX1_vote_51 rfl (fun h51 => absurd h51 (by decide)) (fun h51 => ?_)
  refine lv_aload_n hx hb dX1_vote_54 rfl (lv_at hl 0 rfl) ?_
  refine lv_iload_n hx hb dX1_vote_55 rfl (lv_at hl 2 rfl) ?_
  refine lv_iload_n hx hb dX1_vote_56 rfl (lv_at hl 3 rfl) ?_
  refine bb_cV (As := [.int (nI b), .int (nI v)]) (rest := []) (r := bb_I (bb_rot vt b (nI v))) 0 ⟨hx, hb, hml, hown, hts⟩ (m_others l dC dI cA g0 b0 b1 b2 w pr vt k 0 b (nI v) (by omega)) (cwV 2 hts gX1_vote_X1_others rfl rfl rfl (by decide +kernel) ⟨Nat.le_of_ble_eq_true rfl, Nat.le_of_ble_eq_true rfl⟩) hP hK rfl rfl rfl hl.1 rfl (Nat.le_of_ble_eq_true rfl) dX1_vote_57 (Nat.zero_le _) (Nat.zero_le _) ?_
  refine bb_topi (y := 0) (by rw [hot]; rfl) ?_
  refine lv_if_eq (tgt := 69) hx hb dX1_vote_60 rfl (fun h60 => ?_) (fun h60 => absurd rfl h60)
  refine lv_aload_n hx hb dX1_vote_69 rfl (lv_at hl 0 rfl) ?_
  refine va_get (D := (dC, dI)) (ci := 1) (v := .ref b2) (C := RX1) (T := TX1) (N := 5) hx hb hts hin hown hK hP 0 rfl rfl 2 (by decide) hf16 (fun _ h9 => h9) rfl dX1_vote_70 ?_
  refine lv_bipush (v := nI 31) hx hb dX1_vote_73 (by decide) ?_
  refine lv_iload_n hx hb dX1_vote_75 rfl (lv_at hl 1 rfl) ?_
  refine lv_imul hx hb dX1_vote_76 ?_
  refine lv_iload_n hx hb dX1_vote_77 rfl (lv_at hl 2 rfl) ?_
  refine lv_iadd hx hb dX1_vote_78 ?_
  refine bb_topi (y := nI (31 * n + b)) (by rw [pk_mul, nI_add]) ?_
  refine lv_iload_n hx hb dX1_vote_79 rfl (lv_at hl 3 rfl) ?_
  refine bb_ast hx hb hK hP hD hS 3 0 rfl rfl (31 * n + b) (by omega) (by decide) dX1_vote_80 (fun H locs hP hD hS => ?_)
  have hP : va_P (dC, dI) vwCl [(g0, .inr (1, [.ref b0, .ref b1, .ref b2, .int k, .int 0])), (b0, .inl (cA, 10, .inl w)), (b1, .inl (cA, 10, .inl pr)), (b2, .inl (cA, 310, .inl (upd vt (31 * n + b) (nI v))))] H := hP
  have hD : va_D A [(g0, .inr (1, [.ref b0, .ref b1, .ref b2, .int k, .int 0])), (b0, .inl (cA, 10, .inl w)), (b1, .inl (cA, 10, .inl pr)), (b2, .inl (cA, 310, .inl (upd vt (31 * n + b) (nI v))))] := hD
  refine lv_aload_n hx hb dX1_vote_81 rfl (lv_at hl 0 rfl) ?_
  refine va_get (D := (dC, dI)) (ci := 1) (v := .ref b1) (C := RX1) (T := TX1) (N := 5) hx hb hts hin hown hK hP 0 rfl rfl 1 (by decide) hf13 (fun _ h9 => h9) rfl dX1_vote_82 ?_
  refine lv_iload_n hx hb dX1_vote_85 rfl (lv_at hl 1 rfl) ?_
  refine lv_iload_n hx hb dX1_vote_86 rfl (lv_at hl 2 rfl) ?_
  refine bb_ast hx hb hK hP hD hS 2 0 rfl rfl n (by omega) (by decide) dX1_vote_87 (fun H locs hP hD hS => ?_)
  have hP : va_P (dC, dI) vwCl [(g0, .inr (1, [.ref b0, .ref b1, .ref b2, .int k, .int 0])), (b0, .inl (cA, 10, .inl w)), (b1, .inl (cA, 10, .inl (upd pr n (nI b)))), (b2, .inl (cA, 310, .inl (upd vt (31 * n + b) (nI v))))] H := hP
  have hD : va_D A [(g0, .inr (1, [.ref b0, .ref b1, .ref b2, .int k, .int 0])), (b0, .inl (cA, 10, .inl w)), (b1, .inl (cA, 10, .inl (upd pr n (nI b)))), (b2, .inl (cA, 310, .inl (upd vt (31 * n + b) (nI v))))] := hD
  refine lv_iconst (v := 0) hx hb dX1_vote_88 (by decide) ?_
  refine lv_istore (lv' := [(4, .int 0), (0, .ref g0), (1, .int (nI n)), (2, .int (nI b)), (3, .int (nI v))]) hx hb dX1_vote_89 hl (by decide) rfl (fun ls hl => ?_)
  refine lv_iconst (v := 0) hx hb dX1_vote_91 (by decide) ?_
  refine lv_istore (lv' := [(5, .int 0), (4, .int 0), (0, .ref g0), (1, .int (nI n)), (2, .int (nI b)), (3, .int (nI v))]) hx hb dX1_vote_92 hl (by decide) rfl (fun ls hl => ?_)
  have hl : lv_has ls 6 [(0, .ref g0), (1, .int (nI n)), (2, .int (nI b)), (4, .int 0), (5, .int 0)] := lv_sub hl [2, 3, 4, 1, 0] rfl
  refine bb_forW (pc := 94) (I := fun j9 ls => lv_has ls 6 [(0, .ref g0), (1, .int (nI n)), (2, .int (nI b)), (4, .int (nI (bb_cn (fun m9 => decide ((upd vt (31 * n + b) (nI v)) (31 * m9 + b) ≠ -1)) j9))), (5, .int (nI j9))]) 10 ?_ ?_ 0 ls (Nat.zero_le _) hl
  · skip
    intro j ls hj hI ihj
    have hl := hI
    refine lv_iload hx hb dX1_vote_94 (lv_at hl 4 rfl) ?_
    refine lv_bipush (v := nI 10) hx hb dX1_vote_96 (by decide) ?_
    refine lv_icmp_ge (tgt := 121) hx hb dX1_vote_98 rfl (fun h98 => absurd h98 (nI_ge hj (by decide))) (fun h98 => ?_)
    have q98 := bb_lt h98
    refine lv_aload_n hx hb dX1_vote_101 rfl (lv_at hl 0 rfl) ?_
    refine lv_iload hx hb dX1_vote_102 (lv_at hl 4 rfl) ?_
    refine lv_iload_n hx hb dX1_vote_104 rfl (lv_at hl 2 rfl) ?_
    refine bb_cV (As := [.int (nI j), .int (nI b)]) (rest := []) (r := (upd vt (31 * n + b) (nI v)) (31 * j + b)) 0 ⟨hx, hb, hml, hown, hts⟩ (m_voteOf l dC dI cA g0 b0 b1 b2 w (upd pr n (nI b)) (upd vt (31 * n + b) (nI v)) k 0 j b (by omega) (by omega)) (cwV 2 hts gX1_vote_X1_voteOf rfl rfl rfl (by decide +kernel) ⟨Nat.le_of_ble_eq_true rfl, Nat.le_of_ble_eq_true rfl⟩) hP hK rfl rfl rfl hl.1 rfl (Nat.le_of_ble_eq_true rfl) dX1_vote_105 (Nat.zero_le _) (Nat.zero_le _) ?_
    refine lv_iconst (v := (-1)) hx hb dX1_vote_108 (by decide) ?_
    refine lv_icmp_eq (tgt := 115) hx hb dX1_vote_109 rfl (fun h109 => ?_) (fun h109 => ?_)
    · skip
      refine lv_iinc (v := nI (j + 1)) (lv' := [(5, .int (nI (j + 1))), (0, .ref g0), (1, .int (nI n)), (2, .int (nI b)), (4, .int (nI (bb_cn (fun m9 => decide ((upd vt (31 * n + b) (nI v)) (31 * m9 + b) ≠ -1)) j)))]) hx hb dX1_vote_115 hl (k := 4) rfl (bb_inc _) (by decide) rfl (fun ls hl => ?_)
      refine lv_goto (tgt := 94) hx hb dX1_vote_118 rfl ?_
      have hl : lv_has ls 6 [(0, .ref g0), (1, .int (nI n)), (2, .int (nI b)), (4, .int (nI (bb_cn (fun m9 => decide ((upd vt (31 * n + b) (nI v)) (31 * m9 + b) ≠ -1)) j))), (5, .int (nI (j + 1)))] := lv_sub hl [1, 2, 3, 4, 0] rfl
      have e1 : (nI (bb_cn (fun m9 => decide ((upd vt (31 * n + b) (nI v)) (31 * m9 + b) ≠ -1)) j)) = nI (bb_cn (fun m9 => decide ((upd vt (31 * n + b) (nI v)) (31 * m9 + b) ≠ -1)) (j + 1)) := by simp [bb_cn, h7, h16, h25, h40, h51, h60, h98, q98, h109]
      have hl : lv_has ls 6 [(0, .ref g0), (1, .int (nI n)), (2, .int (nI b)), (4, .int (nI (bb_cn (fun m9 => decide ((upd vt (31 * n + b) (nI v)) (31 * m9 + b) ≠ -1)) (j + 1)))), (5, .int (nI (j + 1)))] := by rw [← e1]; exact hl
      exact ihj ls hl
    · skip
      refine lv_iinc (v := nI ((bb_cn (fun m9 => decide ((upd vt (31 * n + b) (nI v)) (31 * m9 + b) ≠ -1)) j) + 1)) (lv' := [(4, .int (nI ((bb_cn (fun m9 => decide ((upd vt (31 * n + b) (nI v)) (31 * m9 + b) ≠ -1)) j) + 1))), (0, .ref g0), (1, .int (nI n)), (2, .int (nI b)), (5, .int (nI j))]) hx hb dX1_vote_112 hl (k := 3) rfl (bb_inc _) (by decide) rfl (fun ls hl => ?_)
      refine lv_iinc (v := nI (j + 1)) (lv' := [(5, .int (nI (j + 1))), (4, .int (nI ((bb_cn (fun m9 => decide ((upd vt (31 * n + b) (nI v)) (31 * m9 + b) ≠ -1)) j) + 1))), (0, .ref g0), (1, .int (nI n)), (2, .int (nI b))]) hx hb dX1_vote_115 hl (k := 4) rfl (bb_inc _) (by decide) rfl (fun ls hl => ?_)
      refine lv_goto (tgt := 94) hx hb dX1_vote_118 rfl ?_
      have hl : lv_has ls 6 [(0, .ref g0), (1, .int (nI n)), (2, .int (nI b)), (4, .int (nI ((bb_cn (fun m9 => decide ((upd vt (31 * n + b) (nI v)) (31 * m9 + b) ≠ -1)) j) + 1))), (5, .int (nI (j + 1)))] := lv_sub hl [2, 3, 4, 1, 0] rfl
      have e2 : (nI ((bb_cn (fun m9 => decide ((upd vt (31 * n + b) (nI v)) (31 * m9 + b) ≠ -1)) j) + 1)) = nI (bb_cn (fun m9 => decide ((upd vt (31 * n + b) (nI v)) (31 * m9 + b) ≠ -1)) (j + 1)) := by simp [bb_cn, h7, h16, h25, h40, h51, h60, h98, q98, h109]
      have hl : lv_has ls 6 [(0, .ref g0), (1, .int (nI n)), (2, .int (nI b)), (4, .int (nI (bb_cn (fun m9 => decide ((upd vt (31 * n + b) (nI v)) (31 * m9 + b) ≠ -1)) (j + 1)))), (5, .int (nI (j + 1)))] := by rw [← e2]; exact hl
      exact ihj ls hl
  · skip
    intro ls hI
    have hl := hI
    refine lv_iload hx hb dX1_vote_94 (lv_at hl 4 rfl) ?_
    refine lv_bipush (v := nI 10) hx hb dX1_vote_96 (by decide) ?_
    refine lv_icmp_ge (tgt := 121) hx hb dX1_vote_98 rfl (fun h98 => ?_) (fun h98 => absurd (nI_le (Nat.le_refl _) (by decide)) h98)
    have q98 := bb_nlt h98
    refine lv_iload hx hb dX1_vote_121 (lv_at hl 3 rfl) ?_
    exact W.iret (v := nI (bb_cn (fun m9 => decide ((upd vt (31 * n + b) (nI v)) (31 * m9 + b) ≠ -1)) 10)) hx hb hr (fun t ht _ => ⟨⟨nI (bb_cn (fun m9 => decide ((upd vt (31 * n + b) (nI v)) (31 * m9 + b) ≠ -1)) 10), (), rfl, rfl, by show va_P _ _ _ t.heap; rw [ht]; exact hP⟩, hS.F ht⟩) hS.2.2 dX1_vote_123

set_option maxHeartbeats 4000000 in
set_option maxRecDepth 100000 in
theorem r_vote1 (l : Launch) (dC : Nat → ClassId) (dI : Nat → Nat → Nat) (cA : ClassId) (g0 b0 b1 b2 : Nat) (w pr vt : Nat → Int32) (k th : Int32) (sz : Nat) (x0 x1 x2 : Int32) (hbad : (bb_out x0 (nI 10) || bb_out x1 (nI 31) || bb_out x2 (nI 10)) = true) : Met l yX1_vote wsX1_vote ({ frames := 2, cells := 0, slots := 0, locals := 45 }) (bb_Pm [.ref g0, .int x0, .int x1, .int x2] (dC, dI) vwCl [(g0, .inr (1, [.ref b0, .ref b1, .ref b2, .int k, .int th])), (b0, .inl (cA, 10, .inl w)), (b1, .inl (cA, 10, .inl pr)), (b2, .inl (cA, 310, .inl vt))] [(cA, .int)] sz) (bb_Qm (0) (dC, dI) vwCl [(g0, .inr (1, [.ref b0, .ref b1, .ref b2, .int k, .int 1])), (b0, .inl (cA, 10, .inl w)), (b1, .inl (cA, 10, .inl pr)), (b2, .inl (cA, 310, .inl vt))] (va_A [(g0, .inr (1, [.ref b0, .ref b1, .ref b2, .int k, .int th])), (b0, .inl (cA, 10, .inl w)), (b1, .inl (cA, 10, .inl pr)), (b2, .inl (cA, 310, .inl vt))] sz)) 0 0 (va_A [(g0, .inr (1, [.ref b0, .ref b1, .ref b2, .int k, .int th])), (b0, .inl (cA, 10, .inl w)), (b1, .inl (cA, 10, .inl pr)), (b2, .inl (cA, 310, .inl vt))] sz) := by
  refine Met.ofW (cc := cX1_vote) (maxL := 6) (ret := some .int) (by decide) rfl ?_
  intro p e s m args below meth c s₁ B hml hv
  obtain ⟨rfl, hsz, hP, hK, hD0⟩ := hv
  have hx := B.exec
  have hb := B.bytes
  have hr := B.returns
  have hts := atoms_spec (ws := wsX1_vote) B.pre
  have hown : s.vm.findClass RX1 = some m.cls := findClass_of_methodNamed B.named
  have hlocks := B.notSynchronized
  subst hsz
  have hD := hD0.self (sz := s.heap.size)
  generalize hAe : va_A [(g0, .inr (1, [.ref b0, .ref b1, .ref b2, .int k, .int th])), (b0, .inl (cA, 10, .inl w)), (b1, .inl (cA, 10, .inl pr)), (b2, .inl (cA, 310, .inl vt))] s.heap.size = A at hD ⊢
  have hA : ∀ q : Nat, s.heap.size ≤ q → A q := fun q h => by rw [← hAe]; exact Or.inr h
  have hin : ∀ w9 ∈ u_ws RX1 TX1 5, w9 ∈ wsX1_vote := fun w9 h9 => List.mem_cons_of_mem _ (bb_inX1 w9 h9)
  have hf23 := hts _ (List.mem_cons_of_mem _ bb_fX1_23)
  have hl := lv_entry ([.ref g0, .int x0, .int x1, .int x2]) (n := 6) (Nat.le_of_ble_eq_true rfl)
  rw [lg_entry_eq]
  generalize (lg_sl ([.ref g0, .int x0, .int x1, .int x2]) ++ List.replicate (6 - (lg_sl ([.ref g0, .int x0, .int x1, .int x2])).length) Slot.unset).toArray = ls at hl ⊢
  have hl : lv_has ls 6 [(0, .ref g0), (1, .int x0), (2, .int x1), (3, .int x2)] := hl
  refine bb_gen hP hD (fun H locs hP hD hS => ?_)
  refine lv_aload_n hx hb dX1_vote_0 rfl (lv_at hl 0 rfl) ?_
  refine lv_iload_n hx hb dX1_vote_1 rfl (lv_at hl 1 rfl) ?_
  refine lv_bipush (v := nI 10) hx hb dX1_vote_2 (by decide) ?_
  refine bb_cS (As := [.int x0, .int (nI 10)]) (rest := [.ref g0]) (r := bb_I (bb_out x0 (nI 10))) ⟨hx, hb, hml, hown, hts⟩ (m_out l x0 (nI 10)) (cwS 2 hts gX1_vote_X1_out rfl rfl rfl (by decide +kernel) ⟨Nat.le_of_ble_eq_true rfl, Nat.le_of_ble_eq_true rfl⟩) rfl hl.1 rfl (Nat.le_of_ble_eq_true rfl) dX1_vote_4 (Nat.zero_le _) (Nat.zero_le _) ?_
  refine lv_if_ne (tgt := 28) hx hb dX1_vote_7 rfl (fun h7 => ?_) (fun h7 => ?_)
  · skip
    have q7 := bb_nz h7
    refine lv_iconst (v := 1) hx hb dX1_vote_28 (by decide) ?_
    refine lv_goto (tgt := 33) hx hb dX1_vote_29 rfl ?_
    refine va_put (D := (dC, dI)) (ci := 1) (v := .int 1) (ty := .int) (C := RX1) (T := TX1) (N := 5) hx hb hts hin tyX1 tyX1_ok nX1 hown hK hP hD hS 0 rfl rfl 4 (by decide) hf23 (fun _ h9 => h9) rfl (by decide +kernel) rfl rfl (Nat.le_of_ble_eq_true rfl) dX1_vote_33 (fun H locs hP hD hS => ?_)
    have hP : va_P (dC, dI) vwCl [(g0, .inr (1, [.ref b0, .ref b1, .ref b2, .int k, .int 1])), (b0, .inl (cA, 10, .inl w)), (b1, .inl (cA, 10, .inl pr)), (b2, .inl (cA, 310, .inl vt))] H := hP
    have hD : va_D A [(g0, .inr (1, [.ref b0, .ref b1, .ref b2, .int k, .int 1])), (b0, .inl (cA, 10, .inl w)), (b1, .inl (cA, 10, .inl pr)), (b2, .inl (cA, 310, .inl vt))] := hD
    refine lv_aload_n hx hb dX1_vote_36 rfl (lv_at hl 0 rfl) ?_
    refine va_get (D := (dC, dI)) (ci := 1) (v := .int 1) (C := RX1) (T := TX1) (N := 5) hx hb hts hin hown hK hP 0 rfl rfl 4 (by decide) hf23 (fun _ h9 => h9) rfl dX1_vote_37 ?_
    refine lv_if_le (tgt := 45) hx hb dX1_vote_40 rfl (fun h40 => absurd h40 (by decide)) (fun h40 => ?_)
    refine lv_iconst (v := 0) hx hb dX1_vote_43 (by decide) ?_
    exact W.iret (v := 0) hx hb hr (fun t ht _ => ⟨⟨0, (), rfl, rfl, by show va_P _ _ _ t.heap; rw [ht]; exact hP⟩, hS.F ht⟩) hS.2.2 dX1_vote_44
  · skip
    have q7 := bb_I_0.mp h7
    refine lv_iload_n hx hb dX1_vote_10 rfl (lv_at hl 2 rfl) ?_
    refine lv_bipush (v := nI 31) hx hb dX1_vote_11 (by decide) ?_
    refine bb_cS (As := [.int x1, .int (nI 31)]) (rest := [.ref g0]) (r := bb_I (bb_out x1 (nI 31))) ⟨hx, hb, hml, hown, hts⟩ (m_out l x1 (nI 31)) (cwS 2 hts gX1_vote_X1_out rfl rfl rfl (by decide +kernel) ⟨Nat.le_of_ble_eq_true rfl, Nat.le_of_ble_eq_true rfl⟩) rfl hl.1 rfl (Nat.le_of_ble_eq_true rfl) dX1_vote_13 (Nat.zero_le _) (Nat.zero_le _) ?_
    refine lv_if_ne (tgt := 28) hx hb dX1_vote_16 rfl (fun h16 => ?_) (fun h16 => ?_)
    · skip
      have q16 := bb_nz h16
      refine lv_iconst (v := 1) hx hb dX1_vote_28 (by decide) ?_
      refine lv_goto (tgt := 33) hx hb dX1_vote_29 rfl ?_
      refine va_put (D := (dC, dI)) (ci := 1) (v := .int 1) (ty := .int) (C := RX1) (T := TX1) (N := 5) hx hb hts hin tyX1 tyX1_ok nX1 hown hK hP hD hS 0 rfl rfl 4 (by decide) hf23 (fun _ h9 => h9) rfl (by decide +kernel) rfl rfl (Nat.le_of_ble_eq_true rfl) dX1_vote_33 (fun H locs hP hD hS => ?_)
      have hP : va_P (dC, dI) vwCl [(g0, .inr (1, [.ref b0, .ref b1, .ref b2, .int k, .int 1])), (b0, .inl (cA, 10, .inl w)), (b1, .inl (cA, 10, .inl pr)), (b2, .inl (cA, 310, .inl vt))] H := hP
      have hD : va_D A [(g0, .inr (1, [.ref b0, .ref b1, .ref b2, .int k, .int 1])), (b0, .inl (cA, 10, .inl w)), (b1, .inl (cA, 10, .inl pr)), (b2, .inl (cA, 310, .inl vt))] := hD
      refine lv_aload_n hx hb dX1_vote_36 rfl (lv_at hl 0 rfl) ?_
      refine va_get (D := (dC, dI)) (ci := 1) (v := .int 1) (C := RX1) (T := TX1) (N := 5) hx hb hts hin hown hK hP 0 rfl rfl 4 (by decide) hf23 (fun _ h9 => h9) rfl dX1_vote_37 ?_
      refine lv_if_le (tgt := 45) hx hb dX1_vote_40 rfl (fun h40 => absurd h40 (by decide)) (fun h40 => ?_)
      refine lv_iconst (v := 0) hx hb dX1_vote_43 (by decide) ?_
      exact W.iret (v := 0) hx hb hr (fun t ht _ => ⟨⟨0, (), rfl, rfl, by show va_P _ _ _ t.heap; rw [ht]; exact hP⟩, hS.F ht⟩) hS.2.2 dX1_vote_44
    · skip
      have q16 := bb_I_0.mp h16
      refine lv_iload_n hx hb dX1_vote_19 rfl (lv_at hl 3 rfl) ?_
      refine lv_bipush (v := nI 10) hx hb dX1_vote_20 (by decide) ?_
      refine bb_cS (As := [.int x2, .int (nI 10)]) (rest := [.ref g0]) (r := bb_I (bb_out x2 (nI 10))) ⟨hx, hb, hml, hown, hts⟩ (m_out l x2 (nI 10)) (cwS 2 hts gX1_vote_X1_out rfl rfl rfl (by decide +kernel) ⟨Nat.le_of_ble_eq_true rfl, Nat.le_of_ble_eq_true rfl⟩) rfl hl.1 rfl (Nat.le_of_ble_eq_true rfl) dX1_vote_22 (Nat.zero_le _) (Nat.zero_le _) ?_
      refine lv_if_eq (tgt := 32) hx hb dX1_vote_25 rfl (fun h25 => absurd hbad (by simp [bb_I_0.mp h25, q7, q16])) (fun h25 => ?_)
      have q25 := bb_nz h25
      refine lv_iconst (v := 1) hx hb dX1_vote_28 (by decide) ?_
      refine lv_goto (tgt := 33) hx hb dX1_vote_29 rfl ?_
      refine va_put (D := (dC, dI)) (ci := 1) (v := .int 1) (ty := .int) (C := RX1) (T := TX1) (N := 5) hx hb hts hin tyX1 tyX1_ok nX1 hown hK hP hD hS 0 rfl rfl 4 (by decide) hf23 (fun _ h9 => h9) rfl (by decide +kernel) rfl rfl (Nat.le_of_ble_eq_true rfl) dX1_vote_33 (fun H locs hP hD hS => ?_)
      have hP : va_P (dC, dI) vwCl [(g0, .inr (1, [.ref b0, .ref b1, .ref b2, .int k, .int 1])), (b0, .inl (cA, 10, .inl w)), (b1, .inl (cA, 10, .inl pr)), (b2, .inl (cA, 310, .inl vt))] H := hP
      have hD : va_D A [(g0, .inr (1, [.ref b0, .ref b1, .ref b2, .int k, .int 1])), (b0, .inl (cA, 10, .inl w)), (b1, .inl (cA, 10, .inl pr)), (b2, .inl (cA, 310, .inl vt))] := hD
      refine lv_aload_n hx hb dX1_vote_36 rfl (lv_at hl 0 rfl) ?_
      refine va_get (D := (dC, dI)) (ci := 1) (v := .int 1) (C := RX1) (T := TX1) (N := 5) hx hb hts hin hown hK hP 0 rfl rfl 4 (by decide) hf23 (fun _ h9 => h9) rfl dX1_vote_37 ?_
      refine lv_if_le (tgt := 45) hx hb dX1_vote_40 rfl (fun h40 => absurd h40 (by decide)) (fun h40 => ?_)
      refine lv_iconst (v := 0) hx hb dX1_vote_43 (by decide) ?_
      exact W.iret (v := 0) hx hb hr (fun t ht _ => ⟨⟨0, (), rfl, rfl, by show va_P _ _ _ t.heap; rw [ht]; exact hP⟩, hS.F ht⟩) hS.2.2 dX1_vote_44

set_option maxHeartbeats 4000000 in
set_option maxRecDepth 100000 in
theorem r_vote2 (l : Launch) (dC : Nat → ClassId) (dI : Nat → Nat → Nat) (cA : ClassId) (g0 b0 b1 b2 : Nat) (w pr vt : Nat → Int32) (k th : Int32) (sz : Nat) (n : Nat) (hn0 : n < 10) (b : Nat) (hb0 : b < 31) (v : Nat) (hv0 : v < 10) (hb2 : (!bb_rop pr vt b n || bb_rot vt b (nI v)) = true) : Met l yX1_vote wsX1_vote ({ frames := 2, cells := 0, slots := 0, locals := 45 }) (bb_Pm [.ref g0, .int (nI n), .int (nI b), .int (nI v)] (dC, dI) vwCl [(g0, .inr (1, [.ref b0, .ref b1, .ref b2, .int k, .int th])), (b0, .inl (cA, 10, .inl w)), (b1, .inl (cA, 10, .inl pr)), (b2, .inl (cA, 310, .inl vt))] [(cA, .int)] sz) (bb_Qm (0) (dC, dI) vwCl [(g0, .inr (1, [.ref b0, .ref b1, .ref b2, .int k, .int 2])), (b0, .inl (cA, 10, .inl w)), (b1, .inl (cA, 10, .inl pr)), (b2, .inl (cA, 310, .inl vt))] (va_A [(g0, .inr (1, [.ref b0, .ref b1, .ref b2, .int k, .int th])), (b0, .inl (cA, 10, .inl w)), (b1, .inl (cA, 10, .inl pr)), (b2, .inl (cA, 310, .inl vt))] sz)) 0 0 (va_A [(g0, .inr (1, [.ref b0, .ref b1, .ref b2, .int k, .int th])), (b0, .inl (cA, 10, .inl w)), (b1, .inl (cA, 10, .inl pr)), (b2, .inl (cA, 310, .inl vt))] sz) := by
  refine Met.ofW (cc := cX1_vote) (maxL := 6) (ret := some .int) (by decide) rfl ?_
  intro p e s m args below meth c s₁ B hml hv
  obtain ⟨rfl, hsz, hP, hK, hD0⟩ := hv
  have hx := B.exec
  have hb := B.bytes
  have hr := B.returns
  have hts := atoms_spec (ws := wsX1_vote) B.pre
  have hown : s.vm.findClass RX1 = some m.cls := findClass_of_methodNamed B.named
  have hlocks := B.notSynchronized
  subst hsz
  have hD := hD0.self (sz := s.heap.size)
  generalize hAe : va_A [(g0, .inr (1, [.ref b0, .ref b1, .ref b2, .int k, .int th])), (b0, .inl (cA, 10, .inl w)), (b1, .inl (cA, 10, .inl pr)), (b2, .inl (cA, 310, .inl vt))] s.heap.size = A at hD ⊢
  have hA : ∀ q : Nat, s.heap.size ≤ q → A q := fun q h => by rw [← hAe]; exact Or.inr h
  have hin : ∀ w9 ∈ u_ws RX1 TX1 5, w9 ∈ wsX1_vote := fun w9 h9 => List.mem_cons_of_mem _ (bb_inX1 w9 h9)
  have hf23 := hts _ (List.mem_cons_of_mem _ bb_fX1_23)
  have hl := lv_entry ([.ref g0, .int (nI n), .int (nI b), .int (nI v)]) (n := 6) (Nat.le_of_ble_eq_true rfl)
  rw [lg_entry_eq]
  generalize (lg_sl ([.ref g0, .int (nI n), .int (nI b), .int (nI v)]) ++ List.replicate (6 - (lg_sl ([.ref g0, .int (nI n), .int (nI b), .int (nI v)])).length) Slot.unset).toArray = ls at hl ⊢
  have hl : lv_has ls 6 [(0, .ref g0), (1, .int (nI n)), (2, .int (nI b)), (3, .int (nI v))] := hl
  refine bb_gen hP hD (fun H locs hP hD hS => ?_)
  refine lv_aload_n hx hb dX1_vote_0 rfl (lv_at hl 0 rfl) ?_
  refine lv_iload_n hx hb dX1_vote_1 rfl (lv_at hl 1 rfl) ?_
  refine lv_bipush (v := nI 10) hx hb dX1_vote_2 (by decide) ?_
  refine bb_cS (As := [.int (nI n), .int (nI 10)]) (rest := [.ref g0]) (r := bb_I (bb_out (nI n) (nI 10))) ⟨hx, hb, hml, hown, hts⟩ (m_out l (nI n) (nI 10)) (cwS 2 hts gX1_vote_X1_out rfl rfl rfl (by decide +kernel) ⟨Nat.le_of_ble_eq_true rfl, Nat.le_of_ble_eq_true rfl⟩) rfl hl.1 rfl (Nat.le_of_ble_eq_true rfl) dX1_vote_4 (Nat.zero_le _) (Nat.zero_le _) ?_
  refine bb_topi (y := 0) (by rw [bb_out_no hn0 (by decide)]; rfl) ?_
  refine lv_if_ne (tgt := 28) hx hb dX1_vote_7 rfl (fun h7 => absurd rfl h7) (fun h7 => ?_)
  refine lv_iload_n hx hb dX1_vote_10 rfl (lv_at hl 2 rfl) ?_
  refine lv_bipush (v := nI 31) hx hb dX1_vote_11 (by decide) ?_
  refine bb_cS (As := [.int (nI b), .int (nI 31)]) (rest := [.ref g0]) (r := bb_I (bb_out (nI b) (nI 31))) ⟨hx, hb, hml, hown, hts⟩ (m_out l (nI b) (nI 31)) (cwS 2 hts gX1_vote_X1_out rfl rfl rfl (by decide +kernel) ⟨Nat.le_of_ble_eq_true rfl, Nat.le_of_ble_eq_true rfl⟩) rfl hl.1 rfl (Nat.le_of_ble_eq_true rfl) dX1_vote_13 (Nat.zero_le _) (Nat.zero_le _) ?_
  refine bb_topi (y := 0) (by rw [bb_out_no hb0 (by decide)]; rfl) ?_
  refine lv_if_ne (tgt := 28) hx hb dX1_vote_16 rfl (fun h16 => absurd rfl h16) (fun h16 => ?_)
  refine lv_iload_n hx hb dX1_vote_19 rfl (lv_at hl 3 rfl) ?_
  refine lv_bipush (v := nI 10) hx hb dX1_vote_20 (by decide) ?_
  refine bb_cS (As := [.int (nI v), .int (nI 10)]) (rest := [.ref g0]) (r := bb_I (bb_out (nI v) (nI 10))) ⟨hx, hb, hml, hown, hts⟩ (m_out l (nI v) (nI 10)) (cwS 2 hts gX1_vote_X1_out rfl rfl rfl (by decide +kernel) ⟨Nat.le_of_ble_eq_true rfl, Nat.le_of_ble_eq_true rfl⟩) rfl hl.1 rfl (Nat.le_of_ble_eq_true rfl) dX1_vote_22 (Nat.zero_le _) (Nat.zero_le _) ?_
  refine bb_topi (y := 0) (by rw [bb_out_no hv0 (by decide)]; rfl) ?_
  refine lv_if_eq (tgt := 32) hx hb dX1_vote_25 rfl (fun h25 => ?_) (fun h25 => absurd rfl h25)
  refine lv_iconst (v := 0) hx hb dX1_vote_32 (by decide) ?_
  refine va_put (D := (dC, dI)) (ci := 1) (v := .int 0) (ty := .int) (C := RX1) (T := TX1) (N := 5) hx hb hts hin tyX1 tyX1_ok nX1 hown hK hP hD hS 0 rfl rfl 4 (by decide) hf23 (fun _ h9 => h9) rfl (by decide +kernel) rfl rfl (Nat.le_of_ble_eq_true rfl) dX1_vote_33 (fun H locs hP hD hS => ?_)
  have hP : va_P (dC, dI) vwCl [(g0, .inr (1, [.ref b0, .ref b1, .ref b2, .int k, .int 0])), (b0, .inl (cA, 10, .inl w)), (b1, .inl (cA, 10, .inl pr)), (b2, .inl (cA, 310, .inl vt))] H := hP
  have hD : va_D A [(g0, .inr (1, [.ref b0, .ref b1, .ref b2, .int k, .int 0])), (b0, .inl (cA, 10, .inl w)), (b1, .inl (cA, 10, .inl pr)), (b2, .inl (cA, 310, .inl vt))] := hD
  refine lv_aload_n hx hb dX1_vote_36 rfl (lv_at hl 0 rfl) ?_
  refine va_get (D := (dC, dI)) (ci := 1) (v := .int 0) (C := RX1) (T := TX1) (N := 5) hx hb hts hin hown hK hP 0 rfl rfl 4 (by decide) hf23 (fun _ h9 => h9) rfl dX1_vote_37 ?_
  refine lv_if_le (tgt := 45) hx hb dX1_vote_40 rfl (fun h40 => ?_) (fun h40 => absurd (by decide) h40)
  refine lv_aload_n hx hb dX1_vote_45 rfl (lv_at hl 0 rfl) ?_
  refine lv_iload_n hx hb dX1_vote_46 rfl (lv_at hl 1 rfl) ?_
  refine lv_iload_n hx hb dX1_vote_47 rfl (lv_at hl 2 rfl) ?_
  refine bb_cV (As := [.int (nI n), .int (nI b)]) (rest := []) (r := bb_I (bb_rop pr vt b n)) 0 ⟨hx, hb, hml, hown, hts⟩ (m_isOpen l dC dI cA g0 b0 b1 b2 w pr vt k 0 n b (by omega) (by omega)) (cwV 2 hts gX1_vote_X1_isOpen rfl rfl rfl (by decide +kernel) ⟨Nat.le_of_ble_eq_true rfl, Nat.le_of_ble_eq_true rfl⟩) hP hK rfl rfl rfl hl.1 rfl (Nat.le_of_ble_eq_true rfl) dX1_vote_48 (Nat.zero_le _) (Nat.zero_le _) ?_
  refine lv_if_eq (tgt := 63) hx hb dX1_vote_51 rfl (fun h51 => ?_) (fun h51 => ?_)
  · skip
    have q51 := bb_I_0.mp h51
    refine lv_aload_n hx hb dX1_vote_63 rfl (lv_at hl 0 rfl) ?_
    refine lv_iconst (v := 2) hx hb dX1_vote_64 (by decide) ?_
    refine bb_cVm (As := [.int 2]) (rest := []) (r := 0) (wd' := [(g0, .inr (1, [.ref b0, .ref b1, .ref b2, .int k, .int 2])), (b0, .inl (cA, 10, .inl w)), (b1, .inl (cA, 10, .inl pr)), (b2, .inl (cA, 310, .inl vt))]) 0 ⟨hx, hb, hml, hown, hts⟩ (r_fail l dC dI cA g0 b0 b1 b2 w pr vt k 0 H.size 2) (cwV 1 hts gX1_vote_X1_fail rfl rfl rfl (by decide +kernel) ⟨Nat.le_of_ble_eq_true rfl, Nat.le_of_ble_eq_true rfl⟩) hP hK hD hS hA rfl rfl rfl rfl hl.1 rfl (Nat.le_of_ble_eq_true rfl) dX1_vote_65 (Nat.zero_le _) (Nat.zero_le _) (fun H locs hP hD hS => ?_)
    have hP : va_P (dC, dI) vwCl [(g0, .inr (1, [.ref b0, .ref b1, .ref b2, .int k, .int 2])), (b0, .inl (cA, 10, .inl w)), (b1, .inl (cA, 10, .inl pr)), (b2, .inl (cA, 310, .inl vt))] H := hP
    have hD : va_D A [(g0, .inr (1, [.ref b0, .ref b1, .ref b2, .int k, .int 2])), (b0, .inl (cA, 10, .inl w)), (b1, .inl (cA, 10, .inl pr)), (b2, .inl (cA, 310, .inl vt))] := hD
    exact W.iret (v := 0) hx hb hr (fun t ht _ => ⟨⟨0, (), rfl, rfl, by show va_P _ _ _ t.heap; rw [ht]; exact hP⟩, hS.F ht⟩) hS.2.2 dX1_vote_68
  · skip
    have q51 := bb_nz h51
    refine lv_aload_n hx hb dX1_vote_54 rfl (lv_at hl 0 rfl) ?_
    refine lv_iload_n hx hb dX1_vote_55 rfl (lv_at hl 2 rfl) ?_
    refine lv_iload_n hx hb dX1_vote_56 rfl (lv_at hl 3 rfl) ?_
    refine bb_cV (As := [.int (nI b), .int (nI v)]) (rest := []) (r := bb_I (bb_rot vt b (nI v))) 0 ⟨hx, hb, hml, hown, hts⟩ (m_others l dC dI cA g0 b0 b1 b2 w pr vt k 0 b (nI v) (by omega)) (cwV 2 hts gX1_vote_X1_others rfl rfl rfl (by decide +kernel) ⟨Nat.le_of_ble_eq_true rfl, Nat.le_of_ble_eq_true rfl⟩) hP hK rfl rfl rfl hl.1 rfl (Nat.le_of_ble_eq_true rfl) dX1_vote_57 (Nat.zero_le _) (Nat.zero_le _) ?_
    refine lv_if_eq (tgt := 69) hx hb dX1_vote_60 rfl (fun h60 => absurd hb2 (by simp [bb_I_0.mp h60, q51])) (fun h60 => ?_)
    have q60 := bb_nz h60
    refine lv_aload_n hx hb dX1_vote_63 rfl (lv_at hl 0 rfl) ?_
    refine lv_iconst (v := 2) hx hb dX1_vote_64 (by decide) ?_
    refine bb_cVm (As := [.int 2]) (rest := []) (r := 0) (wd' := [(g0, .inr (1, [.ref b0, .ref b1, .ref b2, .int k, .int 2])), (b0, .inl (cA, 10, .inl w)), (b1, .inl (cA, 10, .inl pr)), (b2, .inl (cA, 310, .inl vt))]) 0 ⟨hx, hb, hml, hown, hts⟩ (r_fail l dC dI cA g0 b0 b1 b2 w pr vt k 0 H.size 2) (cwV 1 hts gX1_vote_X1_fail rfl rfl rfl (by decide +kernel) ⟨Nat.le_of_ble_eq_true rfl, Nat.le_of_ble_eq_true rfl⟩) hP hK hD hS hA rfl rfl rfl rfl hl.1 rfl (Nat.le_of_ble_eq_true rfl) dX1_vote_65 (Nat.zero_le _) (Nat.zero_le _) (fun H locs hP hD hS => ?_)
    have hP : va_P (dC, dI) vwCl [(g0, .inr (1, [.ref b0, .ref b1, .ref b2, .int k, .int 2])), (b0, .inl (cA, 10, .inl w)), (b1, .inl (cA, 10, .inl pr)), (b2, .inl (cA, 310, .inl vt))] H := hP
    have hD : va_D A [(g0, .inr (1, [.ref b0, .ref b1, .ref b2, .int k, .int 2])), (b0, .inl (cA, 10, .inl w)), (b1, .inl (cA, 10, .inl pr)), (b2, .inl (cA, 310, .inl vt))] := hD
    exact W.iret (v := 0) hx hb hr (fun t ht _ => ⟨⟨0, (), rfl, rfl, by show va_P _ _ _ t.heap; rw [ht]; exact hP⟩, hS.F ht⟩) hS.2.2 dX1_vote_68

set_option maxHeartbeats 4000000 in
set_option maxRecDepth 100000 in
theorem r_ask (l : Launch) (dC : Nat → ClassId) (dI : Nat → Nat → Nat) (cA : ClassId) (g0 b0 b1 b2 : Nat) (w pr vt : Nat → Int32) (k th : Int32) (sz : Nat) (a : Nat) (ha0 : a < 1024) (b : Nat) (hb0 : b < 31) (hen : bb_en w k (nI a) = true) (hhi : bb_ex (fun i9 => bb_hb (nI a) i9 && decide (nI b < pr i9)) 10 = false) : Met l yX1_ask wsX1_ask ({ frames := 1, cells := 0, slots := 0, locals := 23 }) (bb_Pm [.ref g0, .int (nI a), .int (nI b)] (dC, dI) vwCl [(g0, .inr (1, [.ref b0, .ref b1, .ref b2, .int k, .int th])), (b0, .inl (cA, 10, .inl w)), (b1, .inl (cA, 10, .inl pr)), (b2, .inl (cA, 310, .inl vt))] [(cA, .int)] sz) (bb_Qm (bb_fo (nI a) vt b) (dC, dI) vwCl [(g0, .inr (1, [.ref b0, .ref b1, .ref b2, .int k, .int 0])), (b0, .inl (cA, 10, .inl w)), (b1, .inl (cA, 10, .inl (bb_pal pr (nI a) (nI b) 10))), (b2, .inl (cA, 310, .inl vt))] (va_A [(g0, .inr (1, [.ref b0, .ref b1, .ref b2, .int k, .int th])), (b0, .inl (cA, 10, .inl w)), (b1, .inl (cA, 10, .inl pr)), (b2, .inl (cA, 310, .inl vt))] sz)) 0 0 (va_A [(g0, .inr (1, [.ref b0, .ref b1, .ref b2, .int k, .int th])), (b0, .inl (cA, 10, .inl w)), (b1, .inl (cA, 10, .inl pr)), (b2, .inl (cA, 310, .inl vt))] sz) := by
  refine Met.ofW (cc := cX1_ask) (maxL := 7) (ret := some .int) (by decide) rfl ?_
  intro p e s m args below meth c s₁ B hml hv
  obtain ⟨rfl, hsz, hP, hK, hD0⟩ := hv
  have hx := B.exec
  have hb := B.bytes
  have hr := B.returns
  have hts := atoms_spec (ws := wsX1_ask) B.pre
  have hown : s.vm.findClass RX1 = some m.cls := findClass_of_methodNamed B.named
  have hlocks := B.notSynchronized
  subst hsz
  have hD := hD0.self (sz := s.heap.size)
  generalize hAe : va_A [(g0, .inr (1, [.ref b0, .ref b1, .ref b2, .int k, .int th])), (b0, .inl (cA, 10, .inl w)), (b1, .inl (cA, 10, .inl pr)), (b2, .inl (cA, 310, .inl vt))] s.heap.size = A at hD ⊢
  have hA : ∀ q : Nat, s.heap.size ≤ q → A q := fun q h => by rw [← hAe]; exact Or.inr h
  have hin : ∀ w9 ∈ u_ws RX1 TX1 5, w9 ∈ wsX1_ask := fun w9 h9 => List.mem_cons_of_mem _ (bb_inX1 w9 h9)
  have hf13 := hts _ (List.mem_cons_of_mem _ bb_fX1_13)
  have hf23 := hts _ (List.mem_cons_of_mem _ bb_fX1_23)
  have hl := lv_entry ([.ref g0, .int (nI a), .int (nI b)]) (n := 7) (Nat.le_of_ble_eq_true rfl)
  rw [lg_entry_eq]
  generalize (lg_sl ([.ref g0, .int (nI a), .int (nI b)]) ++ List.replicate (7 - (lg_sl ([.ref g0, .int (nI a), .int (nI b)])).length) Slot.unset).toArray = ls at hl ⊢
  have hl : lv_has ls 7 [(0, .ref g0), (1, .int (nI a)), (2, .int (nI b))] := hl
  refine bb_gen hP hD (fun H locs hP hD hS => ?_)
  refine lv_aload_n hx hb dX1_ask_0 rfl (lv_at hl 0 rfl) ?_
  refine lv_iload_n hx hb dX1_ask_1 rfl (lv_at hl 1 rfl) ?_
  refine lv_sipush (v := nI 1024) hx hb dX1_ask_2 (by decide) ?_
  refine bb_cS (As := [.int (nI a), .int (nI 1024)]) (rest := [.ref g0]) (r := bb_I (bb_out (nI a) (nI 1024))) ⟨hx, hb, hml, hown, hts⟩ (m_out l (nI a) (nI 1024)) (cwS 2 hts gX1_ask_X1_out rfl rfl rfl (by decide +kernel) ⟨Nat.le_of_ble_eq_true rfl, Nat.le_of_ble_eq_true rfl⟩) rfl hl.1 rfl (Nat.le_of_ble_eq_true rfl) dX1_ask_5 (Nat.zero_le _) (Nat.zero_le _) ?_
  refine bb_topi (y := 0) (by rw [bb_out_no ha0 (by decide)]; rfl) ?_
  refine lv_if_ne (tgt := 20) hx hb dX1_ask_8 rfl (fun h8 => absurd rfl h8) (fun h8 => ?_)
  refine lv_iload_n hx hb dX1_ask_11 rfl (lv_at hl 2 rfl) ?_
  refine lv_bipush (v := nI 31) hx hb dX1_ask_12 (by decide) ?_
  refine bb_cS (As := [.int (nI b), .int (nI 31)]) (rest := [.ref g0]) (r := bb_I (bb_out (nI b) (nI 31))) ⟨hx, hb, hml, hown, hts⟩ (m_out l (nI b) (nI 31)) (cwS 2 hts gX1_ask_X1_out rfl rfl rfl (by decide +kernel) ⟨Nat.le_of_ble_eq_true rfl, Nat.le_of_ble_eq_true rfl⟩) rfl hl.1 rfl (Nat.le_of_ble_eq_true rfl) dX1_ask_14 (Nat.zero_le _) (Nat.zero_le _) ?_
  refine bb_topi (y := 0) (by rw [bb_out_no hb0 (by decide)]; rfl) ?_
  refine lv_if_eq (tgt := 24) hx hb dX1_ask_17 rfl (fun h17 => ?_) (fun h17 => absurd rfl h17)
  refine lv_iconst (v := 0) hx hb dX1_ask_24 (by decide) ?_
  refine va_put (D := (dC, dI)) (ci := 1) (v := .int 0) (ty := .int) (C := RX1) (T := TX1) (N := 5) hx hb hts hin tyX1 tyX1_ok nX1 hown hK hP hD hS 0 rfl rfl 4 (by decide) hf23 (fun _ h9 => h9) rfl (by decide +kernel) rfl rfl (Nat.le_of_ble_eq_true rfl) dX1_ask_25 (fun H locs hP hD hS => ?_)
  have hP : va_P (dC, dI) vwCl [(g0, .inr (1, [.ref b0, .ref b1, .ref b2, .int k, .int 0])), (b0, .inl (cA, 10, .inl w)), (b1, .inl (cA, 10, .inl pr)), (b2, .inl (cA, 310, .inl vt))] H := hP
  have hD : va_D A [(g0, .inr (1, [.ref b0, .ref b1, .ref b2, .int k, .int 0])), (b0, .inl (cA, 10, .inl w)), (b1, .inl (cA, 10, .inl pr)), (b2, .inl (cA, 310, .inl vt))] := hD
  refine lv_aload_n hx hb dX1_ask_28 rfl (lv_at hl 0 rfl) ?_
  refine va_get (D := (dC, dI)) (ci := 1) (v := .int 0) (C := RX1) (T := TX1) (N := 5) hx hb hts hin hown hK hP 0 rfl rfl 4 (by decide) hf23 (fun _ h9 => h9) rfl dX1_ask_29 ?_
  refine lv_if_le (tgt := 37) hx hb dX1_ask_32 rfl (fun h32 => ?_) (fun h32 => absurd (by decide) h32)
  refine lv_iconst (v := 0) hx hb dX1_ask_37 (by decide) ?_
  refine lv_istore_n (lv' := [(3, .int 0), (0, .ref g0), (1, .int (nI a)), (2, .int (nI b))]) hx hb dX1_ask_38 rfl hl (by decide) rfl (fun ls hl => ?_)
  refine lv_iconst (v := 0) hx hb dX1_ask_39 (by decide) ?_
  refine lv_istore (lv' := [(4, .int 0), (3, .int 0), (0, .ref g0), (1, .int (nI a)), (2, .int (nI b))]) hx hb dX1_ask_40 hl (by decide) rfl (fun ls hl => ?_)
  have hl : lv_has ls 7 [(0, .ref g0), (1, .int (nI a)), (2, .int (nI b)), (3, .int 0), (4, .int 0)] := lv_sub hl [2, 3, 4, 1, 0] rfl
  refine bb_forW (pc := 42) (I := fun j9 ls => lv_has ls 7 [(0, .ref g0), (1, .int (nI a)), (2, .int (nI b)), (3, .int (bb_I (bb_ex (fun i9 => bb_hb (nI a) i9 && decide (nI b < pr i9)) j9))), (4, .int (nI j9))]) 10 ?_ ?_ 0 ls (Nat.zero_le _) hl
  · skip
    intro j ls hj hI ihj
    have hl := hI
    refine lv_iload hx hb dX1_ask_42 (lv_at hl 4 rfl) ?_
    refine lv_bipush (v := nI 10) hx hb dX1_ask_44 (by decide) ?_
    refine lv_icmp_ge (tgt := 84) hx hb dX1_ask_46 rfl (fun h46 => absurd h46 (nI_ge hj (by decide))) (fun h46 => ?_)
    have q46 := bb_lt h46
    refine lv_iload_n hx hb dX1_ask_49 rfl (lv_at hl 3 rfl) ?_
    refine lv_iload_n hx hb dX1_ask_50 rfl (lv_at hl 1 rfl) ?_
    refine lv_iload hx hb dX1_ask_51 (lv_at hl 4 rfl) ?_
    refine lv_ishr hx hb dX1_ask_53 ?_
    refine lv_iconst (v := 1) hx hb dX1_ask_54 (by decide) ?_
    refine lv_iand hx hb dX1_ask_55 ?_
    refine lv_iconst (v := 1) hx hb dX1_ask_56 (by decide) ?_
    refine lv_icmp_ne (tgt := 75) hx hb dX1_ask_57 rfl (fun h57 => ?_) (fun h57 => ?_)
    · skip
      refine lv_iconst (v := 0) hx hb dX1_ask_75 (by decide) ?_
      refine lv_ior hx hb dX1_ask_76 ?_
      refine lv_istore_n (lv' := [(3, .int ((bb_I (bb_ex (fun i9 => bb_hb (nI a) i9 && decide (nI b < pr i9)) j)) ||| 0)), (0, .ref g0), (1, .int (nI a)), (2, .int (nI b)), (4, .int (nI j))]) hx hb dX1_ask_77 rfl hl (by decide) rfl (fun ls hl => ?_)
      refine lv_iinc (v := nI (j + 1)) (lv' := [(4, .int (nI (j + 1))), (3, .int ((bb_I (bb_ex (fun i9 => bb_hb (nI a) i9 && decide (nI b < pr i9)) j)) ||| 0)), (0, .ref g0), (1, .int (nI a)), (2, .int (nI b))]) hx hb dX1_ask_78 hl (k := 4) rfl (bb_inc _) (by decide) rfl (fun ls hl => ?_)
      refine lv_goto (tgt := 42) hx hb dX1_ask_81 rfl ?_
      have hl : lv_has ls 7 [(0, .ref g0), (1, .int (nI a)), (2, .int (nI b)), (3, .int ((bb_I (bb_ex (fun i9 => bb_hb (nI a) i9 && decide (nI b < pr i9)) j)) ||| 0)), (4, .int (nI (j + 1)))] := lv_sub hl [2, 3, 4, 1, 0] rfl
      have e1 : ((bb_I (bb_ex (fun i9 => bb_hb (nI a) i9 && decide (nI b < pr i9)) j)) ||| 0) = bb_I (bb_ex (fun i9 => bb_hb (nI a) i9 && decide (nI b < pr i9)) (j + 1)) := by simp [bb_ex, bb_hb, bb_or1, bb_or0, bb_I_t, h8, h17, h32, h46, q46, h57]
      have hl : lv_has ls 7 [(0, .ref g0), (1, .int (nI a)), (2, .int (nI b)), (3, .int (bb_I (bb_ex (fun i9 => bb_hb (nI a) i9 && decide (nI b < pr i9)) (j + 1)))), (4, .int (nI (j + 1)))] := by rw [← e1]; exact hl
      exact ihj ls hl
    · skip
      refine lv_aload_n hx hb dX1_ask_60 rfl (lv_at hl 0 rfl) ?_
      refine va_get (D := (dC, dI)) (ci := 1) (v := .ref b1) (C := RX1) (T := TX1) (N := 5) hx hb hts hin hown hK hP 0 rfl rfl 1 (by decide) hf13 (fun _ h9 => h9) rfl dX1_ask_61 ?_
      refine lv_iload hx hb dX1_ask_64 (lv_at hl 4 rfl) ?_
      refine bb_ald hx hb hK hP 2 0 rfl rfl j (by omega) (by decide) dX1_ask_66 ?_
      refine lv_iload_n hx hb dX1_ask_67 rfl (lv_at hl 2 rfl) ?_
      refine lv_icmp_le (tgt := 75) hx hb dX1_ask_68 rfl (fun h68 => ?_) (fun h68 => ?_)
      · skip
        have q68 := bb_nlt h68
        refine lv_iconst (v := 0) hx hb dX1_ask_75 (by decide) ?_
        refine lv_ior hx hb dX1_ask_76 ?_
        refine lv_istore_n (lv' := [(3, .int ((bb_I (bb_ex (fun i9 => bb_hb (nI a) i9 && decide (nI b < pr i9)) j)) ||| 0)), (0, .ref g0), (1, .int (nI a)), (2, .int (nI b)), (4, .int (nI j))]) hx hb dX1_ask_77 rfl hl (by decide) rfl (fun ls hl => ?_)
        refine lv_iinc (v := nI (j + 1)) (lv' := [(4, .int (nI (j + 1))), (3, .int ((bb_I (bb_ex (fun i9 => bb_hb (nI a) i9 && decide (nI b < pr i9)) j)) ||| 0)), (0, .ref g0), (1, .int (nI a)), (2, .int (nI b))]) hx hb dX1_ask_78 hl (k := 4) rfl (bb_inc _) (by decide) rfl (fun ls hl => ?_)
        refine lv_goto (tgt := 42) hx hb dX1_ask_81 rfl ?_
        have hl : lv_has ls 7 [(0, .ref g0), (1, .int (nI a)), (2, .int (nI b)), (3, .int ((bb_I (bb_ex (fun i9 => bb_hb (nI a) i9 && decide (nI b < pr i9)) j)) ||| 0)), (4, .int (nI (j + 1)))] := lv_sub hl [2, 3, 4, 1, 0] rfl
        have e2 : ((bb_I (bb_ex (fun i9 => bb_hb (nI a) i9 && decide (nI b < pr i9)) j)) ||| 0) = bb_I (bb_ex (fun i9 => bb_hb (nI a) i9 && decide (nI b < pr i9)) (j + 1)) := by simp [bb_ex, bb_hb, bb_or1, bb_or0, bb_I_t, h8, h17, h32, h46, q46, h57, h68, q68]
        have hl : lv_has ls 7 [(0, .ref g0), (1, .int (nI a)), (2, .int (nI b)), (3, .int (bb_I (bb_ex (fun i9 => bb_hb (nI a) i9 && decide (nI b < pr i9)) (j + 1)))), (4, .int (nI (j + 1)))] := by rw [← e2]; exact hl
        exact ihj ls hl
      · skip
        have q68 := bb_lt h68
        refine lv_iconst (v := 1) hx hb dX1_ask_71 (by decide) ?_
        refine lv_goto (tgt := 76) hx hb dX1_ask_72 rfl ?_
        refine lv_ior hx hb dX1_ask_76 ?_
        refine lv_istore_n (lv' := [(3, .int ((bb_I (bb_ex (fun i9 => bb_hb (nI a) i9 && decide (nI b < pr i9)) j)) ||| 1)), (0, .ref g0), (1, .int (nI a)), (2, .int (nI b)), (4, .int (nI j))]) hx hb dX1_ask_77 rfl hl (by decide) rfl (fun ls hl => ?_)
        refine lv_iinc (v := nI (j + 1)) (lv' := [(4, .int (nI (j + 1))), (3, .int ((bb_I (bb_ex (fun i9 => bb_hb (nI a) i9 && decide (nI b < pr i9)) j)) ||| 1)), (0, .ref g0), (1, .int (nI a)), (2, .int (nI b))]) hx hb dX1_ask_78 hl (k := 4) rfl (bb_inc _) (by decide) rfl (fun ls hl => ?_)
        refine lv_goto (tgt := 42) hx hb dX1_ask_81 rfl ?_
        have hl : lv_has ls 7 [(0, .ref g0), (1, .int (nI a)), (2, .int (nI b)), (3, .int ((bb_I (bb_ex (fun i9 => bb_hb (nI a) i9 && decide (nI b < pr i9)) j)) ||| 1)), (4, .int (nI (j + 1)))] := lv_sub hl [2, 3, 4, 1, 0] rfl
        have e3 : ((bb_I (bb_ex (fun i9 => bb_hb (nI a) i9 && decide (nI b < pr i9)) j)) ||| 1) = bb_I (bb_ex (fun i9 => bb_hb (nI a) i9 && decide (nI b < pr i9)) (j + 1)) := by simp [bb_ex, bb_hb, bb_or1, bb_or0, bb_I_t, h8, h17, h32, h46, q46, h57, h68, q68]
        have hl : lv_has ls 7 [(0, .ref g0), (1, .int (nI a)), (2, .int (nI b)), (3, .int (bb_I (bb_ex (fun i9 => bb_hb (nI a) i9 && decide (nI b < pr i9)) (j + 1)))), (4, .int (nI (j + 1)))] := by rw [← e3]; exact hl
        exact ihj ls hl
  · skip
    intro ls hI
    have hl := hI
    refine lv_iload hx hb dX1_ask_42 (lv_at hl 4 rfl) ?_
    refine lv_bipush (v := nI 10) hx hb dX1_ask_44 (by decide) ?_
    refine lv_icmp_ge (tgt := 84) hx hb dX1_ask_46 rfl (fun h46 => ?_) (fun h46 => absurd (nI_le (Nat.le_refl _) (by decide)) h46)
    have q46 := bb_nlt h46
    refine lv_aload_n hx hb dX1_ask_84 rfl (lv_at hl 0 rfl) ?_
    refine lv_iload_n hx hb dX1_ask_85 rfl (lv_at hl 1 rfl) ?_
    refine bb_cV (As := [.int (nI a)]) (rest := []) (r := bb_I (bb_en w k (nI a))) 0 ⟨hx, hb, hml, hown, hts⟩ (m_isEnough l dC dI cA g0 b0 b1 b2 w pr vt k 0 (nI a)) (cwV 1 hts gX1_ask_X1_isEnough rfl rfl rfl (by decide +kernel) ⟨Nat.le_of_ble_eq_true rfl, Nat.le_of_ble_eq_true rfl⟩) hP hK rfl rfl rfl hl.1 rfl (Nat.le_of_ble_eq_true rfl) dX1_ask_86 (Nat.zero_le _) (Nat.zero_le _) ?_
    refine bb_topi (y := 1) (by rw [hen]; rfl) ?_
    refine lv_if_eq (tgt := 96) hx hb dX1_ask_89 rfl (fun h89 => absurd h89 (by decide)) (fun h89 => ?_)
    refine lv_iload_n hx hb dX1_ask_92 rfl (lv_at hl 3 rfl) ?_
    refine bb_topi (y := 0) (by rw [hhi]; rfl) ?_
    refine lv_if_eq (tgt := 102) hx hb dX1_ask_93 rfl (fun h93 => ?_) (fun h93 => absurd rfl h93)
    refine lv_iconst (v := (-1)) hx hb dX1_ask_102 (by decide) ?_
    refine lv_istore (lv' := [(4, .int (-1)), (0, .ref g0), (1, .int (nI a)), (2, .int (nI b)), (3, .int (bb_I (bb_ex (fun i9 => bb_hb (nI a) i9 && decide (nI b < pr i9)) 10)))]) hx hb dX1_ask_103 hl (by decide) rfl (fun ls hl => ?_)
    refine lv_iconst (v := 0) hx hb dX1_ask_105 (by decide) ?_
    refine lv_istore (lv' := [(5, .int 0), (4, .int (-1)), (0, .ref g0), (1, .int (nI a)), (2, .int (nI b)), (3, .int (bb_I (bb_ex (fun i9 => bb_hb (nI a) i9 && decide (nI b < pr i9)) 10)))]) hx hb dX1_ask_106 hl (by decide) rfl (fun ls hl => ?_)
    have hl : lv_has ls 7 [(0, .ref g0), (1, .int (nI a)), (2, .int (nI b)), (4, .int (-1)), (5, .int 0)] := lv_sub hl [2, 3, 4, 1, 0] rfl
    refine bb_forW (pc := 108) (I := fun j9 ls => lv_has ls 7 [(0, .ref g0), (1, .int (nI a)), (2, .int (nI b)), (4, .int (bb_fo (nI a) vt j9)), (5, .int (nI j9))]) b ?_ ?_ 0 ls (Nat.zero_le _) hl
    · skip
      intro j ls hj hI ihj
      have hl := hI
      refine lv_iload hx hb dX1_ask_108 (lv_at hl 4 rfl) ?_
      refine lv_iload_n hx hb dX1_ask_110 rfl (lv_at hl 2 rfl) ?_
      refine lv_icmp_ge (tgt := 168) hx hb dX1_ask_111 rfl (fun h111 => absurd h111 (nI_ge hj (by omega))) (fun h111 => ?_)
      have q111 := bb_lt h111
      refine lv_iconst (v := 0) hx hb dX1_ask_114 (by decide) ?_
      refine lv_istore (lv' := [(6, .int 0), (0, .ref g0), (1, .int (nI a)), (2, .int (nI b)), (4, .int (bb_fo (nI a) vt j)), (5, .int (nI j))]) hx hb dX1_ask_115 hl (by decide) rfl (fun ls hl => ?_)
      have hl : lv_has ls 7 [(0, .ref g0), (1, .int (nI a)), (2, .int (nI b)), (4, .int (bb_fo (nI a) vt j)), (5, .int (nI j)), (6, .int 0)] := lv_sub hl [1, 2, 3, 4, 5, 0] rfl
      refine bb_forW (pc := 117) (I := fun j9 ls => lv_has ls 7 [(0, .ref g0), (1, .int (nI a)), (2, .int (nI b)), (4, .int (bb_fn (nI a) vt j (bb_fo (nI a) vt j) j9)), (5, .int (nI j)), (6, .int (nI j9))]) 10 ?_ ?_ 0 ls (Nat.zero_le _) hl
      · skip
        intro i ls hi hI ihi
        have hl := hI
        refine lv_iload hx hb dX1_ask_117 (lv_at hl 5 rfl) ?_
        refine lv_bipush (v := nI 10) hx hb dX1_ask_119 (by decide) ?_
        refine lv_icmp_ge (tgt := 162) hx hb dX1_ask_121 rfl (fun h121 => absurd h121 (nI_ge hi (by decide))) (fun h121 => ?_)
        have q121 := bb_lt h121
        refine lv_iload_n hx hb dX1_ask_124 rfl (lv_at hl 1 rfl) ?_
        refine lv_iload hx hb dX1_ask_125 (lv_at hl 5 rfl) ?_
        refine lv_ishr hx hb dX1_ask_127 ?_
        refine lv_iconst (v := 1) hx hb dX1_ask_128 (by decide) ?_
        refine lv_iand hx hb dX1_ask_129 ?_
        refine lv_iconst (v := 1) hx hb dX1_ask_130 (by decide) ?_
        refine lv_icmp_ne (tgt := 156) hx hb dX1_ask_131 rfl (fun h131 => ?_) (fun h131 => ?_)
        · skip
          refine lv_iinc (v := nI (i + 1)) (lv' := [(6, .int (nI (i + 1))), (0, .ref g0), (1, .int (nI a)), (2, .int (nI b)), (4, .int (bb_fn (nI a) vt j (bb_fo (nI a) vt j) i)), (5, .int (nI j))]) hx hb dX1_ask_156 hl (k := 5) rfl (bb_inc _) (by decide) rfl (fun ls hl => ?_)
          refine lv_goto (tgt := 117) hx hb dX1_ask_159 rfl ?_
          have hl : lv_has ls 7 [(0, .ref g0), (1, .int (nI a)), (2, .int (nI b)), (4, .int (bb_fn (nI a) vt j (bb_fo (nI a) vt j) i)), (5, .int (nI j)), (6, .int (nI (i + 1)))] := lv_sub hl [1, 2, 3, 4, 5, 0] rfl
          have e4 : (bb_fn (nI a) vt j (bb_fo (nI a) vt j) i) = bb_fn (nI a) vt j (bb_fo (nI a) vt j) (i + 1) := by simp [bb_fn, bb_hb, h8, h17, h32, h46, q46, h89, h93, h111, q111, h121, q121, h131]
          have hl : lv_has ls 7 [(0, .ref g0), (1, .int (nI a)), (2, .int (nI b)), (4, .int (bb_fn (nI a) vt j (bb_fo (nI a) vt j) (i + 1))), (5, .int (nI j)), (6, .int (nI (i + 1)))] := by rw [← e4]; exact hl
          exact ihi ls hl
        · skip
          refine lv_aload_n hx hb dX1_ask_134 rfl (lv_at hl 0 rfl) ?_
          refine lv_iload hx hb dX1_ask_135 (lv_at hl 5 rfl) ?_
          refine lv_iload hx hb dX1_ask_137 (lv_at hl 4 rfl) ?_
          refine bb_cV (As := [.int (nI i), .int (nI j)]) (rest := []) (r := vt (31 * i + j)) 0 ⟨hx, hb, hml, hown, hts⟩ (m_voteOf l dC dI cA g0 b0 b1 b2 w pr vt k 0 i j (by omega) (by omega)) (cwV 2 hts gX1_ask_X1_voteOf rfl rfl rfl (by decide +kernel) ⟨Nat.le_of_ble_eq_true rfl, Nat.le_of_ble_eq_true rfl⟩) hP hK rfl rfl rfl hl.1 rfl (Nat.le_of_ble_eq_true rfl) dX1_ask_139 (Nat.zero_le _) (Nat.zero_le _) ?_
          refine lv_iconst (v := (-1)) hx hb dX1_ask_142 (by decide) ?_
          refine lv_icmp_eq (tgt := 156) hx hb dX1_ask_143 rfl (fun h143 => ?_) (fun h143 => ?_)
          · skip
            refine lv_iinc (v := nI (i + 1)) (lv' := [(6, .int (nI (i + 1))), (0, .ref g0), (1, .int (nI a)), (2, .int (nI b)), (4, .int (bb_fn (nI a) vt j (bb_fo (nI a) vt j) i)), (5, .int (nI j))]) hx hb dX1_ask_156 hl (k := 5) rfl (bb_inc _) (by decide) rfl (fun ls hl => ?_)
            refine lv_goto (tgt := 117) hx hb dX1_ask_159 rfl ?_
            have hl : lv_has ls 7 [(0, .ref g0), (1, .int (nI a)), (2, .int (nI b)), (4, .int (bb_fn (nI a) vt j (bb_fo (nI a) vt j) i)), (5, .int (nI j)), (6, .int (nI (i + 1)))] := lv_sub hl [1, 2, 3, 4, 5, 0] rfl
            have e5 : (bb_fn (nI a) vt j (bb_fo (nI a) vt j) i) = bb_fn (nI a) vt j (bb_fo (nI a) vt j) (i + 1) := by simp [bb_fn, bb_hb, h8, h17, h32, h46, q46, h89, h93, h111, q111, h121, q121, h131, h143]
            have hl : lv_has ls 7 [(0, .ref g0), (1, .int (nI a)), (2, .int (nI b)), (4, .int (bb_fn (nI a) vt j (bb_fo (nI a) vt j) (i + 1))), (5, .int (nI j)), (6, .int (nI (i + 1)))] := by rw [← e5]; exact hl
            exact ihi ls hl
          · skip
            refine lv_aload_n hx hb dX1_ask_146 rfl (lv_at hl 0 rfl) ?_
            refine lv_iload hx hb dX1_ask_147 (lv_at hl 5 rfl) ?_
            refine lv_iload hx hb dX1_ask_149 (lv_at hl 4 rfl) ?_
            refine bb_cV (As := [.int (nI i), .int (nI j)]) (rest := []) (r := vt (31 * i + j)) 0 ⟨hx, hb, hml, hown, hts⟩ (m_voteOf l dC dI cA g0 b0 b1 b2 w pr vt k 0 i j (by omega) (by omega)) (cwV 2 hts gX1_ask_X1_voteOf rfl rfl rfl (by decide +kernel) ⟨Nat.le_of_ble_eq_true rfl, Nat.le_of_ble_eq_true rfl⟩) hP hK rfl rfl rfl hl.1 rfl (Nat.le_of_ble_eq_true rfl) dX1_ask_151 (Nat.zero_le _) (Nat.zero_le _) ?_
            refine lv_istore (lv' := [(4, .int (vt (31 * i + j))), (0, .ref g0), (1, .int (nI a)), (2, .int (nI b)), (5, .int (nI j)), (6, .int (nI i))]) hx hb dX1_ask_154 hl (by decide) rfl (fun ls hl => ?_)
            refine lv_iinc (v := nI (i + 1)) (lv' := [(6, .int (nI (i + 1))), (4, .int (vt (31 * i + j))), (0, .ref g0), (1, .int (nI a)), (2, .int (nI b)), (5, .int (nI j))]) hx hb dX1_ask_156 hl (k := 5) rfl (bb_inc _) (by decide) rfl (fun ls hl => ?_)
            refine lv_goto (tgt := 117) hx hb dX1_ask_159 rfl ?_
            have hl : lv_has ls 7 [(0, .ref g0), (1, .int (nI a)), (2, .int (nI b)), (4, .int (vt (31 * i + j))), (5, .int (nI j)), (6, .int (nI (i + 1)))] := lv_sub hl [2, 3, 4, 1, 5, 0] rfl
            have e6 : (vt (31 * i + j)) = bb_fn (nI a) vt j (bb_fo (nI a) vt j) (i + 1) := by simp [bb_fn, bb_hb, h8, h17, h32, h46, q46, h89, h93, h111, q111, h121, q121, h131, h143]
            have hl : lv_has ls 7 [(0, .ref g0), (1, .int (nI a)), (2, .int (nI b)), (4, .int (bb_fn (nI a) vt j (bb_fo (nI a) vt j) (i + 1))), (5, .int (nI j)), (6, .int (nI (i + 1)))] := by rw [← e6]; exact hl
            exact ihi ls hl
      · skip
        intro ls hI
        have hl := hI
        refine lv_iload hx hb dX1_ask_117 (lv_at hl 5 rfl) ?_
        refine lv_bipush (v := nI 10) hx hb dX1_ask_119 (by decide) ?_
        refine lv_icmp_ge (tgt := 162) hx hb dX1_ask_121 rfl (fun h121 => ?_) (fun h121 => absurd (nI_le (Nat.le_refl _) (by decide)) h121)
        have q121 := bb_nlt h121
        refine lv_iinc (v := nI (j + 1)) (lv' := [(5, .int (nI (j + 1))), (0, .ref g0), (1, .int (nI a)), (2, .int (nI b)), (4, .int (bb_fn (nI a) vt j (bb_fo (nI a) vt j) 10)), (6, .int (nI 10))]) hx hb dX1_ask_162 hl (k := 4) rfl (bb_inc _) (by decide) rfl (fun ls hl => ?_)
        refine lv_goto (tgt := 108) hx hb dX1_ask_165 rfl ?_
        have hl : lv_has ls 7 [(0, .ref g0), (1, .int (nI a)), (2, .int (nI b)), (4, .int (bb_fn (nI a) vt j (bb_fo (nI a) vt j) 10)), (5, .int (nI (j + 1)))] := lv_sub hl [1, 2, 3, 4, 0] rfl
        have e7 : (bb_fn (nI a) vt j (bb_fo (nI a) vt j) 10) = bb_fo (nI a) vt (j + 1) := by rfl
        have hl : lv_has ls 7 [(0, .ref g0), (1, .int (nI a)), (2, .int (nI b)), (4, .int (bb_fo (nI a) vt (j + 1))), (5, .int (nI (j + 1)))] := by rw [← e7]; exact hl
        exact ihj ls hl
    · skip
      intro ls hI
      have hl := hI
      refine lv_iload hx hb dX1_ask_108 (lv_at hl 4 rfl) ?_
      refine lv_iload_n hx hb dX1_ask_110 rfl (lv_at hl 2 rfl) ?_
      refine lv_icmp_ge (tgt := 168) hx hb dX1_ask_111 rfl (fun h111 => ?_) (fun h111 => absurd (nI_le (Nat.le_refl _) (by omega)) h111)
      have q111 := bb_nlt h111
      refine lv_iconst (v := 0) hx hb dX1_ask_168 (by decide) ?_
      refine lv_istore (lv' := [(5, .int 0), (0, .ref g0), (1, .int (nI a)), (2, .int (nI b)), (4, .int (bb_fo (nI a) vt b))]) hx hb dX1_ask_169 hl (by decide) rfl (fun ls hl => ?_)
      have hl : lv_has ls 7 [(0, .ref g0), (1, .int (nI a)), (2, .int (nI b)), (4, .int (bb_fo (nI a) vt b)), (5, .int 0)] := lv_sub hl [1, 2, 3, 4, 0] rfl
      refine bb_forHW (pc := 171) (I := fun j9 ls H L => lv_has ls 7 [(0, .ref g0), (1, .int (nI a)), (2, .int (nI b)), (4, .int (bb_fo (nI a) vt b)), (5, .int (nI j9))] ∧ va_P (dC, dI) vwCl [(g0, .inr (1, [.ref b0, .ref b1, .ref b2, .int k, .int 0])), (b0, .inl (cA, 10, .inl w)), (b1, .inl (cA, 10, .inl (bb_pal pr (nI a) (nI b) j9))), (b2, .inl (cA, 310, .inl vt))] H ∧ va_D A [(g0, .inr (1, [.ref b0, .ref b1, .ref b2, .int k, .int 0])), (b0, .inl (cA, 10, .inl w)), (b1, .inl (cA, 10, .inl (bb_pal pr (nI a) (nI b) j9))), (b2, .inl (cA, 310, .inl vt))] ∧ va_S A s.heap H L) 10 ?_ ?_ 0 ls H locs (Nat.zero_le _) ⟨hl, hP, hD, hS⟩
      · skip
        intro i ls H locs hi hI ihi
        obtain ⟨hl, hP, hD, hS⟩ := hI
        refine lv_iload hx hb dX1_ask_171 (lv_at hl 4 rfl) ?_
        refine lv_bipush (v := nI 10) hx hb dX1_ask_173 (by decide) ?_
        refine lv_icmp_ge (tgt := 202) hx hb dX1_ask_175 rfl (fun h175 => absurd h175 (nI_ge hi (by decide))) (fun h175 => ?_)
        have q175 := bb_lt h175
        refine lv_iload_n hx hb dX1_ask_178 rfl (lv_at hl 1 rfl) ?_
        refine lv_iload hx hb dX1_ask_179 (lv_at hl 4 rfl) ?_
        refine lv_ishr hx hb dX1_ask_181 ?_
        refine lv_iconst (v := 1) hx hb dX1_ask_182 (by decide) ?_
        refine lv_iand hx hb dX1_ask_183 ?_
        refine lv_iconst (v := 1) hx hb dX1_ask_184 (by decide) ?_
        refine lv_icmp_ne (tgt := 196) hx hb dX1_ask_185 rfl (fun h185 => ?_) (fun h185 => ?_)
        · skip
          refine lv_iinc (v := nI (i + 1)) (lv' := [(5, .int (nI (i + 1))), (0, .ref g0), (1, .int (nI a)), (2, .int (nI b)), (4, .int (bb_fo (nI a) vt b))]) hx hb dX1_ask_196 hl (k := 4) rfl (bb_inc _) (by decide) rfl (fun ls hl => ?_)
          refine lv_goto (tgt := 171) hx hb dX1_ask_199 rfl ?_
          have hl : lv_has ls 7 [(0, .ref g0), (1, .int (nI a)), (2, .int (nI b)), (4, .int (bb_fo (nI a) vt b)), (5, .int (nI (i + 1)))] := lv_sub hl [1, 2, 3, 4, 0] rfl
          have e8 : bb_pal pr (nI a) (nI b) i = bb_pal pr (nI a) (nI b) (i + 1) := by simp [bb_pal, bb_hb, h8, h17, h32, h46, q46, h89, h93, h111, q111, h175, q175, h185]
          have hP : va_P (dC, dI) vwCl [(g0, .inr (1, [.ref b0, .ref b1, .ref b2, .int k, .int 0])), (b0, .inl (cA, 10, .inl w)), (b1, .inl (cA, 10, .inl (bb_pal pr (nI a) (nI b) (i + 1)))), (b2, .inl (cA, 310, .inl vt))] H := by rw [← e8]; exact hP
          have hD : va_D A [(g0, .inr (1, [.ref b0, .ref b1, .ref b2, .int k, .int 0])), (b0, .inl (cA, 10, .inl w)), (b1, .inl (cA, 10, .inl (bb_pal pr (nI a) (nI b) (i + 1)))), (b2, .inl (cA, 310, .inl vt))] := by rw [← e8]; exact hD
          exact ihi ls H locs ⟨hl, hP, hD, hS⟩
        · skip
          refine lv_aload_n hx hb dX1_ask_188 rfl (lv_at hl 0 rfl) ?_
          refine va_get (D := (dC, dI)) (ci := 1) (v := .ref b1) (C := RX1) (T := TX1) (N := 5) hx hb hts hin hown hK hP 0 rfl rfl 1 (by decide) hf13 (fun _ h9 => h9) rfl dX1_ask_189 ?_
          refine lv_iload hx hb dX1_ask_192 (lv_at hl 4 rfl) ?_
          refine lv_iload_n hx hb dX1_ask_194 rfl (lv_at hl 2 rfl) ?_
          refine bb_ast hx hb hK hP hD hS 2 0 rfl rfl i (by omega) (by decide) dX1_ask_195 (fun H locs hP hD hS => ?_)
          have hP : va_P (dC, dI) vwCl [(g0, .inr (1, [.ref b0, .ref b1, .ref b2, .int k, .int 0])), (b0, .inl (cA, 10, .inl w)), (b1, .inl (cA, 10, .inl (upd (bb_pal pr (nI a) (nI b) i) i (nI b)))), (b2, .inl (cA, 310, .inl vt))] H := hP
          have hD : va_D A [(g0, .inr (1, [.ref b0, .ref b1, .ref b2, .int k, .int 0])), (b0, .inl (cA, 10, .inl w)), (b1, .inl (cA, 10, .inl (upd (bb_pal pr (nI a) (nI b) i) i (nI b)))), (b2, .inl (cA, 310, .inl vt))] := hD
          refine lv_iinc (v := nI (i + 1)) (lv' := [(5, .int (nI (i + 1))), (0, .ref g0), (1, .int (nI a)), (2, .int (nI b)), (4, .int (bb_fo (nI a) vt b))]) hx hb dX1_ask_196 hl (k := 4) rfl (bb_inc _) (by decide) rfl (fun ls hl => ?_)
          refine lv_goto (tgt := 171) hx hb dX1_ask_199 rfl ?_
          have hl : lv_has ls 7 [(0, .ref g0), (1, .int (nI a)), (2, .int (nI b)), (4, .int (bb_fo (nI a) vt b)), (5, .int (nI (i + 1)))] := lv_sub hl [1, 2, 3, 4, 0] rfl
          have e9 : upd (bb_pal pr (nI a) (nI b) i) i (nI b) = bb_pal pr (nI a) (nI b) (i + 1) := by simp [bb_pal, bb_hb, h8, h17, h32, h46, q46, h89, h93, h111, q111, h175, q175, h185]
          have hP : va_P (dC, dI) vwCl [(g0, .inr (1, [.ref b0, .ref b1, .ref b2, .int k, .int 0])), (b0, .inl (cA, 10, .inl w)), (b1, .inl (cA, 10, .inl (bb_pal pr (nI a) (nI b) (i + 1)))), (b2, .inl (cA, 310, .inl vt))] H := by rw [← e9]; exact hP
          have hD : va_D A [(g0, .inr (1, [.ref b0, .ref b1, .ref b2, .int k, .int 0])), (b0, .inl (cA, 10, .inl w)), (b1, .inl (cA, 10, .inl (bb_pal pr (nI a) (nI b) (i + 1)))), (b2, .inl (cA, 310, .inl vt))] := by rw [← e9]; exact hD
          exact ihi ls H locs ⟨hl, hP, hD, hS⟩
      · skip
        intro ls H locs hI
        obtain ⟨hl, hP, hD, hS⟩ := hI
        refine lv_iload hx hb dX1_ask_171 (lv_at hl 4 rfl) ?_
        refine lv_bipush (v := nI 10) hx hb dX1_ask_173 (by decide) ?_
        refine lv_icmp_ge (tgt := 202) hx hb dX1_ask_175 rfl (fun h175 => ?_) (fun h175 => absurd (nI_le (Nat.le_refl _) (by decide)) h175)
        have q175 := bb_nlt h175
        refine lv_iload hx hb dX1_ask_202 (lv_at hl 3 rfl) ?_
        exact W.iret (v := bb_fo (nI a) vt b) hx hb hr (fun t ht _ => ⟨⟨bb_fo (nI a) vt b, (), rfl, rfl, by show va_P _ _ _ t.heap; rw [ht]; exact hP⟩, hS.F ht⟩) hS.2.2 dX1_ask_204

set_option maxHeartbeats 4000000 in
set_option maxRecDepth 100000 in
theorem r_ask1 (l : Launch) (dC : Nat → ClassId) (dI : Nat → Nat → Nat) (cA : ClassId) (g0 b0 b1 b2 : Nat) (w pr vt : Nat → Int32) (k th : Int32) (sz : Nat) (x0 x1 : Int32) (hbad : (bb_out x0 (nI 1024) || bb_out x1 (nI 31)) = true) : Met l yX1_ask wsX1_ask ({ frames := 1, cells := 0, slots := 0, locals := 23 }) (bb_Pm [.ref g0, .int x0, .int x1] (dC, dI) vwCl [(g0, .inr (1, [.ref b0, .ref b1, .ref b2, .int k, .int th])), (b0, .inl (cA, 10, .inl w)), (b1, .inl (cA, 10, .inl pr)), (b2, .inl (cA, 310, .inl vt))] [(cA, .int)] sz) (bb_Qm (0) (dC, dI) vwCl [(g0, .inr (1, [.ref b0, .ref b1, .ref b2, .int k, .int 1])), (b0, .inl (cA, 10, .inl w)), (b1, .inl (cA, 10, .inl pr)), (b2, .inl (cA, 310, .inl vt))] (va_A [(g0, .inr (1, [.ref b0, .ref b1, .ref b2, .int k, .int th])), (b0, .inl (cA, 10, .inl w)), (b1, .inl (cA, 10, .inl pr)), (b2, .inl (cA, 310, .inl vt))] sz)) 0 0 (va_A [(g0, .inr (1, [.ref b0, .ref b1, .ref b2, .int k, .int th])), (b0, .inl (cA, 10, .inl w)), (b1, .inl (cA, 10, .inl pr)), (b2, .inl (cA, 310, .inl vt))] sz) := by
  refine Met.ofW (cc := cX1_ask) (maxL := 7) (ret := some .int) (by decide) rfl ?_
  intro p e s m args below meth c s₁ B hml hv
  obtain ⟨rfl, hsz, hP, hK, hD0⟩ := hv
  have hx := B.exec
  have hb := B.bytes
  have hr := B.returns
  have hts := atoms_spec (ws := wsX1_ask) B.pre
  have hown : s.vm.findClass RX1 = some m.cls := findClass_of_methodNamed B.named
  have hlocks := B.notSynchronized
  subst hsz
  have hD := hD0.self (sz := s.heap.size)
  generalize hAe : va_A [(g0, .inr (1, [.ref b0, .ref b1, .ref b2, .int k, .int th])), (b0, .inl (cA, 10, .inl w)), (b1, .inl (cA, 10, .inl pr)), (b2, .inl (cA, 310, .inl vt))] s.heap.size = A at hD ⊢
  have hA : ∀ q : Nat, s.heap.size ≤ q → A q := fun q h => by rw [← hAe]; exact Or.inr h
  have hin : ∀ w9 ∈ u_ws RX1 TX1 5, w9 ∈ wsX1_ask := fun w9 h9 => List.mem_cons_of_mem _ (bb_inX1 w9 h9)
  have hf23 := hts _ (List.mem_cons_of_mem _ bb_fX1_23)
  have hl := lv_entry ([.ref g0, .int x0, .int x1]) (n := 7) (Nat.le_of_ble_eq_true rfl)
  rw [lg_entry_eq]
  generalize (lg_sl ([.ref g0, .int x0, .int x1]) ++ List.replicate (7 - (lg_sl ([.ref g0, .int x0, .int x1])).length) Slot.unset).toArray = ls at hl ⊢
  have hl : lv_has ls 7 [(0, .ref g0), (1, .int x0), (2, .int x1)] := hl
  refine bb_gen hP hD (fun H locs hP hD hS => ?_)
  refine lv_aload_n hx hb dX1_ask_0 rfl (lv_at hl 0 rfl) ?_
  refine lv_iload_n hx hb dX1_ask_1 rfl (lv_at hl 1 rfl) ?_
  refine lv_sipush (v := nI 1024) hx hb dX1_ask_2 (by decide) ?_
  refine bb_cS (As := [.int x0, .int (nI 1024)]) (rest := [.ref g0]) (r := bb_I (bb_out x0 (nI 1024))) ⟨hx, hb, hml, hown, hts⟩ (m_out l x0 (nI 1024)) (cwS 2 hts gX1_ask_X1_out rfl rfl rfl (by decide +kernel) ⟨Nat.le_of_ble_eq_true rfl, Nat.le_of_ble_eq_true rfl⟩) rfl hl.1 rfl (Nat.le_of_ble_eq_true rfl) dX1_ask_5 (Nat.zero_le _) (Nat.zero_le _) ?_
  refine lv_if_ne (tgt := 20) hx hb dX1_ask_8 rfl (fun h8 => ?_) (fun h8 => ?_)
  · skip
    have q8 := bb_nz h8
    refine lv_iconst (v := 1) hx hb dX1_ask_20 (by decide) ?_
    refine lv_goto (tgt := 25) hx hb dX1_ask_21 rfl ?_
    refine va_put (D := (dC, dI)) (ci := 1) (v := .int 1) (ty := .int) (C := RX1) (T := TX1) (N := 5) hx hb hts hin tyX1 tyX1_ok nX1 hown hK hP hD hS 0 rfl rfl 4 (by decide) hf23 (fun _ h9 => h9) rfl (by decide +kernel) rfl rfl (Nat.le_of_ble_eq_true rfl) dX1_ask_25 (fun H locs hP hD hS => ?_)
    have hP : va_P (dC, dI) vwCl [(g0, .inr (1, [.ref b0, .ref b1, .ref b2, .int k, .int 1])), (b0, .inl (cA, 10, .inl w)), (b1, .inl (cA, 10, .inl pr)), (b2, .inl (cA, 310, .inl vt))] H := hP
    have hD : va_D A [(g0, .inr (1, [.ref b0, .ref b1, .ref b2, .int k, .int 1])), (b0, .inl (cA, 10, .inl w)), (b1, .inl (cA, 10, .inl pr)), (b2, .inl (cA, 310, .inl vt))] := hD
    refine lv_aload_n hx hb dX1_ask_28 rfl (lv_at hl 0 rfl) ?_
    refine va_get (D := (dC, dI)) (ci := 1) (v := .int 1) (C := RX1) (T := TX1) (N := 5) hx hb hts hin hown hK hP 0 rfl rfl 4 (by decide) hf23 (fun _ h9 => h9) rfl dX1_ask_29 ?_
    refine lv_if_le (tgt := 37) hx hb dX1_ask_32 rfl (fun h32 => absurd h32 (by decide)) (fun h32 => ?_)
    refine lv_iconst (v := 0) hx hb dX1_ask_35 (by decide) ?_
    exact W.iret (v := 0) hx hb hr (fun t ht _ => ⟨⟨0, (), rfl, rfl, by show va_P _ _ _ t.heap; rw [ht]; exact hP⟩, hS.F ht⟩) hS.2.2 dX1_ask_36
  · skip
    have q8 := bb_I_0.mp h8
    refine lv_iload_n hx hb dX1_ask_11 rfl (lv_at hl 2 rfl) ?_
    refine lv_bipush (v := nI 31) hx hb dX1_ask_12 (by decide) ?_
    refine bb_cS (As := [.int x1, .int (nI 31)]) (rest := [.ref g0]) (r := bb_I (bb_out x1 (nI 31))) ⟨hx, hb, hml, hown, hts⟩ (m_out l x1 (nI 31)) (cwS 2 hts gX1_ask_X1_out rfl rfl rfl (by decide +kernel) ⟨Nat.le_of_ble_eq_true rfl, Nat.le_of_ble_eq_true rfl⟩) rfl hl.1 rfl (Nat.le_of_ble_eq_true rfl) dX1_ask_14 (Nat.zero_le _) (Nat.zero_le _) ?_
    refine lv_if_eq (tgt := 24) hx hb dX1_ask_17 rfl (fun h17 => absurd hbad (by simp [bb_I_0.mp h17, q8])) (fun h17 => ?_)
    have q17 := bb_nz h17
    refine lv_iconst (v := 1) hx hb dX1_ask_20 (by decide) ?_
    refine lv_goto (tgt := 25) hx hb dX1_ask_21 rfl ?_
    refine va_put (D := (dC, dI)) (ci := 1) (v := .int 1) (ty := .int) (C := RX1) (T := TX1) (N := 5) hx hb hts hin tyX1 tyX1_ok nX1 hown hK hP hD hS 0 rfl rfl 4 (by decide) hf23 (fun _ h9 => h9) rfl (by decide +kernel) rfl rfl (Nat.le_of_ble_eq_true rfl) dX1_ask_25 (fun H locs hP hD hS => ?_)
    have hP : va_P (dC, dI) vwCl [(g0, .inr (1, [.ref b0, .ref b1, .ref b2, .int k, .int 1])), (b0, .inl (cA, 10, .inl w)), (b1, .inl (cA, 10, .inl pr)), (b2, .inl (cA, 310, .inl vt))] H := hP
    have hD : va_D A [(g0, .inr (1, [.ref b0, .ref b1, .ref b2, .int k, .int 1])), (b0, .inl (cA, 10, .inl w)), (b1, .inl (cA, 10, .inl pr)), (b2, .inl (cA, 310, .inl vt))] := hD
    refine lv_aload_n hx hb dX1_ask_28 rfl (lv_at hl 0 rfl) ?_
    refine va_get (D := (dC, dI)) (ci := 1) (v := .int 1) (C := RX1) (T := TX1) (N := 5) hx hb hts hin hown hK hP 0 rfl rfl 4 (by decide) hf23 (fun _ h9 => h9) rfl dX1_ask_29 ?_
    refine lv_if_le (tgt := 37) hx hb dX1_ask_32 rfl (fun h32 => absurd h32 (by decide)) (fun h32 => ?_)
    refine lv_iconst (v := 0) hx hb dX1_ask_35 (by decide) ?_
    exact W.iret (v := 0) hx hb hr (fun t ht _ => ⟨⟨0, (), rfl, rfl, by show va_P _ _ _ t.heap; rw [ht]; exact hP⟩, hS.F ht⟩) hS.2.2 dX1_ask_36
