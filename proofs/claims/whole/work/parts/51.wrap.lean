/-! the law's own methods -/
theorem bb_u107 : Cond.classLink RL 13 NSE ∈ bb_T := bb_tb 107 (by decide +kernel) (by decide +kernel)
theorem bb_u108 : Cond.classLink RL 15 IAE ∈ bb_T := bb_tb 108 (by decide +kernel) (by decide +kernel)
theorem bb_u211 : Cond.classLink RL 24 ISE ∈ bb_T := bb_tb 211 (by decide +kernel) (by decide +kernel)

set_option maxHeartbeats 4000000 in
set_option maxRecDepth 100000 in
theorem w_weight (l : Launch) (dC : Nat → ClassId) (dI : Nat → Nat → Nat) (cA cL : ClassId) (h0 a0 a1 a2 a3 o0 : Nat) (w pr vo vf : Nat → Int32) (k : Int32) (fo : Nat → Int64) (sz : Nat) (n : Nat) (hn0 : n < 10) (a : Nat) (ha0 : a ≤ 50) : Met l yL_weight wsL_weight ({ frames := 8, cells := 0, slots := 0, locals := 160 }) (va_Pc [.ref h0, .int (nI n), .int (nI a), .ref o0] (fun U => U.heap.size = sz ∧ va_P (dC, dI) vwCl [(h0, .inr (0, [.ref a0, .ref a1, .ref a2, .ref a3, .int k])), (a0, .inl (cA, 10, .inl w)), (a1, .inl (cA, 10, .inl pr)), (a2, .inl (cA, 31, .inl vo)), (a3, .inl (cA, 31, .inl vf)), (o0, .inl (cL, 1, .inr (.inl fo)))] U.heap ∧ va_K (dC, dI) vwCl [(cA, .int), (cL, .long)] U ∧ va_D (fun _ => True) [(h0, .inr (0, [.ref a0, .ref a1, .ref a2, .ref a3, .int k])), (a0, .inl (cA, 10, .inl w)), (a1, .inl (cA, 10, .inl pr)), (a2, .inl (cA, 31, .inl vo)), (a3, .inl (cA, 31, .inl vf)), (o0, .inl (cL, 1, .inr (.inl fo)))] ∧ True)) (bb_Qm 0 (dC, dI) vwCl [(h0, .inr (0, [.ref a0, .ref a1, .ref a2, .ref a3, .int k])), (a0, .inl (cA, 10, .inl (upd w n (nI a)))), (a1, .inl (cA, 10, .inl pr)), (a2, .inl (cA, 31, .inl vo)), (a3, .inl (cA, 31, .inl vf)), (o0, .inl (cL, 1, .inr (.inl (fun _ => (w n).toInt64))))] (va_A [(h0, .inr (0, [.ref a0, .ref a1, .ref a2, .ref a3, .int k])), (a0, .inl (cA, 10, .inl w)), (a1, .inl (cA, 10, .inl pr)), (a2, .inl (cA, 31, .inl vo)), (a3, .inl (cA, 31, .inl vf)), (o0, .inl (cL, 1, .inr (.inl fo)))] sz)) 0 0 (va_A [(h0, .inr (0, [.ref a0, .ref a1, .ref a2, .ref a3, .int k])), (a0, .inl (cA, 10, .inl w)), (a1, .inl (cA, 10, .inl pr)), (a2, .inl (cA, 31, .inl vo)), (a3, .inl (cA, 31, .inl vf)), (o0, .inl (cL, 1, .inr (.inl fo)))] sz) := by
  refine va_MetW (cc := cL_weight) (maxL := 5) (ret := some .int) (by decide) rfl ?_
  intro p e s m args below meth c s₁ B hml hv
  obtain ⟨rfl, hsz, hP, hK, hD0, -⟩ := hv
  have hx := B.exec
  have hb := B.bytes
  have hr := B.returns
  have hts := atoms_spec (ws := wsL_weight) B.pre
  have hown : s.vm.findClass RL = some m.cls := findClass_of_methodNamed B.named
  have hlocks := B.notSynchronized
  subst hsz
  have hK1 := hK.sub [0] (tys' := [(cA, .int)]) rfl
  have hD := hD0.self (sz := s.heap.size)
  generalize hAe : va_A [(h0, .inr (0, [.ref a0, .ref a1, .ref a2, .ref a3, .int k])), (a0, .inl (cA, 10, .inl w)), (a1, .inl (cA, 10, .inl pr)), (a2, .inl (cA, 31, .inl vo)), (a3, .inl (cA, 31, .inl vf)), (o0, .inl (cL, 1, .inr (.inl fo)))] s.heap.size = A at hD ⊢
  have hA : ∀ q : Nat, s.heap.size ≤ q → A q := fun q h => by rw [← hAe]; exact Or.inr h
  have hl := lv_entry ([.ref h0, .int (nI n), .int (nI a), .ref o0]) (n := 5) (Nat.le_of_ble_eq_true rfl)
  rw [lg_entry_eq]
  generalize (lg_sl ([.ref h0, .int (nI n), .int (nI a), .ref o0]) ++ List.replicate (5 - (lg_sl ([.ref h0, .int (nI n), .int (nI a), .ref o0])).length) Slot.unset).toArray = ls at hl ⊢
  have hl : lv_has ls 5 [(0, .ref h0), (1, .int (nI n)), (2, .int (nI a)), (3, .ref o0)] := hl
  refine bb_gen hP hD (fun H locs hP hD hS => ?_)
  refine lv_aload_n hx hb dL_weight_0 rfl (lv_at hl 3 rfl) ?_
  refine lv_iconst (v := nI 0) hx hb dL_weight_1 (by decide) ?_
  refine lv_aload_n hx hb dL_weight_2 rfl (lv_at hl 0 rfl) ?_
  refine lv_iload_n hx hb dL_weight_3 rfl (lv_at hl 1 rfl) ?_
  refine lv_iload_n hx hb dL_weight_4 rfl (lv_at hl 2 rfl) ?_
  have hPc : va_P (dC, dI) vwCl [(h0, .inr (0, [.ref a0, .ref a1, .ref a2, .ref a3, .int k])), (a0, .inl (cA, 10, .inl w)), (a1, .inl (cA, 10, .inl pr)), (a2, .inl (cA, 31, .inl vo)), (a3, .inl (cA, 31, .inl vf))] H := bb_Pmid (pre := []) (wc := [(h0, .inr (0, [.ref a0, .ref a1, .ref a2, .ref a3, .int k])), (a0, .inl (cA, 10, .inl w)), (a1, .inl (cA, 10, .inl pr)), (a2, .inl (cA, 31, .inl vo)), (a3, .inl (cA, 31, .inl vf))]) (post := [(o0, .inl (cL, 1, .inr (.inl fo)))]) hP
  refine bb_cVf (As := [.int (nI n), .int (nI a)]) (rest := [.int (nI 0), .ref o0]) (r := w n) (pre := []) (wc := [(h0, .inr (0, [.ref a0, .ref a1, .ref a2, .ref a3, .int k])), (a0, .inl (cA, 10, .inl w)), (a1, .inl (cA, 10, .inl pr)), (a2, .inl (cA, 31, .inl vo)), (a3, .inl (cA, 31, .inl vf))]) (post := [(o0, .inl (cL, 1, .inr (.inl fo)))]) (wc' := [(h0, .inr (0, [.ref a0, .ref a1, .ref a2, .ref a3, .int k])), (a0, .inl (cA, 10, .inl (upd w n (nI a)))), (a1, .inl (cA, 10, .inl pr)), (a2, .inl (cA, 31, .inl vo)), (a3, .inl (cA, 31, .inl vf))]) 0 ⟨hx, hb, hml, hown, hts⟩ (j_weight l dC dI cA h0 a0 a1 a2 a3 w pr vo vf k H.size n hn0 a ha0) (cwV 2 hts gL_weight_X0_weight rfl rfl rfl (by decide +kernel) ⟨Nat.le_of_ble_eq_true rfl, Nat.le_of_ble_eq_true rfl⟩) hP hK1 hD hS hA rfl rfl rfl rfl hl.1 rfl (Nat.le_of_ble_eq_true rfl) dL_weight_5 (Nat.le_of_ble_eq_true rfl) (Nat.le_of_ble_eq_true rfl) (fun H locs hP hD hS => ?_)
  have hP : va_P (dC, dI) vwCl [(h0, .inr (0, [.ref a0, .ref a1, .ref a2, .ref a3, .int k])), (a0, .inl (cA, 10, .inl (upd w n (nI a)))), (a1, .inl (cA, 10, .inl pr)), (a2, .inl (cA, 31, .inl vo)), (a3, .inl (cA, 31, .inl vf)), (o0, .inl (cL, 1, .inr (.inl fo)))] H := hP
  have hD : va_D A [(h0, .inr (0, [.ref a0, .ref a1, .ref a2, .ref a3, .int k])), (a0, .inl (cA, 10, .inl (upd w n (nI a)))), (a1, .inl (cA, 10, .inl pr)), (a2, .inl (cA, 31, .inl vo)), (a3, .inl (cA, 31, .inl vf)), (o0, .inl (cL, 1, .inr (.inl fo)))] := hD
  refine lv_i2l (v := (w n).toInt64) hx hb dL_weight_8 rfl ?_
  refine va_last hx hb hK hP hD hS 5 1 rfl rfl (vp_in_nI (by decide) (by decide)) dL_weight_9 (fun H locs hP hD hS => ?_)
  have hP : va_P (dC, dI) vwCl [(h0, .inr (0, [.ref a0, .ref a1, .ref a2, .ref a3, .int k])), (a0, .inl (cA, 10, .inl (upd w n (nI a)))), (a1, .inl (cA, 10, .inl pr)), (a2, .inl (cA, 31, .inl vo)), (a3, .inl (cA, 31, .inl vf)), (o0, .inl (cL, 1, .inr (.inl (vp_updL fo (nI 0).toNatClampNeg ((w n).toInt64)))))] H := hP
  have hD : va_D A [(h0, .inr (0, [.ref a0, .ref a1, .ref a2, .ref a3, .int k])), (a0, .inl (cA, 10, .inl (upd w n (nI a)))), (a1, .inl (cA, 10, .inl pr)), (a2, .inl (cA, 31, .inl vo)), (a3, .inl (cA, 31, .inl vf)), (o0, .inl (cL, 1, .inr (.inl (vp_updL fo (nI 0).toNatClampNeg ((w n).toInt64)))))] := hD
  refine lv_goto (tgt := 21) hx hb dL_weight_10 rfl ?_
  refine lv_iconst (v := 0) hx hb dL_weight_21 (by decide) ?_
  have hP := bb_P_extL (g := (fun _ => (w n).toInt64)) hP hD (q0 := 5) rfl (fun j9 h9 => bb_upL h9)
  have hP : va_P (dC, dI) vwCl [(h0, .inr (0, [.ref a0, .ref a1, .ref a2, .ref a3, .int k])), (a0, .inl (cA, 10, .inl (upd w n (nI a)))), (a1, .inl (cA, 10, .inl pr)), (a2, .inl (cA, 31, .inl vo)), (a3, .inl (cA, 31, .inl vf)), (o0, .inl (cL, 1, .inr (.inl (fun _ => (w n).toInt64))))] H := hP
  exact W.iret (v := 0) hx hb hr (fun t ht _ => ⟨⟨0, (), rfl, rfl, by show va_P _ _ _ t.heap; rw [ht]; exact hP⟩, hS.F ht⟩) hS.2.2 dL_weight_22

set_option maxHeartbeats 4000000 in
set_option maxRecDepth 100000 in
theorem w_weight1 (l : Launch) (htr : l.stackTraces = false) (Bd : Nat) (dC : Nat → ClassId) (dI : Nat → Nat → Nat) (cA cL : ClassId) (h0 a0 a1 a2 a3 o0 : Nat) (w pr vo vf : Nat → Int32) (k : Int32) (fo : Nat → Int64) (sz : Nat) (x0 x1 : Int32) (hbad : bb_out x0 (nI 10) = true) : Met l yL_weight wsL_weight ({ frames := 8, cells := 1, slots := 6, locals := 160 }) (va_Pc [.ref h0, .int x0, .int x1, .ref o0] (fun U => U.heap.size = sz ∧ va_P (dC, dI) vwCl [(h0, .inr (0, [.ref a0, .ref a1, .ref a2, .ref a3, .int k])), (a0, .inl (cA, 10, .inl w)), (a1, .inl (cA, 10, .inl pr)), (a2, .inl (cA, 31, .inl vo)), (a3, .inl (cA, 31, .inl vf)), (o0, .inl (cL, 1, .inr (.inl fo)))] U.heap ∧ va_K (dC, dI) vwCl [(cA, .int), (cL, .long)] U ∧ va_D (fun _ => True) [(h0, .inr (0, [.ref a0, .ref a1, .ref a2, .ref a3, .int k])), (a0, .inl (cA, 10, .inl w)), (a1, .inl (cA, 10, .inl pr)), (a2, .inl (cA, 31, .inl vo)), (a3, .inl (cA, 31, .inl vf)), (o0, .inl (cL, 1, .inr (.inl fo)))] ∧ bb_TS Bd U)) (bb_Qm 1 (dC, dI) vwCl [(h0, .inr (0, [.ref a0, .ref a1, .ref a2, .ref a3, .int k])), (a0, .inl (cA, 10, .inl w)), (a1, .inl (cA, 10, .inl pr)), (a2, .inl (cA, 31, .inl vo)), (a3, .inl (cA, 31, .inl vf)), (o0, .inl (cL, 1, .inr (.inl fo)))] (va_A [(h0, .inr (0, [.ref a0, .ref a1, .ref a2, .ref a3, .int k])), (a0, .inl (cA, 10, .inl w)), (a1, .inl (cA, 10, .inl pr)), (a2, .inl (cA, 31, .inl vo)), (a3, .inl (cA, 31, .inl vf)), (o0, .inl (cL, 1, .inr (.inl fo)))] sz)) 1 6 (va_A [(h0, .inr (0, [.ref a0, .ref a1, .ref a2, .ref a3, .int k])), (a0, .inl (cA, 10, .inl w)), (a1, .inl (cA, 10, .inl pr)), (a2, .inl (cA, 31, .inl vo)), (a3, .inl (cA, 31, .inl vf)), (o0, .inl (cL, 1, .inr (.inl fo)))] sz) := by
  refine va_MetW (cc := cL_weight) (maxL := 5) (ret := some .int) (by decide) rfl ?_
  intro p e s m args below meth c s₁ B hml hv
  obtain ⟨rfl, hsz, hP, hK, hD0, hZ⟩ := hv
  have hx := B.exec
  have hb := B.bytes
  have hr := B.returns
  have hts := atoms_spec (ws := wsL_weight) B.pre
  have hown : s.vm.findClass RL = some m.cls := findClass_of_methodNamed B.named
  have hlocks := B.notSynchronized
  subst hsz
  have hK1 := hK.sub [0] (tys' := [(cA, .int)]) rfl
  have htab := bb_table (hts _ List.mem_cons_self) B.named B.method (Stand.of_body B).code
  have hD := hD0.self (sz := s.heap.size)
  generalize hAe : va_A [(h0, .inr (0, [.ref a0, .ref a1, .ref a2, .ref a3, .int k])), (a0, .inl (cA, 10, .inl w)), (a1, .inl (cA, 10, .inl pr)), (a2, .inl (cA, 31, .inl vo)), (a3, .inl (cA, 31, .inl vf)), (o0, .inl (cL, 1, .inr (.inl fo)))] s.heap.size = A at hD ⊢
  have hA : ∀ q : Nat, s.heap.size ≤ q → A q := fun q h => by rw [← hAe]; exact Or.inr h
  have hl := lv_entry ([.ref h0, .int x0, .int x1, .ref o0]) (n := 5) (Nat.le_of_ble_eq_true rfl)
  rw [lg_entry_eq]
  generalize (lg_sl ([.ref h0, .int x0, .int x1, .ref o0]) ++ List.replicate (5 - (lg_sl ([.ref h0, .int x0, .int x1, .ref o0])).length) Slot.unset).toArray = ls at hl ⊢
  have hl : lv_has ls 5 [(0, .ref h0), (1, .int x0), (2, .int x1), (3, .ref o0)] := hl
  refine lv_aload_n hx hb dL_weight_0 rfl (lv_at hl 3 rfl) ?_
  refine lv_iconst (v := nI 0) hx hb dL_weight_1 (by decide) ?_
  refine lv_aload_n hx hb dL_weight_2 rfl (lv_at hl 0 rfl) ?_
  refine lv_iload_n hx hb dL_weight_3 rfl (lv_at hl 1 rfl) ?_
  refine lv_iload_n hx hb dL_weight_4 rfl (lv_at hl 2 rfl) ?_
  have hPc : va_P (dC, dI) vwCl [(h0, .inr (0, [.ref a0, .ref a1, .ref a2, .ref a3, .int k])), (a0, .inl (cA, 10, .inl w)), (a1, .inl (cA, 10, .inl pr)), (a2, .inl (cA, 31, .inl vo)), (a3, .inl (cA, 31, .inl vf))] s.heap := bb_Pmid (pre := []) (wc := [(h0, .inr (0, [.ref a0, .ref a1, .ref a2, .ref a3, .int k])), (a0, .inl (cA, 10, .inl w)), (a1, .inl (cA, 10, .inl pr)), (a2, .inl (cA, 31, .inl vo)), (a3, .inl (cA, 31, .inl vf))]) (post := [(o0, .inl (cL, 1, .inr (.inl fo)))]) hP
  refine bb_cVt (As := [.int x0, .int x1]) (rest := [.int (nI 0), .ref o0]) ⟨hx, hb, hml, hown, hts⟩ (t_weight1 l htr Bd dC dI cA h0 a0 a1 a2 a3 w pr vo vf k x0 x1 hbad) (cwV 2 hts gL_weight_X0_weight rfl rfl rfl (by decide +kernel) ⟨Nat.le_of_ble_eq_true rfl, Nat.le_of_ble_eq_true rfl⟩) ⟨bb_Ptb, va_recv (D := (dC, dI)) (cl := vwCl) (ci := 0) (q0 := 0) hK1 hPc rfl rfl, fun U9 hU9 hW9 => ⟨rfl, ⟨by rw [hU9]; exact hPc, va_K.moved hW9.alike hK1⟩, hZ.mv hW9 (fun _ _ => by rw [hU9])⟩⟩ rfl hl.1 rfl (Nat.le_of_ble_eq_true rfl) dL_weight_5 (Nat.le_of_ble_eq_true rfl) (Nat.le_of_ble_eq_true rfl) (fun q9 H9 ce9 z9 o9 g1 g2 g3 => ?_)
  have hP9 := hP.kept (fun k9 x9 h9 => o9 x9.1 (hP k9 x9 h9).lt)
  have hS9 : va_S A s.heap H9 [] := ⟨z9, fun q h _ => o9 q h, fun _ h => by cases h⟩
  refine bb_hand1 hown htab (by decide) (by decide) (name := NSE) (hts _ (List.mem_cons_of_mem _ bb_u107)) (hZ.c1.use rfl) g1 g2 g3 ?_
  refine lv_astore (lv' := [(4, .ref q9), (0, .ref h0), (1, .int x0), (2, .int x1), (3, .ref o0)]) hx hb dL_weight_13 hl (by decide) rfl (fun ls hl => ?_)
  refine lv_iconst (v := 1) hx hb dL_weight_15 (by decide) ?_
  exact W.iret (v := 1) hx hb hr (fun t ht _ => ⟨⟨1, (), rfl, rfl, by show va_P _ _ _ t.heap; rw [ht]; exact hP9⟩, hS9.F ht⟩) hS9.2.2 dL_weight_16

set_option maxHeartbeats 4000000 in
set_option maxRecDepth 100000 in
theorem w_weight2 (l : Launch) (htr : l.stackTraces = false) (Bd : Nat) (dC : Nat → ClassId) (dI : Nat → Nat → Nat) (cA cL : ClassId) (h0 a0 a1 a2 a3 o0 : Nat) (w pr vo vf : Nat → Int32) (k : Int32) (fo : Nat → Int64) (sz : Nat) (n : Nat) (hn0 : n < 10) (x1 : Int32) (hbad : x1 < 0 ∨ ¬ x1 ≤ nI 50) : Met l yL_weight wsL_weight ({ frames := 8, cells := 1, slots := 6, locals := 160 }) (va_Pc [.ref h0, .int (nI n), .int x1, .ref o0] (fun U => U.heap.size = sz ∧ va_P (dC, dI) vwCl [(h0, .inr (0, [.ref a0, .ref a1, .ref a2, .ref a3, .int k])), (a0, .inl (cA, 10, .inl w)), (a1, .inl (cA, 10, .inl pr)), (a2, .inl (cA, 31, .inl vo)), (a3, .inl (cA, 31, .inl vf)), (o0, .inl (cL, 1, .inr (.inl fo)))] U.heap ∧ va_K (dC, dI) vwCl [(cA, .int), (cL, .long)] U ∧ va_D (fun _ => True) [(h0, .inr (0, [.ref a0, .ref a1, .ref a2, .ref a3, .int k])), (a0, .inl (cA, 10, .inl w)), (a1, .inl (cA, 10, .inl pr)), (a2, .inl (cA, 31, .inl vo)), (a3, .inl (cA, 31, .inl vf)), (o0, .inl (cL, 1, .inr (.inl fo)))] ∧ bb_TS Bd U)) (bb_Qm 2 (dC, dI) vwCl [(h0, .inr (0, [.ref a0, .ref a1, .ref a2, .ref a3, .int k])), (a0, .inl (cA, 10, .inl w)), (a1, .inl (cA, 10, .inl pr)), (a2, .inl (cA, 31, .inl vo)), (a3, .inl (cA, 31, .inl vf)), (o0, .inl (cL, 1, .inr (.inl fo)))] (va_A [(h0, .inr (0, [.ref a0, .ref a1, .ref a2, .ref a3, .int k])), (a0, .inl (cA, 10, .inl w)), (a1, .inl (cA, 10, .inl pr)), (a2, .inl (cA, 31, .inl vo)), (a3, .inl (cA, 31, .inl vf)), (o0, .inl (cL, 1, .inr (.inl fo)))] sz)) 1 6 (va_A [(h0, .inr (0, [.ref a0, .ref a1, .ref a2, .ref a3, .int k])), (a0, .inl (cA, 10, .inl w)), (a1, .inl (cA, 10, .inl pr)), (a2, .inl (cA, 31, .inl vo)), (a3, .inl (cA, 31, .inl vf)), (o0, .inl (cL, 1, .inr (.inl fo)))] sz) := by
  refine va_MetW (cc := cL_weight) (maxL := 5) (ret := some .int) (by decide) rfl ?_
  intro p e s m args below meth c s₁ B hml hv
  obtain ⟨rfl, hsz, hP, hK, hD0, hZ⟩ := hv
  have hx := B.exec
  have hb := B.bytes
  have hr := B.returns
  have hts := atoms_spec (ws := wsL_weight) B.pre
  have hown : s.vm.findClass RL = some m.cls := findClass_of_methodNamed B.named
  have hlocks := B.notSynchronized
  subst hsz
  have hK1 := hK.sub [0] (tys' := [(cA, .int)]) rfl
  have htab := bb_table (hts _ List.mem_cons_self) B.named B.method (Stand.of_body B).code
  have hD := hD0.self (sz := s.heap.size)
  generalize hAe : va_A [(h0, .inr (0, [.ref a0, .ref a1, .ref a2, .ref a3, .int k])), (a0, .inl (cA, 10, .inl w)), (a1, .inl (cA, 10, .inl pr)), (a2, .inl (cA, 31, .inl vo)), (a3, .inl (cA, 31, .inl vf)), (o0, .inl (cL, 1, .inr (.inl fo)))] s.heap.size = A at hD ⊢
  have hA : ∀ q : Nat, s.heap.size ≤ q → A q := fun q h => by rw [← hAe]; exact Or.inr h
  have hl := lv_entry ([.ref h0, .int (nI n), .int x1, .ref o0]) (n := 5) (Nat.le_of_ble_eq_true rfl)
  rw [lg_entry_eq]
  generalize (lg_sl ([.ref h0, .int (nI n), .int x1, .ref o0]) ++ List.replicate (5 - (lg_sl ([.ref h0, .int (nI n), .int x1, .ref o0])).length) Slot.unset).toArray = ls at hl ⊢
  have hl : lv_has ls 5 [(0, .ref h0), (1, .int (nI n)), (2, .int x1), (3, .ref o0)] := hl
  refine lv_aload_n hx hb dL_weight_0 rfl (lv_at hl 3 rfl) ?_
  refine lv_iconst (v := nI 0) hx hb dL_weight_1 (by decide) ?_
  refine lv_aload_n hx hb dL_weight_2 rfl (lv_at hl 0 rfl) ?_
  refine lv_iload_n hx hb dL_weight_3 rfl (lv_at hl 1 rfl) ?_
  refine lv_iload_n hx hb dL_weight_4 rfl (lv_at hl 2 rfl) ?_
  have hPc : va_P (dC, dI) vwCl [(h0, .inr (0, [.ref a0, .ref a1, .ref a2, .ref a3, .int k])), (a0, .inl (cA, 10, .inl w)), (a1, .inl (cA, 10, .inl pr)), (a2, .inl (cA, 31, .inl vo)), (a3, .inl (cA, 31, .inl vf))] s.heap := bb_Pmid (pre := []) (wc := [(h0, .inr (0, [.ref a0, .ref a1, .ref a2, .ref a3, .int k])), (a0, .inl (cA, 10, .inl w)), (a1, .inl (cA, 10, .inl pr)), (a2, .inl (cA, 31, .inl vo)), (a3, .inl (cA, 31, .inl vf))]) (post := [(o0, .inl (cL, 1, .inr (.inl fo)))]) hP
  refine bb_cVt (As := [.int (nI n), .int x1]) (rest := [.int (nI 0), .ref o0]) ⟨hx, hb, hml, hown, hts⟩ (t_weight2 l htr Bd dC dI cA h0 a0 a1 a2 a3 w pr vo vf k n hn0 x1 hbad) (cwV 2 hts gL_weight_X0_weight rfl rfl rfl (by decide +kernel) ⟨Nat.le_of_ble_eq_true rfl, Nat.le_of_ble_eq_true rfl⟩) ⟨bb_Ptb, va_recv (D := (dC, dI)) (cl := vwCl) (ci := 0) (q0 := 0) hK1 hPc rfl rfl, fun U9 hU9 hW9 => ⟨rfl, ⟨by rw [hU9]; exact hPc, va_K.moved hW9.alike hK1⟩, hZ.mv hW9 (fun _ _ => by rw [hU9])⟩⟩ rfl hl.1 rfl (Nat.le_of_ble_eq_true rfl) dL_weight_5 (Nat.le_of_ble_eq_true rfl) (Nat.le_of_ble_eq_true rfl) (fun q9 H9 ce9 z9 o9 g1 g2 g3 => ?_)
  have hP9 := hP.kept (fun k9 x9 h9 => o9 x9.1 (hP k9 x9 h9).lt)
  have hS9 : va_S A s.heap H9 [] := ⟨z9, fun q h _ => o9 q h, fun _ h => by cases h⟩
  refine bb_hand2 hown htab (by decide) (by decide) (by decide) (by decide) (name := IAE) (name1 := NSE) (hts _ (List.mem_cons_of_mem _ bb_u107)) hZ.n1 (hts _ (List.mem_cons_of_mem _ bb_u108)) (hZ.c2.use rfl) g1 g2 g3 ?_
  refine lv_astore (lv' := [(4, .ref q9), (0, .ref h0), (1, .int (nI n)), (2, .int x1), (3, .ref o0)]) hx hb dL_weight_17 hl (by decide) rfl (fun ls hl => ?_)
  refine lv_iconst (v := 2) hx hb dL_weight_19 (by decide) ?_
  exact W.iret (v := 2) hx hb hr (fun t ht _ => ⟨⟨2, (), rfl, rfl, by show va_P _ _ _ t.heap; rw [ht]; exact hP9⟩, hS9.F ht⟩) hS9.2.2 dL_weight_20

set_option maxHeartbeats 4000000 in
set_option maxRecDepth 100000 in
theorem w_need (l : Launch) (dC : Nat → ClassId) (dI : Nat → Nat → Nat) (cA cL : ClassId) (h0 a0 a1 a2 a3 o0 : Nat) (w pr vo vf : Nat → Int32) (k : Int32) (fo : Nat → Int64) (sz : Nat) (a : Nat) (ha1 : 1 ≤ a) (ha0 : a ≤ 500) : Met l yL_need wsL_need ({ frames := 8, cells := 0, slots := 0, locals := 160 }) (va_Pc [.ref h0, .int (nI a), .ref o0] (fun U => U.heap.size = sz ∧ va_P (dC, dI) vwCl [(h0, .inr (0, [.ref a0, .ref a1, .ref a2, .ref a3, .int k])), (a0, .inl (cA, 10, .inl w)), (a1, .inl (cA, 10, .inl pr)), (a2, .inl (cA, 31, .inl vo)), (a3, .inl (cA, 31, .inl vf)), (o0, .inl (cL, 1, .inr (.inl fo)))] U.heap ∧ va_K (dC, dI) vwCl [(cA, .int), (cL, .long)] U ∧ va_D (fun _ => True) [(h0, .inr (0, [.ref a0, .ref a1, .ref a2, .ref a3, .int k])), (a0, .inl (cA, 10, .inl w)), (a1, .inl (cA, 10, .inl pr)), (a2, .inl (cA, 31, .inl vo)), (a3, .inl (cA, 31, .inl vf)), (o0, .inl (cL, 1, .inr (.inl fo)))] ∧ True)) (bb_Qm 0 (dC, dI) vwCl [(h0, .inr (0, [.ref a0, .ref a1, .ref a2, .ref a3, .int (nI a)])), (a0, .inl (cA, 10, .inl w)), (a1, .inl (cA, 10, .inl pr)), (a2, .inl (cA, 31, .inl vo)), (a3, .inl (cA, 31, .inl vf)), (o0, .inl (cL, 1, .inr (.inl (fun _ => k.toInt64))))] (va_A [(h0, .inr (0, [.ref a0, .ref a1, .ref a2, .ref a3, .int k])), (a0, .inl (cA, 10, .inl w)), (a1, .inl (cA, 10, .inl pr)), (a2, .inl (cA, 31, .inl vo)), (a3, .inl (cA, 31, .inl vf)), (o0, .inl (cL, 1, .inr (.inl fo)))] sz)) 0 0 (va_A [(h0, .inr (0, [.ref a0, .ref a1, .ref a2, .ref a3, .int k])), (a0, .inl (cA, 10, .inl w)), (a1, .inl (cA, 10, .inl pr)), (a2, .inl (cA, 31, .inl vo)), (a3, .inl (cA, 31, .inl vf)), (o0, .inl (cL, 1, .inr (.inl fo)))] sz) := by
  refine va_MetW (cc := cL_need) (maxL := 4) (ret := some .int) (by decide) rfl ?_
  intro p e s m args below meth c s₁ B hml hv
  obtain ⟨rfl, hsz, hP, hK, hD0, -⟩ := hv
  have hx := B.exec
  have hb := B.bytes
  have hr := B.returns
  have hts := atoms_spec (ws := wsL_need) B.pre
  have hown : s.vm.findClass RL = some m.cls := findClass_of_methodNamed B.named
  have hlocks := B.notSynchronized
  subst hsz
  have hK1 := hK.sub [0] (tys' := [(cA, .int)]) rfl
  have hD := hD0.self (sz := s.heap.size)
  generalize hAe : va_A [(h0, .inr (0, [.ref a0, .ref a1, .ref a2, .ref a3, .int k])), (a0, .inl (cA, 10, .inl w)), (a1, .inl (cA, 10, .inl pr)), (a2, .inl (cA, 31, .inl vo)), (a3, .inl (cA, 31, .inl vf)), (o0, .inl (cL, 1, .inr (.inl fo)))] s.heap.size = A at hD ⊢
  have hA : ∀ q : Nat, s.heap.size ≤ q → A q := fun q h => by rw [← hAe]; exact Or.inr h
  have hl := lv_entry ([.ref h0, .int (nI a), .ref o0]) (n := 4) (Nat.le_of_ble_eq_true rfl)
  rw [lg_entry_eq]
  generalize (lg_sl ([.ref h0, .int (nI a), .ref o0]) ++ List.replicate (4 - (lg_sl ([.ref h0, .int (nI a), .ref o0])).length) Slot.unset).toArray = ls at hl ⊢
  have hl : lv_has ls 4 [(0, .ref h0), (1, .int (nI a)), (2, .ref o0)] := hl
  refine bb_gen hP hD (fun H locs hP hD hS => ?_)
  refine lv_aload_n hx hb dL_need_0 rfl (lv_at hl 2 rfl) ?_
  refine lv_iconst (v := nI 0) hx hb dL_need_1 (by decide) ?_
  refine lv_aload_n hx hb dL_need_2 rfl (lv_at hl 0 rfl) ?_
  refine lv_iload_n hx hb dL_need_3 rfl (lv_at hl 1 rfl) ?_
  have hPc : va_P (dC, dI) vwCl [(h0, .inr (0, [.ref a0, .ref a1, .ref a2, .ref a3, .int k])), (a0, .inl (cA, 10, .inl w)), (a1, .inl (cA, 10, .inl pr)), (a2, .inl (cA, 31, .inl vo)), (a3, .inl (cA, 31, .inl vf))] H := bb_Pmid (pre := []) (wc := [(h0, .inr (0, [.ref a0, .ref a1, .ref a2, .ref a3, .int k])), (a0, .inl (cA, 10, .inl w)), (a1, .inl (cA, 10, .inl pr)), (a2, .inl (cA, 31, .inl vo)), (a3, .inl (cA, 31, .inl vf))]) (post := [(o0, .inl (cL, 1, .inr (.inl fo)))]) hP
  refine bb_cVf (As := [.int (nI a)]) (rest := [.int (nI 0), .ref o0]) (r := k) (pre := []) (wc := [(h0, .inr (0, [.ref a0, .ref a1, .ref a2, .ref a3, .int k])), (a0, .inl (cA, 10, .inl w)), (a1, .inl (cA, 10, .inl pr)), (a2, .inl (cA, 31, .inl vo)), (a3, .inl (cA, 31, .inl vf))]) (post := [(o0, .inl (cL, 1, .inr (.inl fo)))]) (wc' := [(h0, .inr (0, [.ref a0, .ref a1, .ref a2, .ref a3, .int (nI a)])), (a0, .inl (cA, 10, .inl w)), (a1, .inl (cA, 10, .inl pr)), (a2, .inl (cA, 31, .inl vo)), (a3, .inl (cA, 31, .inl vf))]) 0 ⟨hx, hb, hml, hown, hts⟩ (j_need l dC dI cA h0 a0 a1 a2 a3 w pr vo vf k H.size a ha1 ha0) (cwV 1 hts gL_need_X0_need rfl rfl rfl (by decide +kernel) ⟨Nat.le_of_ble_eq_true rfl, Nat.le_of_ble_eq_true rfl⟩) hP hK1 hD hS hA rfl rfl rfl rfl hl.1 rfl (Nat.le_of_ble_eq_true rfl) dL_need_4 (Nat.le_of_ble_eq_true rfl) (Nat.le_of_ble_eq_true rfl) (fun H locs hP hD hS => ?_)
  have hP : va_P (dC, dI) vwCl [(h0, .inr (0, [.ref a0, .ref a1, .ref a2, .ref a3, .int (nI a)])), (a0, .inl (cA, 10, .inl w)), (a1, .inl (cA, 10, .inl pr)), (a2, .inl (cA, 31, .inl vo)), (a3, .inl (cA, 31, .inl vf)), (o0, .inl (cL, 1, .inr (.inl fo)))] H := hP
  have hD : va_D A [(h0, .inr (0, [.ref a0, .ref a1, .ref a2, .ref a3, .int (nI a)])), (a0, .inl (cA, 10, .inl w)), (a1, .inl (cA, 10, .inl pr)), (a2, .inl (cA, 31, .inl vo)), (a3, .inl (cA, 31, .inl vf)), (o0, .inl (cL, 1, .inr (.inl fo)))] := hD
  refine lv_i2l (v := k.toInt64) hx hb dL_need_7 rfl ?_
  refine va_last hx hb hK hP hD hS 5 1 rfl rfl (vp_in_nI (by decide) (by decide)) dL_need_8 (fun H locs hP hD hS => ?_)
  have hP : va_P (dC, dI) vwCl [(h0, .inr (0, [.ref a0, .ref a1, .ref a2, .ref a3, .int (nI a)])), (a0, .inl (cA, 10, .inl w)), (a1, .inl (cA, 10, .inl pr)), (a2, .inl (cA, 31, .inl vo)), (a3, .inl (cA, 31, .inl vf)), (o0, .inl (cL, 1, .inr (.inl (vp_updL fo (nI 0).toNatClampNeg (k.toInt64)))))] H := hP
  have hD : va_D A [(h0, .inr (0, [.ref a0, .ref a1, .ref a2, .ref a3, .int (nI a)])), (a0, .inl (cA, 10, .inl w)), (a1, .inl (cA, 10, .inl pr)), (a2, .inl (cA, 31, .inl vo)), (a3, .inl (cA, 31, .inl vf)), (o0, .inl (cL, 1, .inr (.inl (vp_updL fo (nI 0).toNatClampNeg (k.toInt64)))))] := hD
  refine lv_goto (tgt := 15) hx hb dL_need_9 rfl ?_
  refine lv_iconst (v := 0) hx hb dL_need_15 (by decide) ?_
  have hP := bb_P_extL (g := (fun _ => k.toInt64)) hP hD (q0 := 5) rfl (fun j9 h9 => bb_upL h9)
  have hP : va_P (dC, dI) vwCl [(h0, .inr (0, [.ref a0, .ref a1, .ref a2, .ref a3, .int (nI a)])), (a0, .inl (cA, 10, .inl w)), (a1, .inl (cA, 10, .inl pr)), (a2, .inl (cA, 31, .inl vo)), (a3, .inl (cA, 31, .inl vf)), (o0, .inl (cL, 1, .inr (.inl (fun _ => k.toInt64))))] H := hP
  exact W.iret (v := 0) hx hb hr (fun t ht _ => ⟨⟨0, (), rfl, rfl, by show va_P _ _ _ t.heap; rw [ht]; exact hP⟩, hS.F ht⟩) hS.2.2 dL_need_16

set_option maxHeartbeats 4000000 in
set_option maxRecDepth 100000 in
theorem w_need1 (l : Launch) (htr : l.stackTraces = false) (Bd : Nat) (dC : Nat → ClassId) (dI : Nat → Nat → Nat) (cA cL : ClassId) (h0 a0 a1 a2 a3 o0 : Nat) (w pr vo vf : Nat → Int32) (k : Int32) (fo : Nat → Int64) (sz : Nat) (x0 : Int32) (hbad : x0 < nI 1 ∨ ¬ x0 ≤ nI 500) : Met l yL_need wsL_need ({ frames := 8, cells := 1, slots := 6, locals := 160 }) (va_Pc [.ref h0, .int x0, .ref o0] (fun U => U.heap.size = sz ∧ va_P (dC, dI) vwCl [(h0, .inr (0, [.ref a0, .ref a1, .ref a2, .ref a3, .int k])), (a0, .inl (cA, 10, .inl w)), (a1, .inl (cA, 10, .inl pr)), (a2, .inl (cA, 31, .inl vo)), (a3, .inl (cA, 31, .inl vf)), (o0, .inl (cL, 1, .inr (.inl fo)))] U.heap ∧ va_K (dC, dI) vwCl [(cA, .int), (cL, .long)] U ∧ va_D (fun _ => True) [(h0, .inr (0, [.ref a0, .ref a1, .ref a2, .ref a3, .int k])), (a0, .inl (cA, 10, .inl w)), (a1, .inl (cA, 10, .inl pr)), (a2, .inl (cA, 31, .inl vo)), (a3, .inl (cA, 31, .inl vf)), (o0, .inl (cL, 1, .inr (.inl fo)))] ∧ bb_TS Bd U)) (bb_Qm 1 (dC, dI) vwCl [(h0, .inr (0, [.ref a0, .ref a1, .ref a2, .ref a3, .int k])), (a0, .inl (cA, 10, .inl w)), (a1, .inl (cA, 10, .inl pr)), (a2, .inl (cA, 31, .inl vo)), (a3, .inl (cA, 31, .inl vf)), (o0, .inl (cL, 1, .inr (.inl fo)))] (va_A [(h0, .inr (0, [.ref a0, .ref a1, .ref a2, .ref a3, .int k])), (a0, .inl (cA, 10, .inl w)), (a1, .inl (cA, 10, .inl pr)), (a2, .inl (cA, 31, .inl vo)), (a3, .inl (cA, 31, .inl vf)), (o0, .inl (cL, 1, .inr (.inl fo)))] sz)) 1 6 (va_A [(h0, .inr (0, [.ref a0, .ref a1, .ref a2, .ref a3, .int k])), (a0, .inl (cA, 10, .inl w)), (a1, .inl (cA, 10, .inl pr)), (a2, .inl (cA, 31, .inl vo)), (a3, .inl (cA, 31, .inl vf)), (o0, .inl (cL, 1, .inr (.inl fo)))] sz) := by
  refine va_MetW (cc := cL_need) (maxL := 4) (ret := some .int) (by decide) rfl ?_
  intro p e s m args below meth c s₁ B hml hv
  obtain ⟨rfl, hsz, hP, hK, hD0, hZ⟩ := hv
  have hx := B.exec
  have hb := B.bytes
  have hr := B.returns
  have hts := atoms_spec (ws := wsL_need) B.pre
  have hown : s.vm.findClass RL = some m.cls := findClass_of_methodNamed B.named
  have hlocks := B.notSynchronized
  subst hsz
  have hK1 := hK.sub [0] (tys' := [(cA, .int)]) rfl
  have htab := bb_table (hts _ List.mem_cons_self) B.named B.method (Stand.of_body B).code
  have hD := hD0.self (sz := s.heap.size)
  generalize hAe : va_A [(h0, .inr (0, [.ref a0, .ref a1, .ref a2, .ref a3, .int k])), (a0, .inl (cA, 10, .inl w)), (a1, .inl (cA, 10, .inl pr)), (a2, .inl (cA, 31, .inl vo)), (a3, .inl (cA, 31, .inl vf)), (o0, .inl (cL, 1, .inr (.inl fo)))] s.heap.size = A at hD ⊢
  have hA : ∀ q : Nat, s.heap.size ≤ q → A q := fun q h => by rw [← hAe]; exact Or.inr h
  have hl := lv_entry ([.ref h0, .int x0, .ref o0]) (n := 4) (Nat.le_of_ble_eq_true rfl)
  rw [lg_entry_eq]
  generalize (lg_sl ([.ref h0, .int x0, .ref o0]) ++ List.replicate (4 - (lg_sl ([.ref h0, .int x0, .ref o0])).length) Slot.unset).toArray = ls at hl ⊢
  have hl : lv_has ls 4 [(0, .ref h0), (1, .int x0), (2, .ref o0)] := hl
  refine lv_aload_n hx hb dL_need_0 rfl (lv_at hl 2 rfl) ?_
  refine lv_iconst (v := nI 0) hx hb dL_need_1 (by decide) ?_
  refine lv_aload_n hx hb dL_need_2 rfl (lv_at hl 0 rfl) ?_
  refine lv_iload_n hx hb dL_need_3 rfl (lv_at hl 1 rfl) ?_
  have hPc : va_P (dC, dI) vwCl [(h0, .inr (0, [.ref a0, .ref a1, .ref a2, .ref a3, .int k])), (a0, .inl (cA, 10, .inl w)), (a1, .inl (cA, 10, .inl pr)), (a2, .inl (cA, 31, .inl vo)), (a3, .inl (cA, 31, .inl vf))] s.heap := bb_Pmid (pre := []) (wc := [(h0, .inr (0, [.ref a0, .ref a1, .ref a2, .ref a3, .int k])), (a0, .inl (cA, 10, .inl w)), (a1, .inl (cA, 10, .inl pr)), (a2, .inl (cA, 31, .inl vo)), (a3, .inl (cA, 31, .inl vf))]) (post := [(o0, .inl (cL, 1, .inr (.inl fo)))]) hP
  refine bb_cVt (As := [.int x0]) (rest := [.int (nI 0), .ref o0]) ⟨hx, hb, hml, hown, hts⟩ (t_need1 l htr Bd dC dI cA h0 a0 a1 a2 a3 w pr vo vf k x0 hbad) (cwV 1 hts gL_need_X0_need rfl rfl rfl (by decide +kernel) ⟨Nat.le_of_ble_eq_true rfl, Nat.le_of_ble_eq_true rfl⟩) ⟨bb_Ptb, va_recv (D := (dC, dI)) (cl := vwCl) (ci := 0) (q0 := 0) hK1 hPc rfl rfl, fun U9 hU9 hW9 => ⟨rfl, ⟨by rw [hU9]; exact hPc, va_K.moved hW9.alike hK1⟩, hZ.mv hW9 (fun _ _ => by rw [hU9])⟩⟩ rfl hl.1 rfl (Nat.le_of_ble_eq_true rfl) dL_need_4 (Nat.le_of_ble_eq_true rfl) (Nat.le_of_ble_eq_true rfl) (fun q9 H9 ce9 z9 o9 g1 g2 g3 => ?_)
  have hP9 := hP.kept (fun k9 x9 h9 => o9 x9.1 (hP k9 x9 h9).lt)
  have hS9 : va_S A s.heap H9 [] := ⟨z9, fun q h _ => o9 q h, fun _ h => by cases h⟩
  refine bb_hand1 hown htab (by decide) (by decide) (name := IAE) (hts _ (List.mem_cons_of_mem _ bb_u108)) (hZ.c2.use rfl) g1 g2 g3 ?_
  refine lv_astore_n (lv' := [(3, .ref q9), (0, .ref h0), (1, .int x0), (2, .ref o0)]) hx hb dL_need_12 rfl hl (by decide) rfl (fun ls hl => ?_)
  refine lv_iconst (v := 1) hx hb dL_need_13 (by decide) ?_
  exact W.iret (v := 1) hx hb hr (fun t ht _ => ⟨⟨1, (), rfl, rfl, by show va_P _ _ _ t.heap; rw [ht]; exact hP9⟩, hS9.F ht⟩) hS9.2.2 dL_need_14

set_option maxHeartbeats 4000000 in
set_option maxRecDepth 100000 in
theorem w_promise (l : Launch) (dC : Nat → ClassId) (dI : Nat → Nat → Nat) (cA cL : ClassId) (h0 a0 a1 a2 a3 o0 : Nat) (w pr vo vf : Nat → Int32) (k : Int32) (fo : Nat → Int64) (sz : Nat) (n : Nat) (hn0 : n < 10) (b : Nat) (hb0 : b < 31) (hp : pr n ≤ nI b) : Met l yL_promise wsL_promise ({ frames := 8, cells := 0, slots := 0, locals := 160 }) (va_Pc [.ref h0, .int (nI n), .int (nI b), .ref o0] (fun U => U.heap.size = sz ∧ va_P (dC, dI) vwCl [(h0, .inr (0, [.ref a0, .ref a1, .ref a2, .ref a3, .int k])), (a0, .inl (cA, 10, .inl w)), (a1, .inl (cA, 10, .inl pr)), (a2, .inl (cA, 31, .inl vo)), (a3, .inl (cA, 31, .inl vf)), (o0, .inl (cL, 1, .inr (.inl fo)))] U.heap ∧ va_K (dC, dI) vwCl [(cA, .int), (cL, .long)] U ∧ va_D (fun _ => True) [(h0, .inr (0, [.ref a0, .ref a1, .ref a2, .ref a3, .int k])), (a0, .inl (cA, 10, .inl w)), (a1, .inl (cA, 10, .inl pr)), (a2, .inl (cA, 31, .inl vo)), (a3, .inl (cA, 31, .inl vf)), (o0, .inl (cL, 1, .inr (.inl fo)))] ∧ True)) (bb_Qm 0 (dC, dI) vwCl [(h0, .inr (0, [.ref a0, .ref a1, .ref a2, .ref a3, .int k])), (a0, .inl (cA, 10, .inl w)), (a1, .inl (cA, 10, .inl (upd pr n (nI b)))), (a2, .inl (cA, 31, .inl vo)), (a3, .inl (cA, 31, .inl vf)), (o0, .inl (cL, 1, .inr (.inl (fun _ => (pr n).toInt64))))] (va_A [(h0, .inr (0, [.ref a0, .ref a1, .ref a2, .ref a3, .int k])), (a0, .inl (cA, 10, .inl w)), (a1, .inl (cA, 10, .inl pr)), (a2, .inl (cA, 31, .inl vo)), (a3, .inl (cA, 31, .inl vf)), (o0, .inl (cL, 1, .inr (.inl fo)))] sz)) 0 0 (va_A [(h0, .inr (0, [.ref a0, .ref a1, .ref a2, .ref a3, .int k])), (a0, .inl (cA, 10, .inl w)), (a1, .inl (cA, 10, .inl pr)), (a2, .inl (cA, 31, .inl vo)), (a3, .inl (cA, 31, .inl vf)), (o0, .inl (cL, 1, .inr (.inl fo)))] sz) := by
  refine va_MetW (cc := cL_promise) (maxL := 5) (ret := some .int) (by decide) rfl ?_
  intro p e s m args below meth c s₁ B hml hv
  obtain ⟨rfl, hsz, hP, hK, hD0, -⟩ := hv
  have hx := B.exec
  have hb := B.bytes
  have hr := B.returns
  have hts := atoms_spec (ws := wsL_promise) B.pre
  have hown : s.vm.findClass RL = some m.cls := findClass_of_methodNamed B.named
  have hlocks := B.notSynchronized
  subst hsz
  have hK1 := hK.sub [0] (tys' := [(cA, .int)]) rfl
  have hD := hD0.self (sz := s.heap.size)
  generalize hAe : va_A [(h0, .inr (0, [.ref a0, .ref a1, .ref a2, .ref a3, .int k])), (a0, .inl (cA, 10, .inl w)), (a1, .inl (cA, 10, .inl pr)), (a2, .inl (cA, 31, .inl vo)), (a3, .inl (cA, 31, .inl vf)), (o0, .inl (cL, 1, .inr (.inl fo)))] s.heap.size = A at hD ⊢
  have hA : ∀ q : Nat, s.heap.size ≤ q → A q := fun q h => by rw [← hAe]; exact Or.inr h
  have hl := lv_entry ([.ref h0, .int (nI n), .int (nI b), .ref o0]) (n := 5) (Nat.le_of_ble_eq_true rfl)
  rw [lg_entry_eq]
  generalize (lg_sl ([.ref h0, .int (nI n), .int (nI b), .ref o0]) ++ List.replicate (5 - (lg_sl ([.ref h0, .int (nI n), .int (nI b), .ref o0])).length) Slot.unset).toArray = ls at hl ⊢
  have hl : lv_has ls 5 [(0, .ref h0), (1, .int (nI n)), (2, .int (nI b)), (3, .ref o0)] := hl
  refine bb_gen hP hD (fun H locs hP hD hS => ?_)
  refine lv_aload_n hx hb dL_promise_0 rfl (lv_at hl 3 rfl) ?_
  refine lv_iconst (v := nI 0) hx hb dL_promise_1 (by decide) ?_
  refine lv_aload_n hx hb dL_promise_2 rfl (lv_at hl 0 rfl) ?_
  refine lv_iload_n hx hb dL_promise_3 rfl (lv_at hl 1 rfl) ?_
  refine lv_iload_n hx hb dL_promise_4 rfl (lv_at hl 2 rfl) ?_
  have hPc : va_P (dC, dI) vwCl [(h0, .inr (0, [.ref a0, .ref a1, .ref a2, .ref a3, .int k])), (a0, .inl (cA, 10, .inl w)), (a1, .inl (cA, 10, .inl pr)), (a2, .inl (cA, 31, .inl vo)), (a3, .inl (cA, 31, .inl vf))] H := bb_Pmid (pre := []) (wc := [(h0, .inr (0, [.ref a0, .ref a1, .ref a2, .ref a3, .int k])), (a0, .inl (cA, 10, .inl w)), (a1, .inl (cA, 10, .inl pr)), (a2, .inl (cA, 31, .inl vo)), (a3, .inl (cA, 31, .inl vf))]) (post := [(o0, .inl (cL, 1, .inr (.inl fo)))]) hP
  refine bb_cVf (As := [.int (nI n), .int (nI b)]) (rest := [.int (nI 0), .ref o0]) (r := pr n) (pre := []) (wc := [(h0, .inr (0, [.ref a0, .ref a1, .ref a2, .ref a3, .int k])), (a0, .inl (cA, 10, .inl w)), (a1, .inl (cA, 10, .inl pr)), (a2, .inl (cA, 31, .inl vo)), (a3, .inl (cA, 31, .inl vf))]) (post := [(o0, .inl (cL, 1, .inr (.inl fo)))]) (wc' := [(h0, .inr (0, [.ref a0, .ref a1, .ref a2, .ref a3, .int k])), (a0, .inl (cA, 10, .inl w)), (a1, .inl (cA, 10, .inl (upd pr n (nI b)))), (a2, .inl (cA, 31, .inl vo)), (a3, .inl (cA, 31, .inl vf))]) 0 ⟨hx, hb, hml, hown, hts⟩ (j_promise l dC dI cA h0 a0 a1 a2 a3 w pr vo vf k H.size n hn0 b hb0 hp) (cwV 2 hts gL_promise_X0_promise rfl rfl rfl (by decide +kernel) ⟨Nat.le_of_ble_eq_true rfl, Nat.le_of_ble_eq_true rfl⟩) hP hK1 hD hS hA rfl rfl rfl rfl hl.1 rfl (Nat.le_of_ble_eq_true rfl) dL_promise_5 (Nat.le_of_ble_eq_true rfl) (Nat.le_of_ble_eq_true rfl) (fun H locs hP hD hS => ?_)
  have hP : va_P (dC, dI) vwCl [(h0, .inr (0, [.ref a0, .ref a1, .ref a2, .ref a3, .int k])), (a0, .inl (cA, 10, .inl w)), (a1, .inl (cA, 10, .inl (upd pr n (nI b)))), (a2, .inl (cA, 31, .inl vo)), (a3, .inl (cA, 31, .inl vf)), (o0, .inl (cL, 1, .inr (.inl fo)))] H := hP
  have hD : va_D A [(h0, .inr (0, [.ref a0, .ref a1, .ref a2, .ref a3, .int k])), (a0, .inl (cA, 10, .inl w)), (a1, .inl (cA, 10, .inl (upd pr n (nI b)))), (a2, .inl (cA, 31, .inl vo)), (a3, .inl (cA, 31, .inl vf)), (o0, .inl (cL, 1, .inr (.inl fo)))] := hD
  refine lv_i2l (v := (pr n).toInt64) hx hb dL_promise_8 rfl ?_
  refine va_last hx hb hK hP hD hS 5 1 rfl rfl (vp_in_nI (by decide) (by decide)) dL_promise_9 (fun H locs hP hD hS => ?_)
  have hP : va_P (dC, dI) vwCl [(h0, .inr (0, [.ref a0, .ref a1, .ref a2, .ref a3, .int k])), (a0, .inl (cA, 10, .inl w)), (a1, .inl (cA, 10, .inl (upd pr n (nI b)))), (a2, .inl (cA, 31, .inl vo)), (a3, .inl (cA, 31, .inl vf)), (o0, .inl (cL, 1, .inr (.inl (vp_updL fo (nI 0).toNatClampNeg ((pr n).toInt64)))))] H := hP
  have hD : va_D A [(h0, .inr (0, [.ref a0, .ref a1, .ref a2, .ref a3, .int k])), (a0, .inl (cA, 10, .inl w)), (a1, .inl (cA, 10, .inl (upd pr n (nI b)))), (a2, .inl (cA, 31, .inl vo)), (a3, .inl (cA, 31, .inl vf)), (o0, .inl (cL, 1, .inr (.inl (vp_updL fo (nI 0).toNatClampNeg ((pr n).toInt64)))))] := hD
  refine lv_goto (tgt := 21) hx hb dL_promise_10 rfl ?_
  refine lv_iconst (v := 0) hx hb dL_promise_21 (by decide) ?_
  have hP := bb_P_extL (g := (fun _ => (pr n).toInt64)) hP hD (q0 := 5) rfl (fun j9 h9 => bb_upL h9)
  have hP : va_P (dC, dI) vwCl [(h0, .inr (0, [.ref a0, .ref a1, .ref a2, .ref a3, .int k])), (a0, .inl (cA, 10, .inl w)), (a1, .inl (cA, 10, .inl (upd pr n (nI b)))), (a2, .inl (cA, 31, .inl vo)), (a3, .inl (cA, 31, .inl vf)), (o0, .inl (cL, 1, .inr (.inl (fun _ => (pr n).toInt64))))] H := hP
  exact W.iret (v := 0) hx hb hr (fun t ht _ => ⟨⟨0, (), rfl, rfl, by show va_P _ _ _ t.heap; rw [ht]; exact hP⟩, hS.F ht⟩) hS.2.2 dL_promise_22

set_option maxHeartbeats 4000000 in
set_option maxRecDepth 100000 in
theorem w_promise1 (l : Launch) (htr : l.stackTraces = false) (Bd : Nat) (dC : Nat → ClassId) (dI : Nat → Nat → Nat) (cA cL : ClassId) (h0 a0 a1 a2 a3 o0 : Nat) (w pr vo vf : Nat → Int32) (k : Int32) (fo : Nat → Int64) (sz : Nat) (x0 x1 : Int32) (hbad : (bb_out x0 (nI 10) || bb_out x1 (nI 31)) = true) : Met l yL_promise wsL_promise ({ frames := 8, cells := 1, slots := 6, locals := 160 }) (va_Pc [.ref h0, .int x0, .int x1, .ref o0] (fun U => U.heap.size = sz ∧ va_P (dC, dI) vwCl [(h0, .inr (0, [.ref a0, .ref a1, .ref a2, .ref a3, .int k])), (a0, .inl (cA, 10, .inl w)), (a1, .inl (cA, 10, .inl pr)), (a2, .inl (cA, 31, .inl vo)), (a3, .inl (cA, 31, .inl vf)), (o0, .inl (cL, 1, .inr (.inl fo)))] U.heap ∧ va_K (dC, dI) vwCl [(cA, .int), (cL, .long)] U ∧ va_D (fun _ => True) [(h0, .inr (0, [.ref a0, .ref a1, .ref a2, .ref a3, .int k])), (a0, .inl (cA, 10, .inl w)), (a1, .inl (cA, 10, .inl pr)), (a2, .inl (cA, 31, .inl vo)), (a3, .inl (cA, 31, .inl vf)), (o0, .inl (cL, 1, .inr (.inl fo)))] ∧ bb_TS Bd U)) (bb_Qm 1 (dC, dI) vwCl [(h0, .inr (0, [.ref a0, .ref a1, .ref a2, .ref a3, .int k])), (a0, .inl (cA, 10, .inl w)), (a1, .inl (cA, 10, .inl pr)), (a2, .inl (cA, 31, .inl vo)), (a3, .inl (cA, 31, .inl vf)), (o0, .inl (cL, 1, .inr (.inl fo)))] (va_A [(h0, .inr (0, [.ref a0, .ref a1, .ref a2, .ref a3, .int k])), (a0, .inl (cA, 10, .inl w)), (a1, .inl (cA, 10, .inl pr)), (a2, .inl (cA, 31, .inl vo)), (a3, .inl (cA, 31, .inl vf)), (o0, .inl (cL, 1, .inr (.inl fo)))] sz)) 1 6 (va_A [(h0, .inr (0, [.ref a0, .ref a1, .ref a2, .ref a3, .int k])), (a0, .inl (cA, 10, .inl w)), (a1, .inl (cA, 10, .inl pr)), (a2, .inl (cA, 31, .inl vo)), (a3, .inl (cA, 31, .inl vf)), (o0, .inl (cL, 1, .inr (.inl fo)))] sz) := by
  refine va_MetW (cc := cL_promise) (maxL := 5) (ret := some .int) (by decide) rfl ?_
  intro p e s m args below meth c s₁ B hml hv
  obtain ⟨rfl, hsz, hP, hK, hD0, hZ⟩ := hv
  have hx := B.exec
  have hb := B.bytes
  have hr := B.returns
  have hts := atoms_spec (ws := wsL_promise) B.pre
  have hown : s.vm.findClass RL = some m.cls := findClass_of_methodNamed B.named
  have hlocks := B.notSynchronized
  subst hsz
  have hK1 := hK.sub [0] (tys' := [(cA, .int)]) rfl
  have htab := bb_table (hts _ List.mem_cons_self) B.named B.method (Stand.of_body B).code
  have hD := hD0.self (sz := s.heap.size)
  generalize hAe : va_A [(h0, .inr (0, [.ref a0, .ref a1, .ref a2, .ref a3, .int k])), (a0, .inl (cA, 10, .inl w)), (a1, .inl (cA, 10, .inl pr)), (a2, .inl (cA, 31, .inl vo)), (a3, .inl (cA, 31, .inl vf)), (o0, .inl (cL, 1, .inr (.inl fo)))] s.heap.size = A at hD ⊢
  have hA : ∀ q : Nat, s.heap.size ≤ q → A q := fun q h => by rw [← hAe]; exact Or.inr h
  have hl := lv_entry ([.ref h0, .int x0, .int x1, .ref o0]) (n := 5) (Nat.le_of_ble_eq_true rfl)
  rw [lg_entry_eq]
  generalize (lg_sl ([.ref h0, .int x0, .int x1, .ref o0]) ++ List.replicate (5 - (lg_sl ([.ref h0, .int x0, .int x1, .ref o0])).length) Slot.unset).toArray = ls at hl ⊢
  have hl : lv_has ls 5 [(0, .ref h0), (1, .int x0), (2, .int x1), (3, .ref o0)] := hl
  refine lv_aload_n hx hb dL_promise_0 rfl (lv_at hl 3 rfl) ?_
  refine lv_iconst (v := nI 0) hx hb dL_promise_1 (by decide) ?_
  refine lv_aload_n hx hb dL_promise_2 rfl (lv_at hl 0 rfl) ?_
  refine lv_iload_n hx hb dL_promise_3 rfl (lv_at hl 1 rfl) ?_
  refine lv_iload_n hx hb dL_promise_4 rfl (lv_at hl 2 rfl) ?_
  have hPc : va_P (dC, dI) vwCl [(h0, .inr (0, [.ref a0, .ref a1, .ref a2, .ref a3, .int k])), (a0, .inl (cA, 10, .inl w)), (a1, .inl (cA, 10, .inl pr)), (a2, .inl (cA, 31, .inl vo)), (a3, .inl (cA, 31, .inl vf))] s.heap := bb_Pmid (pre := []) (wc := [(h0, .inr (0, [.ref a0, .ref a1, .ref a2, .ref a3, .int k])), (a0, .inl (cA, 10, .inl w)), (a1, .inl (cA, 10, .inl pr)), (a2, .inl (cA, 31, .inl vo)), (a3, .inl (cA, 31, .inl vf))]) (post := [(o0, .inl (cL, 1, .inr (.inl fo)))]) hP
  refine bb_cVt (As := [.int x0, .int x1]) (rest := [.int (nI 0), .ref o0]) ⟨hx, hb, hml, hown, hts⟩ (t_promise1 l htr Bd dC dI cA h0 a0 a1 a2 a3 w pr vo vf k x0 x1 hbad) (cwV 2 hts gL_promise_X0_promise rfl rfl rfl (by decide +kernel) ⟨Nat.le_of_ble_eq_true rfl, Nat.le_of_ble_eq_true rfl⟩) ⟨bb_Ptb, va_recv (D := (dC, dI)) (cl := vwCl) (ci := 0) (q0 := 0) hK1 hPc rfl rfl, fun U9 hU9 hW9 => ⟨rfl, ⟨by rw [hU9]; exact hPc, va_K.moved hW9.alike hK1⟩, hZ.mv hW9 (fun _ _ => by rw [hU9])⟩⟩ rfl hl.1 rfl (Nat.le_of_ble_eq_true rfl) dL_promise_5 (Nat.le_of_ble_eq_true rfl) (Nat.le_of_ble_eq_true rfl) (fun q9 H9 ce9 z9 o9 g1 g2 g3 => ?_)
  have hP9 := hP.kept (fun k9 x9 h9 => o9 x9.1 (hP k9 x9 h9).lt)
  have hS9 : va_S A s.heap H9 [] := ⟨z9, fun q h _ => o9 q h, fun _ h => by cases h⟩
  refine bb_hand1 hown htab (by decide) (by decide) (name := NSE) (hts _ (List.mem_cons_of_mem _ bb_u107)) (hZ.c1.use rfl) g1 g2 g3 ?_
  refine lv_astore (lv' := [(4, .ref q9), (0, .ref h0), (1, .int x0), (2, .int x1), (3, .ref o0)]) hx hb dL_promise_13 hl (by decide) rfl (fun ls hl => ?_)
  refine lv_iconst (v := 1) hx hb dL_promise_15 (by decide) ?_
  exact W.iret (v := 1) hx hb hr (fun t ht _ => ⟨⟨1, (), rfl, rfl, by show va_P _ _ _ t.heap; rw [ht]; exact hP9⟩, hS9.F ht⟩) hS9.2.2 dL_promise_16

set_option maxHeartbeats 4000000 in
set_option maxRecDepth 100000 in
theorem w_promise2 (l : Launch) (htr : l.stackTraces = false) (Bd : Nat) (dC : Nat → ClassId) (dI : Nat → Nat → Nat) (cA cL : ClassId) (h0 a0 a1 a2 a3 o0 : Nat) (w pr vo vf : Nat → Int32) (k : Int32) (fo : Nat → Int64) (sz : Nat) (n : Nat) (hn0 : n < 10) (b : Nat) (hb0 : b < 31) (hp : ¬ pr n ≤ nI b) : Met l yL_promise wsL_promise ({ frames := 8, cells := 1, slots := 6, locals := 160 }) (va_Pc [.ref h0, .int (nI n), .int (nI b), .ref o0] (fun U => U.heap.size = sz ∧ va_P (dC, dI) vwCl [(h0, .inr (0, [.ref a0, .ref a1, .ref a2, .ref a3, .int k])), (a0, .inl (cA, 10, .inl w)), (a1, .inl (cA, 10, .inl pr)), (a2, .inl (cA, 31, .inl vo)), (a3, .inl (cA, 31, .inl vf)), (o0, .inl (cL, 1, .inr (.inl fo)))] U.heap ∧ va_K (dC, dI) vwCl [(cA, .int), (cL, .long)] U ∧ va_D (fun _ => True) [(h0, .inr (0, [.ref a0, .ref a1, .ref a2, .ref a3, .int k])), (a0, .inl (cA, 10, .inl w)), (a1, .inl (cA, 10, .inl pr)), (a2, .inl (cA, 31, .inl vo)), (a3, .inl (cA, 31, .inl vf)), (o0, .inl (cL, 1, .inr (.inl fo)))] ∧ bb_TS Bd U)) (bb_Qm 2 (dC, dI) vwCl [(h0, .inr (0, [.ref a0, .ref a1, .ref a2, .ref a3, .int k])), (a0, .inl (cA, 10, .inl w)), (a1, .inl (cA, 10, .inl pr)), (a2, .inl (cA, 31, .inl vo)), (a3, .inl (cA, 31, .inl vf)), (o0, .inl (cL, 1, .inr (.inl fo)))] (va_A [(h0, .inr (0, [.ref a0, .ref a1, .ref a2, .ref a3, .int k])), (a0, .inl (cA, 10, .inl w)), (a1, .inl (cA, 10, .inl pr)), (a2, .inl (cA, 31, .inl vo)), (a3, .inl (cA, 31, .inl vf)), (o0, .inl (cL, 1, .inr (.inl fo)))] sz)) 1 6 (va_A [(h0, .inr (0, [.ref a0, .ref a1, .ref a2, .ref a3, .int k])), (a0, .inl (cA, 10, .inl w)), (a1, .inl (cA, 10, .inl pr)), (a2, .inl (cA, 31, .inl vo)), (a3, .inl (cA, 31, .inl vf)), (o0, .inl (cL, 1, .inr (.inl fo)))] sz) := by
  refine va_MetW (cc := cL_promise) (maxL := 5) (ret := some .int) (by decide) rfl ?_
  intro p e s m args below meth c s₁ B hml hv
  obtain ⟨rfl, hsz, hP, hK, hD0, hZ⟩ := hv
  have hx := B.exec
  have hb := B.bytes
  have hr := B.returns
  have hts := atoms_spec (ws := wsL_promise) B.pre
  have hown : s.vm.findClass RL = some m.cls := findClass_of_methodNamed B.named
  have hlocks := B.notSynchronized
  subst hsz
  have hK1 := hK.sub [0] (tys' := [(cA, .int)]) rfl
  have htab := bb_table (hts _ List.mem_cons_self) B.named B.method (Stand.of_body B).code
  have hD := hD0.self (sz := s.heap.size)
  generalize hAe : va_A [(h0, .inr (0, [.ref a0, .ref a1, .ref a2, .ref a3, .int k])), (a0, .inl (cA, 10, .inl w)), (a1, .inl (cA, 10, .inl pr)), (a2, .inl (cA, 31, .inl vo)), (a3, .inl (cA, 31, .inl vf)), (o0, .inl (cL, 1, .inr (.inl fo)))] s.heap.size = A at hD ⊢
  have hA : ∀ q : Nat, s.heap.size ≤ q → A q := fun q h => by rw [← hAe]; exact Or.inr h
  have hl := lv_entry ([.ref h0, .int (nI n), .int (nI b), .ref o0]) (n := 5) (Nat.le_of_ble_eq_true rfl)
  rw [lg_entry_eq]
  generalize (lg_sl ([.ref h0, .int (nI n), .int (nI b), .ref o0]) ++ List.replicate (5 - (lg_sl ([.ref h0, .int (nI n), .int (nI b), .ref o0])).length) Slot.unset).toArray = ls at hl ⊢
  have hl : lv_has ls 5 [(0, .ref h0), (1, .int (nI n)), (2, .int (nI b)), (3, .ref o0)] := hl
  refine lv_aload_n hx hb dL_promise_0 rfl (lv_at hl 3 rfl) ?_
  refine lv_iconst (v := nI 0) hx hb dL_promise_1 (by decide) ?_
  refine lv_aload_n hx hb dL_promise_2 rfl (lv_at hl 0 rfl) ?_
  refine lv_iload_n hx hb dL_promise_3 rfl (lv_at hl 1 rfl) ?_
  refine lv_iload_n hx hb dL_promise_4 rfl (lv_at hl 2 rfl) ?_
  have hPc : va_P (dC, dI) vwCl [(h0, .inr (0, [.ref a0, .ref a1, .ref a2, .ref a3, .int k])), (a0, .inl (cA, 10, .inl w)), (a1, .inl (cA, 10, .inl pr)), (a2, .inl (cA, 31, .inl vo)), (a3, .inl (cA, 31, .inl vf))] s.heap := bb_Pmid (pre := []) (wc := [(h0, .inr (0, [.ref a0, .ref a1, .ref a2, .ref a3, .int k])), (a0, .inl (cA, 10, .inl w)), (a1, .inl (cA, 10, .inl pr)), (a2, .inl (cA, 31, .inl vo)), (a3, .inl (cA, 31, .inl vf))]) (post := [(o0, .inl (cL, 1, .inr (.inl fo)))]) hP
  refine bb_cVt (As := [.int (nI n), .int (nI b)]) (rest := [.int (nI 0), .ref o0]) ⟨hx, hb, hml, hown, hts⟩ (t_promise2 l htr Bd dC dI cA h0 a0 a1 a2 a3 w pr vo vf k n hn0 b hb0 hp) (cwV 2 hts gL_promise_X0_promise rfl rfl rfl (by decide +kernel) ⟨Nat.le_of_ble_eq_true rfl, Nat.le_of_ble_eq_true rfl⟩) ⟨bb_Ptb, va_recv (D := (dC, dI)) (cl := vwCl) (ci := 0) (q0 := 0) hK1 hPc rfl rfl, fun U9 hU9 hW9 => ⟨rfl, ⟨by rw [hU9]; exact hPc, va_K.moved hW9.alike hK1⟩, hZ.mv hW9 (fun _ _ => by rw [hU9])⟩⟩ rfl hl.1 rfl (Nat.le_of_ble_eq_true rfl) dL_promise_5 (Nat.le_of_ble_eq_true rfl) (Nat.le_of_ble_eq_true rfl) (fun q9 H9 ce9 z9 o9 g1 g2 g3 => ?_)
  have hP9 := hP.kept (fun k9 x9 h9 => o9 x9.1 (hP k9 x9 h9).lt)
  have hS9 : va_S A s.heap H9 [] := ⟨z9, fun q h _ => o9 q h, fun _ h => by cases h⟩
  refine bb_hand2 hown htab (by decide) (by decide) (by decide) (by decide) (name := ISE) (name1 := NSE) (hts _ (List.mem_cons_of_mem _ bb_u107)) hZ.n2 (hts _ (List.mem_cons_of_mem _ bb_u211)) (hZ.c3.use rfl) g1 g2 g3 ?_
  refine lv_astore (lv' := [(4, .ref q9), (0, .ref h0), (1, .int (nI n)), (2, .int (nI b)), (3, .ref o0)]) hx hb dL_promise_17 hl (by decide) rfl (fun ls hl => ?_)
  refine lv_iconst (v := 2) hx hb dL_promise_19 (by decide) ?_
  exact W.iret (v := 2) hx hb hr (fun t ht _ => ⟨⟨2, (), rfl, rfl, by show va_P _ _ _ t.heap; rw [ht]; exact hP9⟩, hS9.F ht⟩) hS9.2.2 dL_promise_20

set_option maxHeartbeats 4000000 in
set_option maxRecDepth 100000 in
theorem w_vote (l : Launch) (dC : Nat → ClassId) (dI : Nat → Nat → Nat) (cA cL : ClassId) (h0 a0 a1 a2 a3 o0 : Nat) (w pr vo vf : Nat → Int32) (k : Int32) (fo : Nat → Int64) (sz : Nat) (n : Nat) (hn0 : n < 10) (b : Nat) (hb0 : b < 31) (v : Nat) (hv0 : v < 10) (hop : bb_op pr vo b n = true) (hon : bb_only vf b (nI v) = true) : Met l yL_vote wsL_vote ({ frames := 8, cells := 0, slots := 0, locals := 160 }) (va_Pc [.ref h0, .int (nI n), .int (nI b), .int (nI v), .ref o0] (fun U => U.heap.size = sz ∧ va_P (dC, dI) vwCl [(h0, .inr (0, [.ref a0, .ref a1, .ref a2, .ref a3, .int k])), (a0, .inl (cA, 10, .inl w)), (a1, .inl (cA, 10, .inl pr)), (a2, .inl (cA, 31, .inl vo)), (a3, .inl (cA, 31, .inl vf)), (o0, .inl (cL, 1, .inr (.inl fo)))] U.heap ∧ va_K (dC, dI) vwCl [(cA, .int), (cL, .long)] U ∧ va_D (fun _ => True) [(h0, .inr (0, [.ref a0, .ref a1, .ref a2, .ref a3, .int k])), (a0, .inl (cA, 10, .inl w)), (a1, .inl (cA, 10, .inl pr)), (a2, .inl (cA, 31, .inl vo)), (a3, .inl (cA, 31, .inl vf)), (o0, .inl (cL, 1, .inr (.inl fo)))] ∧ True)) (bb_Qm 0 (dC, dI) vwCl [(h0, .inr (0, [.ref a0, .ref a1, .ref a2, .ref a3, .int k])), (a0, .inl (cA, 10, .inl w)), (a1, .inl (cA, 10, .inl (upd pr n (nI b)))), (a2, .inl (cA, 31, .inl (upd vo b (vo b ||| (1 <<< (nI n &&& 31)))))), (a3, .inl (cA, 31, .inl (upd vf b (nI v)))), (o0, .inl (cL, 1, .inr (.inl (fun _ => (bb_bc (vo b ||| (1 <<< (nI n &&& 31)))).toInt64))))] (va_A [(h0, .inr (0, [.ref a0, .ref a1, .ref a2, .ref a3, .int k])), (a0, .inl (cA, 10, .inl w)), (a1, .inl (cA, 10, .inl pr)), (a2, .inl (cA, 31, .inl vo)), (a3, .inl (cA, 31, .inl vf)), (o0, .inl (cL, 1, .inr (.inl fo)))] sz)) 0 0 (va_A [(h0, .inr (0, [.ref a0, .ref a1, .ref a2, .ref a3, .int k])), (a0, .inl (cA, 10, .inl w)), (a1, .inl (cA, 10, .inl pr)), (a2, .inl (cA, 31, .inl vo)), (a3, .inl (cA, 31, .inl vf)), (o0, .inl (cL, 1, .inr (.inl fo)))] sz) := by
  refine va_MetW (cc := cL_vote) (maxL := 6) (ret := some .int) (by decide) rfl ?_
  intro p e s m args below meth c s₁ B hml hv
  obtain ⟨rfl, hsz, hP, hK, hD0, -⟩ := hv
  have hx := B.exec
  have hb := B.bytes
  have hr := B.returns
  have hts := atoms_spec (ws := wsL_vote) B.pre
  have hown : s.vm.findClass RL = some m.cls := findClass_of_methodNamed B.named
  have hlocks := B.notSynchronized
  subst hsz
  have hK1 := hK.sub [0] (tys' := [(cA, .int)]) rfl
  have hD := hD0.self (sz := s.heap.size)
  generalize hAe : va_A [(h0, .inr (0, [.ref a0, .ref a1, .ref a2, .ref a3, .int k])), (a0, .inl (cA, 10, .inl w)), (a1, .inl (cA, 10, .inl pr)), (a2, .inl (cA, 31, .inl vo)), (a3, .inl (cA, 31, .inl vf)), (o0, .inl (cL, 1, .inr (.inl fo)))] s.heap.size = A at hD ⊢
  have hA : ∀ q : Nat, s.heap.size ≤ q → A q := fun q h => by rw [← hAe]; exact Or.inr h
  have hl := lv_entry ([.ref h0, .int (nI n), .int (nI b), .int (nI v), .ref o0]) (n := 6) (Nat.le_of_ble_eq_true rfl)
  rw [lg_entry_eq]
  generalize (lg_sl ([.ref h0, .int (nI n), .int (nI b), .int (nI v), .ref o0]) ++ List.replicate (6 - (lg_sl ([.ref h0, .int (nI n), .int (nI b), .int (nI v), .ref o0])).length) Slot.unset).toArray = ls at hl ⊢
  have hl : lv_has ls 6 [(0, .ref h0), (1, .int (nI n)), (2, .int (nI b)), (3, .int (nI v)), (4, .ref o0)] := hl
  refine bb_gen hP hD (fun H locs hP hD hS => ?_)
  refine lv_aload hx hb dL_vote_0 (lv_at hl 4 rfl) ?_
  refine lv_iconst (v := nI 0) hx hb dL_vote_2 (by decide) ?_
  refine lv_aload_n hx hb dL_vote_3 rfl (lv_at hl 0 rfl) ?_
  refine lv_iload_n hx hb dL_vote_4 rfl (lv_at hl 1 rfl) ?_
  refine lv_iload_n hx hb dL_vote_5 rfl (lv_at hl 2 rfl) ?_
  refine lv_iload_n hx hb dL_vote_6 rfl (lv_at hl 3 rfl) ?_
  have hPc : va_P (dC, dI) vwCl [(h0, .inr (0, [.ref a0, .ref a1, .ref a2, .ref a3, .int k])), (a0, .inl (cA, 10, .inl w)), (a1, .inl (cA, 10, .inl pr)), (a2, .inl (cA, 31, .inl vo)), (a3, .inl (cA, 31, .inl vf))] H := bb_Pmid (pre := []) (wc := [(h0, .inr (0, [.ref a0, .ref a1, .ref a2, .ref a3, .int k])), (a0, .inl (cA, 10, .inl w)), (a1, .inl (cA, 10, .inl pr)), (a2, .inl (cA, 31, .inl vo)), (a3, .inl (cA, 31, .inl vf))]) (post := [(o0, .inl (cL, 1, .inr (.inl fo)))]) hP
  refine bb_cVf (As := [.int (nI n), .int (nI b), .int (nI v)]) (rest := [.int (nI 0), .ref o0]) (r := bb_bc (vo b ||| (1 <<< (nI n &&& 31)))) (pre := []) (wc := [(h0, .inr (0, [.ref a0, .ref a1, .ref a2, .ref a3, .int k])), (a0, .inl (cA, 10, .inl w)), (a1, .inl (cA, 10, .inl pr)), (a2, .inl (cA, 31, .inl vo)), (a3, .inl (cA, 31, .inl vf))]) (post := [(o0, .inl (cL, 1, .inr (.inl fo)))]) (wc' := [(h0, .inr (0, [.ref a0, .ref a1, .ref a2, .ref a3, .int k])), (a0, .inl (cA, 10, .inl w)), (a1, .inl (cA, 10, .inl (upd pr n (nI b)))), (a2, .inl (cA, 31, .inl (upd vo b (vo b ||| (1 <<< (nI n &&& 31)))))), (a3, .inl (cA, 31, .inl (upd vf b (nI v))))]) 0 ⟨hx, hb, hml, hown, hts⟩ (j_vote l dC dI cA h0 a0 a1 a2 a3 w pr vo vf k H.size n hn0 b hb0 v hv0 hop hon) (cwV 3 hts gL_vote_X0_vote rfl rfl rfl (by decide +kernel) ⟨Nat.le_of_ble_eq_true rfl, Nat.le_of_ble_eq_true rfl⟩) hP hK1 hD hS hA rfl rfl rfl rfl hl.1 rfl (Nat.le_of_ble_eq_true rfl) dL_vote_7 (Nat.le_of_ble_eq_true rfl) (Nat.le_of_ble_eq_true rfl) (fun H locs hP hD hS => ?_)
  have hP : va_P (dC, dI) vwCl [(h0, .inr (0, [.ref a0, .ref a1, .ref a2, .ref a3, .int k])), (a0, .inl (cA, 10, .inl w)), (a1, .inl (cA, 10, .inl (upd pr n (nI b)))), (a2, .inl (cA, 31, .inl (upd vo b (vo b ||| (1 <<< (nI n &&& 31)))))), (a3, .inl (cA, 31, .inl (upd vf b (nI v)))), (o0, .inl (cL, 1, .inr (.inl fo)))] H := hP
  have hD : va_D A [(h0, .inr (0, [.ref a0, .ref a1, .ref a2, .ref a3, .int k])), (a0, .inl (cA, 10, .inl w)), (a1, .inl (cA, 10, .inl (upd pr n (nI b)))), (a2, .inl (cA, 31, .inl (upd vo b (vo b ||| (1 <<< (nI n &&& 31)))))), (a3, .inl (cA, 31, .inl (upd vf b (nI v)))), (o0, .inl (cL, 1, .inr (.inl fo)))] := hD
  refine lv_i2l (v := (bb_bc (vo b ||| (1 <<< (nI n &&& 31)))).toInt64) hx hb dL_vote_10 rfl ?_
  refine va_last hx hb hK hP hD hS 5 1 rfl rfl (vp_in_nI (by decide) (by decide)) dL_vote_11 (fun H locs hP hD hS => ?_)
  have hP : va_P (dC, dI) vwCl [(h0, .inr (0, [.ref a0, .ref a1, .ref a2, .ref a3, .int k])), (a0, .inl (cA, 10, .inl w)), (a1, .inl (cA, 10, .inl (upd pr n (nI b)))), (a2, .inl (cA, 31, .inl (upd vo b (vo b ||| (1 <<< (nI n &&& 31)))))), (a3, .inl (cA, 31, .inl (upd vf b (nI v)))), (o0, .inl (cL, 1, .inr (.inl (vp_updL fo (nI 0).toNatClampNeg ((bb_bc (vo b ||| (1 <<< (nI n &&& 31)))).toInt64)))))] H := hP
  have hD : va_D A [(h0, .inr (0, [.ref a0, .ref a1, .ref a2, .ref a3, .int k])), (a0, .inl (cA, 10, .inl w)), (a1, .inl (cA, 10, .inl (upd pr n (nI b)))), (a2, .inl (cA, 31, .inl (upd vo b (vo b ||| (1 <<< (nI n &&& 31)))))), (a3, .inl (cA, 31, .inl (upd vf b (nI v)))), (o0, .inl (cL, 1, .inr (.inl (vp_updL fo (nI 0).toNatClampNeg ((bb_bc (vo b ||| (1 <<< (nI n &&& 31)))).toInt64)))))] := hD
  refine lv_goto (tgt := 23) hx hb dL_vote_12 rfl ?_
  refine lv_iconst (v := 0) hx hb dL_vote_23 (by decide) ?_
  have hP := bb_P_extL (g := (fun _ => (bb_bc (vo b ||| (1 <<< (nI n &&& 31)))).toInt64)) hP hD (q0 := 5) rfl (fun j9 h9 => bb_upL h9)
  have hP : va_P (dC, dI) vwCl [(h0, .inr (0, [.ref a0, .ref a1, .ref a2, .ref a3, .int k])), (a0, .inl (cA, 10, .inl w)), (a1, .inl (cA, 10, .inl (upd pr n (nI b)))), (a2, .inl (cA, 31, .inl (upd vo b (vo b ||| (1 <<< (nI n &&& 31)))))), (a3, .inl (cA, 31, .inl (upd vf b (nI v)))), (o0, .inl (cL, 1, .inr (.inl (fun _ => (bb_bc (vo b ||| (1 <<< (nI n &&& 31)))).toInt64))))] H := hP
  exact W.iret (v := 0) hx hb hr (fun t ht _ => ⟨⟨0, (), rfl, rfl, by show va_P _ _ _ t.heap; rw [ht]; exact hP⟩, hS.F ht⟩) hS.2.2 dL_vote_24

set_option maxHeartbeats 4000000 in
set_option maxRecDepth 100000 in
theorem w_vote1 (l : Launch) (htr : l.stackTraces = false) (Bd : Nat) (dC : Nat → ClassId) (dI : Nat → Nat → Nat) (cA cL : ClassId) (h0 a0 a1 a2 a3 o0 : Nat) (w pr vo vf : Nat → Int32) (k : Int32) (fo : Nat → Int64) (sz : Nat) (x0 x1 x2 : Int32) (hbad : (bb_out x0 (nI 10) || bb_out x1 (nI 31) || bb_out x2 (nI 10)) = true) : Met l yL_vote wsL_vote ({ frames := 8, cells := 1, slots := 6, locals := 160 }) (va_Pc [.ref h0, .int x0, .int x1, .int x2, .ref o0] (fun U => U.heap.size = sz ∧ va_P (dC, dI) vwCl [(h0, .inr (0, [.ref a0, .ref a1, .ref a2, .ref a3, .int k])), (a0, .inl (cA, 10, .inl w)), (a1, .inl (cA, 10, .inl pr)), (a2, .inl (cA, 31, .inl vo)), (a3, .inl (cA, 31, .inl vf)), (o0, .inl (cL, 1, .inr (.inl fo)))] U.heap ∧ va_K (dC, dI) vwCl [(cA, .int), (cL, .long)] U ∧ va_D (fun _ => True) [(h0, .inr (0, [.ref a0, .ref a1, .ref a2, .ref a3, .int k])), (a0, .inl (cA, 10, .inl w)), (a1, .inl (cA, 10, .inl pr)), (a2, .inl (cA, 31, .inl vo)), (a3, .inl (cA, 31, .inl vf)), (o0, .inl (cL, 1, .inr (.inl fo)))] ∧ bb_TS Bd U)) (bb_Qm 1 (dC, dI) vwCl [(h0, .inr (0, [.ref a0, .ref a1, .ref a2, .ref a3, .int k])), (a0, .inl (cA, 10, .inl w)), (a1, .inl (cA, 10, .inl pr)), (a2, .inl (cA, 31, .inl vo)), (a3, .inl (cA, 31, .inl vf)), (o0, .inl (cL, 1, .inr (.inl fo)))] (va_A [(h0, .inr (0, [.ref a0, .ref a1, .ref a2, .ref a3, .int k])), (a0, .inl (cA, 10, .inl w)), (a1, .inl (cA, 10, .inl pr)), (a2, .inl (cA, 31, .inl vo)), (a3, .inl (cA, 31, .inl vf)), (o0, .inl (cL, 1, .inr (.inl fo)))] sz)) 1 6 (va_A [(h0, .inr (0, [.ref a0, .ref a1, .ref a2, .ref a3, .int k])), (a0, .inl (cA, 10, .inl w)), (a1, .inl (cA, 10, .inl pr)), (a2, .inl (cA, 31, .inl vo)), (a3, .inl (cA, 31, .inl vf)), (o0, .inl (cL, 1, .inr (.inl fo)))] sz) := by
  refine va_MetW (cc := cL_vote) (maxL := 6) (ret := some .int) (by decide) rfl ?_
  intro p e s m args below meth c s₁ B hml hv
  obtain ⟨rfl, hsz, hP, hK, hD0, hZ⟩ := hv
  have hx := B.exec
  have hb := B.bytes
  have hr := B.returns
  have hts := atoms_spec (ws := wsL_vote) B.pre
  have hown : s.vm.findClass RL = some m.cls := findClass_of_methodNamed B.named
  have hlocks := B.notSynchronized
  subst hsz
  have hK1 := hK.sub [0] (tys' := [(cA, .int)]) rfl
  have htab := bb_table (hts _ List.mem_cons_self) B.named B.method (Stand.of_body B).code
  have hD := hD0.self (sz := s.heap.size)
  generalize hAe : va_A [(h0, .inr (0, [.ref a0, .ref a1, .ref a2, .ref a3, .int k])), (a0, .inl (cA, 10, .inl w)), (a1, .inl (cA, 10, .inl pr)), (a2, .inl (cA, 31, .inl vo)), (a3, .inl (cA, 31, .inl vf)), (o0, .inl (cL, 1, .inr (.inl fo)))] s.heap.size = A at hD ⊢
  have hA : ∀ q : Nat, s.heap.size ≤ q → A q := fun q h => by rw [← hAe]; exact Or.inr h
  have hl := lv_entry ([.ref h0, .int x0, .int x1, .int x2, .ref o0]) (n := 6) (Nat.le_of_ble_eq_true rfl)
  rw [lg_entry_eq]
  generalize (lg_sl ([.ref h0, .int x0, .int x1, .int x2, .ref o0]) ++ List.replicate (6 - (lg_sl ([.ref h0, .int x0, .int x1, .int x2, .ref o0])).length) Slot.unset).toArray = ls at hl ⊢
  have hl : lv_has ls 6 [(0, .ref h0), (1, .int x0), (2, .int x1), (3, .int x2), (4, .ref o0)] := hl
  refine lv_aload hx hb dL_vote_0 (lv_at hl 4 rfl) ?_
  refine lv_iconst (v := nI 0) hx hb dL_vote_2 (by decide) ?_
  refine lv_aload_n hx hb dL_vote_3 rfl (lv_at hl 0 rfl) ?_
  refine lv_iload_n hx hb dL_vote_4 rfl (lv_at hl 1 rfl) ?_
  refine lv_iload_n hx hb dL_vote_5 rfl (lv_at hl 2 rfl) ?_
  refine lv_iload_n hx hb dL_vote_6 rfl (lv_at hl 3 rfl) ?_
  have hPc : va_P (dC, dI) vwCl [(h0, .inr (0, [.ref a0, .ref a1, .ref a2, .ref a3, .int k])), (a0, .inl (cA, 10, .inl w)), (a1, .inl (cA, 10, .inl pr)), (a2, .inl (cA, 31, .inl vo)), (a3, .inl (cA, 31, .inl vf))] s.heap := bb_Pmid (pre := []) (wc := [(h0, .inr (0, [.ref a0, .ref a1, .ref a2, .ref a3, .int k])), (a0, .inl (cA, 10, .inl w)), (a1, .inl (cA, 10, .inl pr)), (a2, .inl (cA, 31, .inl vo)), (a3, .inl (cA, 31, .inl vf))]) (post := [(o0, .inl (cL, 1, .inr (.inl fo)))]) hP
  refine bb_cVt (As := [.int x0, .int x1, .int x2]) (rest := [.int (nI 0), .ref o0]) ⟨hx, hb, hml, hown, hts⟩ (t_vote1 l htr Bd dC dI cA h0 a0 a1 a2 a3 w pr vo vf k x0 x1 x2 hbad) (cwV 3 hts gL_vote_X0_vote rfl rfl rfl (by decide +kernel) ⟨Nat.le_of_ble_eq_true rfl, Nat.le_of_ble_eq_true rfl⟩) ⟨bb_Ptb, va_recv (D := (dC, dI)) (cl := vwCl) (ci := 0) (q0 := 0) hK1 hPc rfl rfl, fun U9 hU9 hW9 => ⟨rfl, ⟨by rw [hU9]; exact hPc, va_K.moved hW9.alike hK1⟩, hZ.mv hW9 (fun _ _ => by rw [hU9])⟩⟩ rfl hl.1 rfl (Nat.le_of_ble_eq_true rfl) dL_vote_7 (Nat.le_of_ble_eq_true rfl) (Nat.le_of_ble_eq_true rfl) (fun q9 H9 ce9 z9 o9 g1 g2 g3 => ?_)
  have hP9 := hP.kept (fun k9 x9 h9 => o9 x9.1 (hP k9 x9 h9).lt)
  have hS9 : va_S A s.heap H9 [] := ⟨z9, fun q h _ => o9 q h, fun _ h => by cases h⟩
  refine bb_hand1 hown htab (by decide) (by decide) (name := NSE) (hts _ (List.mem_cons_of_mem _ bb_u107)) (hZ.c1.use rfl) g1 g2 g3 ?_
  refine lv_astore (lv' := [(5, .ref q9), (0, .ref h0), (1, .int x0), (2, .int x1), (3, .int x2), (4, .ref o0)]) hx hb dL_vote_15 hl (by decide) rfl (fun ls hl => ?_)
  refine lv_iconst (v := 1) hx hb dL_vote_17 (by decide) ?_
  exact W.iret (v := 1) hx hb hr (fun t ht _ => ⟨⟨1, (), rfl, rfl, by show va_P _ _ _ t.heap; rw [ht]; exact hP9⟩, hS9.F ht⟩) hS9.2.2 dL_vote_18

set_option maxHeartbeats 4000000 in
set_option maxRecDepth 100000 in
theorem w_vote2 (l : Launch) (htr : l.stackTraces = false) (Bd : Nat) (dC : Nat → ClassId) (dI : Nat → Nat → Nat) (cA cL : ClassId) (h0 a0 a1 a2 a3 o0 : Nat) (w pr vo vf : Nat → Int32) (k : Int32) (fo : Nat → Int64) (sz : Nat) (n : Nat) (hn0 : n < 10) (b : Nat) (hb0 : b < 31) (v : Nat) (hv0 : v < 10) (hb2 : (!bb_op pr vo b n || !bb_only vf b (nI v)) = true) : Met l yL_vote wsL_vote ({ frames := 8, cells := 1, slots := 6, locals := 160 }) (va_Pc [.ref h0, .int (nI n), .int (nI b), .int (nI v), .ref o0] (fun U => U.heap.size = sz ∧ va_P (dC, dI) vwCl [(h0, .inr (0, [.ref a0, .ref a1, .ref a2, .ref a3, .int k])), (a0, .inl (cA, 10, .inl w)), (a1, .inl (cA, 10, .inl pr)), (a2, .inl (cA, 31, .inl vo)), (a3, .inl (cA, 31, .inl vf)), (o0, .inl (cL, 1, .inr (.inl fo)))] U.heap ∧ va_K (dC, dI) vwCl [(cA, .int), (cL, .long)] U ∧ va_D (fun _ => True) [(h0, .inr (0, [.ref a0, .ref a1, .ref a2, .ref a3, .int k])), (a0, .inl (cA, 10, .inl w)), (a1, .inl (cA, 10, .inl pr)), (a2, .inl (cA, 31, .inl vo)), (a3, .inl (cA, 31, .inl vf)), (o0, .inl (cL, 1, .inr (.inl fo)))] ∧ bb_TS Bd U)) (bb_Qm 2 (dC, dI) vwCl [(h0, .inr (0, [.ref a0, .ref a1, .ref a2, .ref a3, .int k])), (a0, .inl (cA, 10, .inl w)), (a1, .inl (cA, 10, .inl pr)), (a2, .inl (cA, 31, .inl vo)), (a3, .inl (cA, 31, .inl vf)), (o0, .inl (cL, 1, .inr (.inl fo)))] (va_A [(h0, .inr (0, [.ref a0, .ref a1, .ref a2, .ref a3, .int k])), (a0, .inl (cA, 10, .inl w)), (a1, .inl (cA, 10, .inl pr)), (a2, .inl (cA, 31, .inl vo)), (a3, .inl (cA, 31, .inl vf)), (o0, .inl (cL, 1, .inr (.inl fo)))] sz)) 1 6 (va_A [(h0, .inr (0, [.ref a0, .ref a1, .ref a2, .ref a3, .int k])), (a0, .inl (cA, 10, .inl w)), (a1, .inl (cA, 10, .inl pr)), (a2, .inl (cA, 31, .inl vo)), (a3, .inl (cA, 31, .inl vf)), (o0, .inl (cL, 1, .inr (.inl fo)))] sz) := by
  refine va_MetW (cc := cL_vote) (maxL := 6) (ret := some .int) (by decide) rfl ?_
  intro p e s m args below meth c s₁ B hml hv
  obtain ⟨rfl, hsz, hP, hK, hD0, hZ⟩ := hv
  have hx := B.exec
  have hb := B.bytes
  have hr := B.returns
  have hts := atoms_spec (ws := wsL_vote) B.pre
  have hown : s.vm.findClass RL = some m.cls := findClass_of_methodNamed B.named
  have hlocks := B.notSynchronized
  subst hsz
  have hK1 := hK.sub [0] (tys' := [(cA, .int)]) rfl
  have htab := bb_table (hts _ List.mem_cons_self) B.named B.method (Stand.of_body B).code
  have hD := hD0.self (sz := s.heap.size)
  generalize hAe : va_A [(h0, .inr (0, [.ref a0, .ref a1, .ref a2, .ref a3, .int k])), (a0, .inl (cA, 10, .inl w)), (a1, .inl (cA, 10, .inl pr)), (a2, .inl (cA, 31, .inl vo)), (a3, .inl (cA, 31, .inl vf)), (o0, .inl (cL, 1, .inr (.inl fo)))] s.heap.size = A at hD ⊢
  have hA : ∀ q : Nat, s.heap.size ≤ q → A q := fun q h => by rw [← hAe]; exact Or.inr h
  have hl := lv_entry ([.ref h0, .int (nI n), .int (nI b), .int (nI v), .ref o0]) (n := 6) (Nat.le_of_ble_eq_true rfl)
  rw [lg_entry_eq]
  generalize (lg_sl ([.ref h0, .int (nI n), .int (nI b), .int (nI v), .ref o0]) ++ List.replicate (6 - (lg_sl ([.ref h0, .int (nI n), .int (nI b), .int (nI v), .ref o0])).length) Slot.unset).toArray = ls at hl ⊢
  have hl : lv_has ls 6 [(0, .ref h0), (1, .int (nI n)), (2, .int (nI b)), (3, .int (nI v)), (4, .ref o0)] := hl
  refine lv_aload hx hb dL_vote_0 (lv_at hl 4 rfl) ?_
  refine lv_iconst (v := nI 0) hx hb dL_vote_2 (by decide) ?_
  refine lv_aload_n hx hb dL_vote_3 rfl (lv_at hl 0 rfl) ?_
  refine lv_iload_n hx hb dL_vote_4 rfl (lv_at hl 1 rfl) ?_
  refine lv_iload_n hx hb dL_vote_5 rfl (lv_at hl 2 rfl) ?_
  refine lv_iload_n hx hb dL_vote_6 rfl (lv_at hl 3 rfl) ?_
  have hPc : va_P (dC, dI) vwCl [(h0, .inr (0, [.ref a0, .ref a1, .ref a2, .ref a3, .int k])), (a0, .inl (cA, 10, .inl w)), (a1, .inl (cA, 10, .inl pr)), (a2, .inl (cA, 31, .inl vo)), (a3, .inl (cA, 31, .inl vf))] s.heap := bb_Pmid (pre := []) (wc := [(h0, .inr (0, [.ref a0, .ref a1, .ref a2, .ref a3, .int k])), (a0, .inl (cA, 10, .inl w)), (a1, .inl (cA, 10, .inl pr)), (a2, .inl (cA, 31, .inl vo)), (a3, .inl (cA, 31, .inl vf))]) (post := [(o0, .inl (cL, 1, .inr (.inl fo)))]) hP
  refine bb_cVt (As := [.int (nI n), .int (nI b), .int (nI v)]) (rest := [.int (nI 0), .ref o0]) ⟨hx, hb, hml, hown, hts⟩ (t_vote2 l htr Bd dC dI cA h0 a0 a1 a2 a3 w pr vo vf k n hn0 b hb0 v hv0 hb2) (cwV 3 hts gL_vote_X0_vote rfl rfl rfl (by decide +kernel) ⟨Nat.le_of_ble_eq_true rfl, Nat.le_of_ble_eq_true rfl⟩) ⟨bb_Ptb, va_recv (D := (dC, dI)) (cl := vwCl) (ci := 0) (q0 := 0) hK1 hPc rfl rfl, fun U9 hU9 hW9 => ⟨rfl, ⟨by rw [hU9]; exact hPc, va_K.moved hW9.alike hK1⟩, hZ.mv hW9 (fun _ _ => by rw [hU9])⟩⟩ rfl hl.1 rfl (Nat.le_of_ble_eq_true rfl) dL_vote_7 (Nat.le_of_ble_eq_true rfl) (Nat.le_of_ble_eq_true rfl) (fun q9 H9 ce9 z9 o9 g1 g2 g3 => ?_)
  have hP9 := hP.kept (fun k9 x9 h9 => o9 x9.1 (hP k9 x9 h9).lt)
  have hS9 : va_S A s.heap H9 [] := ⟨z9, fun q h _ => o9 q h, fun _ h => by cases h⟩
  refine bb_hand2 hown htab (by decide) (by decide) (by decide) (by decide) (name := ISE) (name1 := NSE) (hts _ (List.mem_cons_of_mem _ bb_u107)) hZ.n2 (hts _ (List.mem_cons_of_mem _ bb_u211)) (hZ.c3.use rfl) g1 g2 g3 ?_
  refine lv_astore (lv' := [(5, .ref q9), (0, .ref h0), (1, .int (nI n)), (2, .int (nI b)), (3, .int (nI v)), (4, .ref o0)]) hx hb dL_vote_19 hl (by decide) rfl (fun ls hl => ?_)
  refine lv_iconst (v := 2) hx hb dL_vote_21 (by decide) ?_
  exact W.iret (v := 2) hx hb hr (fun t ht _ => ⟨⟨2, (), rfl, rfl, by show va_P _ _ _ t.heap; rw [ht]; exact hP9⟩, hS9.F ht⟩) hS9.2.2 dL_vote_22

set_option maxHeartbeats 4000000 in
set_option maxRecDepth 100000 in
theorem w_ask (l : Launch) (dC : Nat → ClassId) (dI : Nat → Nat → Nat) (cA cL : ClassId) (h0 a0 a1 a2 a3 o0 : Nat) (w pr vo vf : Nat → Int32) (k : Int32) (fo : Nat → Int64) (sz : Nat) (a : Nat) (ha0 : a < 1024) (b : Nat) (hb0 : b < 31) (hen : bb_en w k (nI a) = true) (hle : bb_hm pr (nI a) 10 ≤ nI b) : Met l yL_ask wsL_ask ({ frames := 8, cells := 0, slots := 0, locals := 160 }) (va_Pc [.ref h0, .int (nI a), .int (nI b), .ref o0] (fun U => U.heap.size = sz ∧ va_P (dC, dI) vwCl [(h0, .inr (0, [.ref a0, .ref a1, .ref a2, .ref a3, .int k])), (a0, .inl (cA, 10, .inl w)), (a1, .inl (cA, 10, .inl pr)), (a2, .inl (cA, 31, .inl vo)), (a3, .inl (cA, 31, .inl vf)), (o0, .inl (cL, 1, .inr (.inl fo)))] U.heap ∧ va_K (dC, dI) vwCl [(cA, .int), (cL, .long)] U ∧ va_D (fun _ => True) [(h0, .inr (0, [.ref a0, .ref a1, .ref a2, .ref a3, .int k])), (a0, .inl (cA, 10, .inl w)), (a1, .inl (cA, 10, .inl pr)), (a2, .inl (cA, 31, .inl vo)), (a3, .inl (cA, 31, .inl vf)), (o0, .inl (cL, 1, .inr (.inl fo)))] ∧ True)) (bb_Qm 0 (dC, dI) vwCl [(h0, .inr (0, [.ref a0, .ref a1, .ref a2, .ref a3, .int k])), (a0, .inl (cA, 10, .inl w)), (a1, .inl (cA, 10, .inl (bb_pal pr (nI a) (nI b) 10))), (a2, .inl (cA, 31, .inl vo)), (a3, .inl (cA, 31, .inl vf)), (o0, .inl (cL, 1, .inr (.inl (fun _ => (bb_ask vo vf (nI a) b).toInt64))))] (va_A [(h0, .inr (0, [.ref a0, .ref a1, .ref a2, .ref a3, .int k])), (a0, .inl (cA, 10, .inl w)), (a1, .inl (cA, 10, .inl pr)), (a2, .inl (cA, 31, .inl vo)), (a3, .inl (cA, 31, .inl vf)), (o0, .inl (cL, 1, .inr (.inl fo)))] sz)) 0 0 (va_A [(h0, .inr (0, [.ref a0, .ref a1, .ref a2, .ref a3, .int k])), (a0, .inl (cA, 10, .inl w)), (a1, .inl (cA, 10, .inl pr)), (a2, .inl (cA, 31, .inl vo)), (a3, .inl (cA, 31, .inl vf)), (o0, .inl (cL, 1, .inr (.inl fo)))] sz) := by
  refine va_MetW (cc := cL_ask) (maxL := 5) (ret := some .int) (by decide) rfl ?_
  intro p e s m args below meth c s₁ B hml hv
  obtain ⟨rfl, hsz, hP, hK, hD0, -⟩ := hv
  have hx := B.exec
  have hb := B.bytes
  have hr := B.returns
  have hts := atoms_spec (ws := wsL_ask) B.pre
  have hown : s.vm.findClass RL = some m.cls := findClass_of_methodNamed B.named
  have hlocks := B.notSynchronized
  subst hsz
  have hK1 := hK.sub [0] (tys' := [(cA, .int)]) rfl
  have hD := hD0.self (sz := s.heap.size)
  generalize hAe : va_A [(h0, .inr (0, [.ref a0, .ref a1, .ref a2, .ref a3, .int k])), (a0, .inl (cA, 10, .inl w)), (a1, .inl (cA, 10, .inl pr)), (a2, .inl (cA, 31, .inl vo)), (a3, .inl (cA, 31, .inl vf)), (o0, .inl (cL, 1, .inr (.inl fo)))] s.heap.size = A at hD ⊢
  have hA : ∀ q : Nat, s.heap.size ≤ q → A q := fun q h => by rw [← hAe]; exact Or.inr h
  have hl := lv_entry ([.ref h0, .int (nI a), .int (nI b), .ref o0]) (n := 5) (Nat.le_of_ble_eq_true rfl)
  rw [lg_entry_eq]
  generalize (lg_sl ([.ref h0, .int (nI a), .int (nI b), .ref o0]) ++ List.replicate (5 - (lg_sl ([.ref h0, .int (nI a), .int (nI b), .ref o0])).length) Slot.unset).toArray = ls at hl ⊢
  have hl : lv_has ls 5 [(0, .ref h0), (1, .int (nI a)), (2, .int (nI b)), (3, .ref o0)] := hl
  refine bb_gen hP hD (fun H locs hP hD hS => ?_)
  refine lv_aload_n hx hb dL_ask_0 rfl (lv_at hl 3 rfl) ?_
  refine lv_iconst (v := nI 0) hx hb dL_ask_1 (by decide) ?_
  refine lv_aload_n hx hb dL_ask_2 rfl (lv_at hl 0 rfl) ?_
  refine lv_iload_n hx hb dL_ask_3 rfl (lv_at hl 1 rfl) ?_
  refine lv_iload_n hx hb dL_ask_4 rfl (lv_at hl 2 rfl) ?_
  have hPc : va_P (dC, dI) vwCl [(h0, .inr (0, [.ref a0, .ref a1, .ref a2, .ref a3, .int k])), (a0, .inl (cA, 10, .inl w)), (a1, .inl (cA, 10, .inl pr)), (a2, .inl (cA, 31, .inl vo)), (a3, .inl (cA, 31, .inl vf))] H := bb_Pmid (pre := []) (wc := [(h0, .inr (0, [.ref a0, .ref a1, .ref a2, .ref a3, .int k])), (a0, .inl (cA, 10, .inl w)), (a1, .inl (cA, 10, .inl pr)), (a2, .inl (cA, 31, .inl vo)), (a3, .inl (cA, 31, .inl vf))]) (post := [(o0, .inl (cL, 1, .inr (.inl fo)))]) hP
  refine bb_cVf (As := [.int (nI a), .int (nI b)]) (rest := [.int (nI 0), .ref o0]) (r := bb_ask vo vf (nI a) b) (pre := []) (wc := [(h0, .inr (0, [.ref a0, .ref a1, .ref a2, .ref a3, .int k])), (a0, .inl (cA, 10, .inl w)), (a1, .inl (cA, 10, .inl pr)), (a2, .inl (cA, 31, .inl vo)), (a3, .inl (cA, 31, .inl vf))]) (post := [(o0, .inl (cL, 1, .inr (.inl fo)))]) (wc' := [(h0, .inr (0, [.ref a0, .ref a1, .ref a2, .ref a3, .int k])), (a0, .inl (cA, 10, .inl w)), (a1, .inl (cA, 10, .inl (bb_pal pr (nI a) (nI b) 10))), (a2, .inl (cA, 31, .inl vo)), (a3, .inl (cA, 31, .inl vf))]) 0 ⟨hx, hb, hml, hown, hts⟩ (j_ask l dC dI cA h0 a0 a1 a2 a3 w pr vo vf k H.size a ha0 b hb0 hen hle) (cwV 2 hts gL_ask_X0_ask rfl rfl rfl (by decide +kernel) ⟨Nat.le_of_ble_eq_true rfl, Nat.le_of_ble_eq_true rfl⟩) hP hK1 hD hS hA rfl rfl rfl rfl hl.1 rfl (Nat.le_of_ble_eq_true rfl) dL_ask_5 (Nat.le_of_ble_eq_true rfl) (Nat.le_of_ble_eq_true rfl) (fun H locs hP hD hS => ?_)
  have hP : va_P (dC, dI) vwCl [(h0, .inr (0, [.ref a0, .ref a1, .ref a2, .ref a3, .int k])), (a0, .inl (cA, 10, .inl w)), (a1, .inl (cA, 10, .inl (bb_pal pr (nI a) (nI b) 10))), (a2, .inl (cA, 31, .inl vo)), (a3, .inl (cA, 31, .inl vf)), (o0, .inl (cL, 1, .inr (.inl fo)))] H := hP
  have hD : va_D A [(h0, .inr (0, [.ref a0, .ref a1, .ref a2, .ref a3, .int k])), (a0, .inl (cA, 10, .inl w)), (a1, .inl (cA, 10, .inl (bb_pal pr (nI a) (nI b) 10))), (a2, .inl (cA, 31, .inl vo)), (a3, .inl (cA, 31, .inl vf)), (o0, .inl (cL, 1, .inr (.inl fo)))] := hD
  refine lv_i2l (v := (bb_ask vo vf (nI a) b).toInt64) hx hb dL_ask_8 rfl ?_
  refine va_last hx hb hK hP hD hS 5 1 rfl rfl (vp_in_nI (by decide) (by decide)) dL_ask_9 (fun H locs hP hD hS => ?_)
  have hP : va_P (dC, dI) vwCl [(h0, .inr (0, [.ref a0, .ref a1, .ref a2, .ref a3, .int k])), (a0, .inl (cA, 10, .inl w)), (a1, .inl (cA, 10, .inl (bb_pal pr (nI a) (nI b) 10))), (a2, .inl (cA, 31, .inl vo)), (a3, .inl (cA, 31, .inl vf)), (o0, .inl (cL, 1, .inr (.inl (vp_updL fo (nI 0).toNatClampNeg ((bb_ask vo vf (nI a) b).toInt64)))))] H := hP
  have hD : va_D A [(h0, .inr (0, [.ref a0, .ref a1, .ref a2, .ref a3, .int k])), (a0, .inl (cA, 10, .inl w)), (a1, .inl (cA, 10, .inl (bb_pal pr (nI a) (nI b) 10))), (a2, .inl (cA, 31, .inl vo)), (a3, .inl (cA, 31, .inl vf)), (o0, .inl (cL, 1, .inr (.inl (vp_updL fo (nI 0).toNatClampNeg ((bb_ask vo vf (nI a) b).toInt64)))))] := hD
  refine lv_goto (tgt := 21) hx hb dL_ask_10 rfl ?_
  refine lv_iconst (v := 0) hx hb dL_ask_21 (by decide) ?_
  have hP := bb_P_extL (g := (fun _ => (bb_ask vo vf (nI a) b).toInt64)) hP hD (q0 := 5) rfl (fun j9 h9 => bb_upL h9)
  have hP : va_P (dC, dI) vwCl [(h0, .inr (0, [.ref a0, .ref a1, .ref a2, .ref a3, .int k])), (a0, .inl (cA, 10, .inl w)), (a1, .inl (cA, 10, .inl (bb_pal pr (nI a) (nI b) 10))), (a2, .inl (cA, 31, .inl vo)), (a3, .inl (cA, 31, .inl vf)), (o0, .inl (cL, 1, .inr (.inl (fun _ => (bb_ask vo vf (nI a) b).toInt64))))] H := hP
  exact W.iret (v := 0) hx hb hr (fun t ht _ => ⟨⟨0, (), rfl, rfl, by show va_P _ _ _ t.heap; rw [ht]; exact hP⟩, hS.F ht⟩) hS.2.2 dL_ask_22

set_option maxHeartbeats 4000000 in
set_option maxRecDepth 100000 in
theorem w_ask1 (l : Launch) (htr : l.stackTraces = false) (Bd : Nat) (dC : Nat → ClassId) (dI : Nat → Nat → Nat) (cA cL : ClassId) (h0 a0 a1 a2 a3 o0 : Nat) (w pr vo vf : Nat → Int32) (k : Int32) (fo : Nat → Int64) (sz : Nat) (x0 x1 : Int32) (hbad : (bb_out x0 (nI 1024) || bb_out x1 (nI 31)) = true) : Met l yL_ask wsL_ask ({ frames := 8, cells := 1, slots := 6, locals := 160 }) (va_Pc [.ref h0, .int x0, .int x1, .ref o0] (fun U => U.heap.size = sz ∧ va_P (dC, dI) vwCl [(h0, .inr (0, [.ref a0, .ref a1, .ref a2, .ref a3, .int k])), (a0, .inl (cA, 10, .inl w)), (a1, .inl (cA, 10, .inl pr)), (a2, .inl (cA, 31, .inl vo)), (a3, .inl (cA, 31, .inl vf)), (o0, .inl (cL, 1, .inr (.inl fo)))] U.heap ∧ va_K (dC, dI) vwCl [(cA, .int), (cL, .long)] U ∧ va_D (fun _ => True) [(h0, .inr (0, [.ref a0, .ref a1, .ref a2, .ref a3, .int k])), (a0, .inl (cA, 10, .inl w)), (a1, .inl (cA, 10, .inl pr)), (a2, .inl (cA, 31, .inl vo)), (a3, .inl (cA, 31, .inl vf)), (o0, .inl (cL, 1, .inr (.inl fo)))] ∧ bb_TS Bd U)) (bb_Qm 1 (dC, dI) vwCl [(h0, .inr (0, [.ref a0, .ref a1, .ref a2, .ref a3, .int k])), (a0, .inl (cA, 10, .inl w)), (a1, .inl (cA, 10, .inl pr)), (a2, .inl (cA, 31, .inl vo)), (a3, .inl (cA, 31, .inl vf)), (o0, .inl (cL, 1, .inr (.inl fo)))] (va_A [(h0, .inr (0, [.ref a0, .ref a1, .ref a2, .ref a3, .int k])), (a0, .inl (cA, 10, .inl w)), (a1, .inl (cA, 10, .inl pr)), (a2, .inl (cA, 31, .inl vo)), (a3, .inl (cA, 31, .inl vf)), (o0, .inl (cL, 1, .inr (.inl fo)))] sz)) 1 6 (va_A [(h0, .inr (0, [.ref a0, .ref a1, .ref a2, .ref a3, .int k])), (a0, .inl (cA, 10, .inl w)), (a1, .inl (cA, 10, .inl pr)), (a2, .inl (cA, 31, .inl vo)), (a3, .inl (cA, 31, .inl vf)), (o0, .inl (cL, 1, .inr (.inl fo)))] sz) := by
  refine va_MetW (cc := cL_ask) (maxL := 5) (ret := some .int) (by decide) rfl ?_
  intro p e s m args below meth c s₁ B hml hv
  obtain ⟨rfl, hsz, hP, hK, hD0, hZ⟩ := hv
  have hx := B.exec
  have hb := B.bytes
  have hr := B.returns
  have hts := atoms_spec (ws := wsL_ask) B.pre
  have hown : s.vm.findClass RL = some m.cls := findClass_of_methodNamed B.named
  have hlocks := B.notSynchronized
  subst hsz
  have hK1 := hK.sub [0] (tys' := [(cA, .int)]) rfl
  have htab := bb_table (hts _ List.mem_cons_self) B.named B.method (Stand.of_body B).code
  have hD := hD0.self (sz := s.heap.size)
  generalize hAe : va_A [(h0, .inr (0, [.ref a0, .ref a1, .ref a2, .ref a3, .int k])), (a0, .inl (cA, 10, .inl w)), (a1, .inl (cA, 10, .inl pr)), (a2, .inl (cA, 31, .inl vo)), (a3, .inl (cA, 31, .inl vf)), (o0, .inl (cL, 1, .inr (.inl fo)))] s.heap.size = A at hD ⊢
  have hA : ∀ q : Nat, s.heap.size ≤ q → A q := fun q h => by rw [← hAe]; exact Or.inr h
  have hl := lv_entry ([.ref h0, .int x0, .int x1, .ref o0]) (n := 5) (Nat.le_of_ble_eq_true rfl)
  rw [lg_entry_eq]
  generalize (lg_sl ([.ref h0, .int x0, .int x1, .ref o0]) ++ List.replicate (5 - (lg_sl ([.ref h0, .int x0, .int x1, .ref o0])).length) Slot.unset).toArray = ls at hl ⊢
  have hl : lv_has ls 5 [(0, .ref h0), (1, .int x0), (2, .int x1), (3, .ref o0)] := hl
  refine lv_aload_n hx hb dL_ask_0 rfl (lv_at hl 3 rfl) ?_
  refine lv_iconst (v := nI 0) hx hb dL_ask_1 (by decide) ?_
  refine lv_aload_n hx hb dL_ask_2 rfl (lv_at hl 0 rfl) ?_
  refine lv_iload_n hx hb dL_ask_3 rfl (lv_at hl 1 rfl) ?_
  refine lv_iload_n hx hb dL_ask_4 rfl (lv_at hl 2 rfl) ?_
  have hPc : va_P (dC, dI) vwCl [(h0, .inr (0, [.ref a0, .ref a1, .ref a2, .ref a3, .int k])), (a0, .inl (cA, 10, .inl w)), (a1, .inl (cA, 10, .inl pr)), (a2, .inl (cA, 31, .inl vo)), (a3, .inl (cA, 31, .inl vf))] s.heap := bb_Pmid (pre := []) (wc := [(h0, .inr (0, [.ref a0, .ref a1, .ref a2, .ref a3, .int k])), (a0, .inl (cA, 10, .inl w)), (a1, .inl (cA, 10, .inl pr)), (a2, .inl (cA, 31, .inl vo)), (a3, .inl (cA, 31, .inl vf))]) (post := [(o0, .inl (cL, 1, .inr (.inl fo)))]) hP
  refine bb_cVt (As := [.int x0, .int x1]) (rest := [.int (nI 0), .ref o0]) ⟨hx, hb, hml, hown, hts⟩ (t_ask1 l htr Bd dC dI cA h0 a0 a1 a2 a3 w pr vo vf k x0 x1 hbad) (cwV 2 hts gL_ask_X0_ask rfl rfl rfl (by decide +kernel) ⟨Nat.le_of_ble_eq_true rfl, Nat.le_of_ble_eq_true rfl⟩) ⟨bb_Ptb, va_recv (D := (dC, dI)) (cl := vwCl) (ci := 0) (q0 := 0) hK1 hPc rfl rfl, fun U9 hU9 hW9 => ⟨rfl, ⟨by rw [hU9]; exact hPc, va_K.moved hW9.alike hK1⟩, hZ.mv hW9 (fun _ _ => by rw [hU9])⟩⟩ rfl hl.1 rfl (Nat.le_of_ble_eq_true rfl) dL_ask_5 (Nat.le_of_ble_eq_true rfl) (Nat.le_of_ble_eq_true rfl) (fun q9 H9 ce9 z9 o9 g1 g2 g3 => ?_)
  have hP9 := hP.kept (fun k9 x9 h9 => o9 x9.1 (hP k9 x9 h9).lt)
  have hS9 : va_S A s.heap H9 [] := ⟨z9, fun q h _ => o9 q h, fun _ h => by cases h⟩
  refine bb_hand1 hown htab (by decide) (by decide) (name := NSE) (hts _ (List.mem_cons_of_mem _ bb_u107)) (hZ.c1.use rfl) g1 g2 g3 ?_
  refine lv_astore (lv' := [(4, .ref q9), (0, .ref h0), (1, .int x0), (2, .int x1), (3, .ref o0)]) hx hb dL_ask_13 hl (by decide) rfl (fun ls hl => ?_)
  refine lv_iconst (v := 1) hx hb dL_ask_15 (by decide) ?_
  exact W.iret (v := 1) hx hb hr (fun t ht _ => ⟨⟨1, (), rfl, rfl, by show va_P _ _ _ t.heap; rw [ht]; exact hP9⟩, hS9.F ht⟩) hS9.2.2 dL_ask_16

set_option maxHeartbeats 4000000 in
set_option maxRecDepth 100000 in
theorem w_ask2 (l : Launch) (htr : l.stackTraces = false) (Bd : Nat) (dC : Nat → ClassId) (dI : Nat → Nat → Nat) (cA cL : ClassId) (h0 a0 a1 a2 a3 o0 : Nat) (w pr vo vf : Nat → Int32) (k : Int32) (fo : Nat → Int64) (sz : Nat) (a : Nat) (ha0 : a < 1024) (b : Nat) (hb0 : b < 31) (hb2 : (!bb_en w k (nI a) || !decide (bb_hm pr (nI a) 10 ≤ nI b)) = true) : Met l yL_ask wsL_ask ({ frames := 8, cells := 1, slots := 6, locals := 160 }) (va_Pc [.ref h0, .int (nI a), .int (nI b), .ref o0] (fun U => U.heap.size = sz ∧ va_P (dC, dI) vwCl [(h0, .inr (0, [.ref a0, .ref a1, .ref a2, .ref a3, .int k])), (a0, .inl (cA, 10, .inl w)), (a1, .inl (cA, 10, .inl pr)), (a2, .inl (cA, 31, .inl vo)), (a3, .inl (cA, 31, .inl vf)), (o0, .inl (cL, 1, .inr (.inl fo)))] U.heap ∧ va_K (dC, dI) vwCl [(cA, .int), (cL, .long)] U ∧ va_D (fun _ => True) [(h0, .inr (0, [.ref a0, .ref a1, .ref a2, .ref a3, .int k])), (a0, .inl (cA, 10, .inl w)), (a1, .inl (cA, 10, .inl pr)), (a2, .inl (cA, 31, .inl vo)), (a3, .inl (cA, 31, .inl vf)), (o0, .inl (cL, 1, .inr (.inl fo)))] ∧ bb_TS Bd U)) (bb_Qm 2 (dC, dI) vwCl [(h0, .inr (0, [.ref a0, .ref a1, .ref a2, .ref a3, .int k])), (a0, .inl (cA, 10, .inl w)), (a1, .inl (cA, 10, .inl pr)), (a2, .inl (cA, 31, .inl vo)), (a3, .inl (cA, 31, .inl vf)), (o0, .inl (cL, 1, .inr (.inl fo)))] (va_A [(h0, .inr (0, [.ref a0, .ref a1, .ref a2, .ref a3, .int k])), (a0, .inl (cA, 10, .inl w)), (a1, .inl (cA, 10, .inl pr)), (a2, .inl (cA, 31, .inl vo)), (a3, .inl (cA, 31, .inl vf)), (o0, .inl (cL, 1, .inr (.inl fo)))] sz)) 1 6 (va_A [(h0, .inr (0, [.ref a0, .ref a1, .ref a2, .ref a3, .int k])), (a0, .inl (cA, 10, .inl w)), (a1, .inl (cA, 10, .inl pr)), (a2, .inl (cA, 31, .inl vo)), (a3, .inl (cA, 31, .inl vf)), (o0, .inl (cL, 1, .inr (.inl fo)))] sz) := by
  refine va_MetW (cc := cL_ask) (maxL := 5) (ret := some .int) (by decide) rfl ?_
  intro p e s m args below meth c s₁ B hml hv
  obtain ⟨rfl, hsz, hP, hK, hD0, hZ⟩ := hv
  have hx := B.exec
  have hb := B.bytes
  have hr := B.returns
  have hts := atoms_spec (ws := wsL_ask) B.pre
  have hown : s.vm.findClass RL = some m.cls := findClass_of_methodNamed B.named
  have hlocks := B.notSynchronized
  subst hsz
  have hK1 := hK.sub [0] (tys' := [(cA, .int)]) rfl
  have htab := bb_table (hts _ List.mem_cons_self) B.named B.method (Stand.of_body B).code
  have hD := hD0.self (sz := s.heap.size)
  generalize hAe : va_A [(h0, .inr (0, [.ref a0, .ref a1, .ref a2, .ref a3, .int k])), (a0, .inl (cA, 10, .inl w)), (a1, .inl (cA, 10, .inl pr)), (a2, .inl (cA, 31, .inl vo)), (a3, .inl (cA, 31, .inl vf)), (o0, .inl (cL, 1, .inr (.inl fo)))] s.heap.size = A at hD ⊢
  have hA : ∀ q : Nat, s.heap.size ≤ q → A q := fun q h => by rw [← hAe]; exact Or.inr h
  have hl := lv_entry ([.ref h0, .int (nI a), .int (nI b), .ref o0]) (n := 5) (Nat.le_of_ble_eq_true rfl)
  rw [lg_entry_eq]
  generalize (lg_sl ([.ref h0, .int (nI a), .int (nI b), .ref o0]) ++ List.replicate (5 - (lg_sl ([.ref h0, .int (nI a), .int (nI b), .ref o0])).length) Slot.unset).toArray = ls at hl ⊢
  have hl : lv_has ls 5 [(0, .ref h0), (1, .int (nI a)), (2, .int (nI b)), (3, .ref o0)] := hl
  refine lv_aload_n hx hb dL_ask_0 rfl (lv_at hl 3 rfl) ?_
  refine lv_iconst (v := nI 0) hx hb dL_ask_1 (by decide) ?_
  refine lv_aload_n hx hb dL_ask_2 rfl (lv_at hl 0 rfl) ?_
  refine lv_iload_n hx hb dL_ask_3 rfl (lv_at hl 1 rfl) ?_
  refine lv_iload_n hx hb dL_ask_4 rfl (lv_at hl 2 rfl) ?_
  have hPc : va_P (dC, dI) vwCl [(h0, .inr (0, [.ref a0, .ref a1, .ref a2, .ref a3, .int k])), (a0, .inl (cA, 10, .inl w)), (a1, .inl (cA, 10, .inl pr)), (a2, .inl (cA, 31, .inl vo)), (a3, .inl (cA, 31, .inl vf))] s.heap := bb_Pmid (pre := []) (wc := [(h0, .inr (0, [.ref a0, .ref a1, .ref a2, .ref a3, .int k])), (a0, .inl (cA, 10, .inl w)), (a1, .inl (cA, 10, .inl pr)), (a2, .inl (cA, 31, .inl vo)), (a3, .inl (cA, 31, .inl vf))]) (post := [(o0, .inl (cL, 1, .inr (.inl fo)))]) hP
  refine bb_cVt (As := [.int (nI a), .int (nI b)]) (rest := [.int (nI 0), .ref o0]) ⟨hx, hb, hml, hown, hts⟩ (t_ask2 l htr Bd dC dI cA h0 a0 a1 a2 a3 w pr vo vf k a ha0 b hb0 hb2) (cwV 2 hts gL_ask_X0_ask rfl rfl rfl (by decide +kernel) ⟨Nat.le_of_ble_eq_true rfl, Nat.le_of_ble_eq_true rfl⟩) ⟨bb_Ptb, va_recv (D := (dC, dI)) (cl := vwCl) (ci := 0) (q0 := 0) hK1 hPc rfl rfl, fun U9 hU9 hW9 => ⟨rfl, ⟨by rw [hU9]; exact hPc, va_K.moved hW9.alike hK1⟩, hZ.mv hW9 (fun _ _ => by rw [hU9])⟩⟩ rfl hl.1 rfl (Nat.le_of_ble_eq_true rfl) dL_ask_5 (Nat.le_of_ble_eq_true rfl) (Nat.le_of_ble_eq_true rfl) (fun q9 H9 ce9 z9 o9 g1 g2 g3 => ?_)
  have hP9 := hP.kept (fun k9 x9 h9 => o9 x9.1 (hP k9 x9 h9).lt)
  have hS9 : va_S A s.heap H9 [] := ⟨z9, fun q h _ => o9 q h, fun _ h => by cases h⟩
  refine bb_hand2 hown htab (by decide) (by decide) (by decide) (by decide) (name := ISE) (name1 := NSE) (hts _ (List.mem_cons_of_mem _ bb_u107)) hZ.n2 (hts _ (List.mem_cons_of_mem _ bb_u211)) (hZ.c3.use rfl) g1 g2 g3 ?_
  refine lv_astore (lv' := [(4, .ref q9), (0, .ref h0), (1, .int (nI a)), (2, .int (nI b)), (3, .ref o0)]) hx hb dL_ask_17 hl (by decide) rfl (fun ls hl => ?_)
  refine lv_iconst (v := 2) hx hb dL_ask_19 (by decide) ?_
  exact W.iret (v := 2) hx hb hr (fun t ht _ => ⟨⟨2, (), rfl, rfl, by show va_P _ _ _ t.heap; rw [ht]; exact hP9⟩, hS9.F ht⟩) hS9.2.2 dL_ask_20

set_option maxHeartbeats 4000000 in
set_option maxRecDepth 100000 in
theorem w_chosen (l : Launch) (dC : Nat → ClassId) (dI : Nat → Nat → Nat) (cA cL : ClassId) (h0 a0 a1 a2 a3 o0 : Nat) (w pr vo vf : Nat → Int32) (k : Int32) (fo : Nat → Int64) (sz : Nat) (b : Nat) (hb0 : b < 31) : Met l yL_chosen wsL_chosen ({ frames := 8, cells := 0, slots := 0, locals := 160 }) (va_Pc [.ref h0, .int (nI b), .ref o0] (fun U => U.heap.size = sz ∧ va_P (dC, dI) vwCl [(h0, .inr (0, [.ref a0, .ref a1, .ref a2, .ref a3, .int k])), (a0, .inl (cA, 10, .inl w)), (a1, .inl (cA, 10, .inl pr)), (a2, .inl (cA, 31, .inl vo)), (a3, .inl (cA, 31, .inl vf)), (o0, .inl (cL, 1, .inr (.inl fo)))] U.heap ∧ va_K (dC, dI) vwCl [(cA, .int), (cL, .long)] U ∧ va_D (fun _ => True) [(h0, .inr (0, [.ref a0, .ref a1, .ref a2, .ref a3, .int k])), (a0, .inl (cA, 10, .inl w)), (a1, .inl (cA, 10, .inl pr)), (a2, .inl (cA, 31, .inl vo)), (a3, .inl (cA, 31, .inl vf)), (o0, .inl (cL, 1, .inr (.inl fo)))] ∧ True)) (bb_Qm 0 (dC, dI) vwCl [(h0, .inr (0, [.ref a0, .ref a1, .ref a2, .ref a3, .int k])), (a0, .inl (cA, 10, .inl w)), (a1, .inl (cA, 10, .inl pr)), (a2, .inl (cA, 31, .inl vo)), (a3, .inl (cA, 31, .inl vf)), (o0, .inl (cL, 1, .inr (.inl (fun _ => (bb_cho w k vo vf b).toInt64))))] (va_A [(h0, .inr (0, [.ref a0, .ref a1, .ref a2, .ref a3, .int k])), (a0, .inl (cA, 10, .inl w)), (a1, .inl (cA, 10, .inl pr)), (a2, .inl (cA, 31, .inl vo)), (a3, .inl (cA, 31, .inl vf)), (o0, .inl (cL, 1, .inr (.inl fo)))] sz)) 0 0 (va_A [(h0, .inr (0, [.ref a0, .ref a1, .ref a2, .ref a3, .int k])), (a0, .inl (cA, 10, .inl w)), (a1, .inl (cA, 10, .inl pr)), (a2, .inl (cA, 31, .inl vo)), (a3, .inl (cA, 31, .inl vf)), (o0, .inl (cL, 1, .inr (.inl fo)))] sz) := by
  refine va_MetW (cc := cL_chosen) (maxL := 4) (ret := some .int) (by decide) rfl ?_
  intro p e s m args below meth c s₁ B hml hv
  obtain ⟨rfl, hsz, hP, hK, hD0, -⟩ := hv
  have hx := B.exec
  have hb := B.bytes
  have hr := B.returns
  have hts := atoms_spec (ws := wsL_chosen) B.pre
  have hown : s.vm.findClass RL = some m.cls := findClass_of_methodNamed B.named
  have hlocks := B.notSynchronized
  subst hsz
  have hK1 := hK.sub [0] (tys' := [(cA, .int)]) rfl
  have hD := hD0.self (sz := s.heap.size)
  generalize hAe : va_A [(h0, .inr (0, [.ref a0, .ref a1, .ref a2, .ref a3, .int k])), (a0, .inl (cA, 10, .inl w)), (a1, .inl (cA, 10, .inl pr)), (a2, .inl (cA, 31, .inl vo)), (a3, .inl (cA, 31, .inl vf)), (o0, .inl (cL, 1, .inr (.inl fo)))] s.heap.size = A at hD ⊢
  have hA : ∀ q : Nat, s.heap.size ≤ q → A q := fun q h => by rw [← hAe]; exact Or.inr h
  have hl := lv_entry ([.ref h0, .int (nI b), .ref o0]) (n := 4) (Nat.le_of_ble_eq_true rfl)
  rw [lg_entry_eq]
  generalize (lg_sl ([.ref h0, .int (nI b), .ref o0]) ++ List.replicate (4 - (lg_sl ([.ref h0, .int (nI b), .ref o0])).length) Slot.unset).toArray = ls at hl ⊢
  have hl : lv_has ls 4 [(0, .ref h0), (1, .int (nI b)), (2, .ref o0)] := hl
  refine bb_gen hP hD (fun H locs hP hD hS => ?_)
  refine lv_aload_n hx hb dL_chosen_0 rfl (lv_at hl 2 rfl) ?_
  refine lv_iconst (v := nI 0) hx hb dL_chosen_1 (by decide) ?_
  refine lv_aload_n hx hb dL_chosen_2 rfl (lv_at hl 0 rfl) ?_
  refine lv_iload_n hx hb dL_chosen_3 rfl (lv_at hl 1 rfl) ?_
  have hPc : va_P (dC, dI) vwCl [(h0, .inr (0, [.ref a0, .ref a1, .ref a2, .ref a3, .int k])), (a0, .inl (cA, 10, .inl w)), (a1, .inl (cA, 10, .inl pr)), (a2, .inl (cA, 31, .inl vo)), (a3, .inl (cA, 31, .inl vf))] H := bb_Pmid (pre := []) (wc := [(h0, .inr (0, [.ref a0, .ref a1, .ref a2, .ref a3, .int k])), (a0, .inl (cA, 10, .inl w)), (a1, .inl (cA, 10, .inl pr)), (a2, .inl (cA, 31, .inl vo)), (a3, .inl (cA, 31, .inl vf))]) (post := [(o0, .inl (cL, 1, .inr (.inl fo)))]) hP
  refine bb_cV (As := [.int (nI b)]) (rest := [.int (nI 0), .ref o0]) (r := bb_cho w k vo vf b) 0 ⟨hx, hb, hml, hown, hts⟩ (k_chosen l dC dI cA h0 a0 a1 a2 a3 w pr vo vf k b hb0) (cwV 1 hts gL_chosen_X0_chosen rfl rfl rfl (by decide +kernel) ⟨Nat.le_of_ble_eq_true rfl, Nat.le_of_ble_eq_true rfl⟩) hPc hK1 rfl rfl rfl hl.1 rfl (Nat.le_of_ble_eq_true rfl) dL_chosen_4 (Nat.zero_le _) (Nat.zero_le _) ?_
  refine lv_i2l (v := (bb_cho w k vo vf b).toInt64) hx hb dL_chosen_7 rfl ?_
  refine va_last hx hb hK hP hD hS 5 1 rfl rfl (vp_in_nI (by decide) (by decide)) dL_chosen_8 (fun H locs hP hD hS => ?_)
  have hP : va_P (dC, dI) vwCl [(h0, .inr (0, [.ref a0, .ref a1, .ref a2, .ref a3, .int k])), (a0, .inl (cA, 10, .inl w)), (a1, .inl (cA, 10, .inl pr)), (a2, .inl (cA, 31, .inl vo)), (a3, .inl (cA, 31, .inl vf)), (o0, .inl (cL, 1, .inr (.inl (vp_updL fo (nI 0).toNatClampNeg ((bb_cho w k vo vf b).toInt64)))))] H := hP
  have hD : va_D A [(h0, .inr (0, [.ref a0, .ref a1, .ref a2, .ref a3, .int k])), (a0, .inl (cA, 10, .inl w)), (a1, .inl (cA, 10, .inl pr)), (a2, .inl (cA, 31, .inl vo)), (a3, .inl (cA, 31, .inl vf)), (o0, .inl (cL, 1, .inr (.inl (vp_updL fo (nI 0).toNatClampNeg ((bb_cho w k vo vf b).toInt64)))))] := hD
  refine lv_goto (tgt := 15) hx hb dL_chosen_9 rfl ?_
  refine lv_iconst (v := 0) hx hb dL_chosen_15 (by decide) ?_
  have hP := bb_P_extL (g := (fun _ => (bb_cho w k vo vf b).toInt64)) hP hD (q0 := 5) rfl (fun j9 h9 => bb_upL h9)
  have hP : va_P (dC, dI) vwCl [(h0, .inr (0, [.ref a0, .ref a1, .ref a2, .ref a3, .int k])), (a0, .inl (cA, 10, .inl w)), (a1, .inl (cA, 10, .inl pr)), (a2, .inl (cA, 31, .inl vo)), (a3, .inl (cA, 31, .inl vf)), (o0, .inl (cL, 1, .inr (.inl (fun _ => (bb_cho w k vo vf b).toInt64))))] H := hP
  exact W.iret (v := 0) hx hb hr (fun t ht _ => ⟨⟨0, (), rfl, rfl, by show va_P _ _ _ t.heap; rw [ht]; exact hP⟩, hS.F ht⟩) hS.2.2 dL_chosen_16

set_option maxHeartbeats 4000000 in
set_option maxRecDepth 100000 in
theorem w_chosen1 (l : Launch) (htr : l.stackTraces = false) (Bd : Nat) (dC : Nat → ClassId) (dI : Nat → Nat → Nat) (cA cL : ClassId) (h0 a0 a1 a2 a3 o0 : Nat) (w pr vo vf : Nat → Int32) (k : Int32) (fo : Nat → Int64) (sz : Nat) (x0 : Int32) (hbad : bb_out x0 (nI 31) = true) : Met l yL_chosen wsL_chosen ({ frames := 8, cells := 1, slots := 6, locals := 160 }) (va_Pc [.ref h0, .int x0, .ref o0] (fun U => U.heap.size = sz ∧ va_P (dC, dI) vwCl [(h0, .inr (0, [.ref a0, .ref a1, .ref a2, .ref a3, .int k])), (a0, .inl (cA, 10, .inl w)), (a1, .inl (cA, 10, .inl pr)), (a2, .inl (cA, 31, .inl vo)), (a3, .inl (cA, 31, .inl vf)), (o0, .inl (cL, 1, .inr (.inl fo)))] U.heap ∧ va_K (dC, dI) vwCl [(cA, .int), (cL, .long)] U ∧ va_D (fun _ => True) [(h0, .inr (0, [.ref a0, .ref a1, .ref a2, .ref a3, .int k])), (a0, .inl (cA, 10, .inl w)), (a1, .inl (cA, 10, .inl pr)), (a2, .inl (cA, 31, .inl vo)), (a3, .inl (cA, 31, .inl vf)), (o0, .inl (cL, 1, .inr (.inl fo)))] ∧ bb_TS Bd U)) (bb_Qm 1 (dC, dI) vwCl [(h0, .inr (0, [.ref a0, .ref a1, .ref a2, .ref a3, .int k])), (a0, .inl (cA, 10, .inl w)), (a1, .inl (cA, 10, .inl pr)), (a2, .inl (cA, 31, .inl vo)), (a3, .inl (cA, 31, .inl vf)), (o0, .inl (cL, 1, .inr (.inl fo)))] (va_A [(h0, .inr (0, [.ref a0, .ref a1, .ref a2, .ref a3, .int k])), (a0, .inl (cA, 10, .inl w)), (a1, .inl (cA, 10, .inl pr)), (a2, .inl (cA, 31, .inl vo)), (a3, .inl (cA, 31, .inl vf)), (o0, .inl (cL, 1, .inr (.inl fo)))] sz)) 1 6 (va_A [(h0, .inr (0, [.ref a0, .ref a1, .ref a2, .ref a3, .int k])), (a0, .inl (cA, 10, .inl w)), (a1, .inl (cA, 10, .inl pr)), (a2, .inl (cA, 31, .inl vo)), (a3, .inl (cA, 31, .inl vf)), (o0, .inl (cL, 1, .inr (.inl fo)))] sz) := by
  refine va_MetW (cc := cL_chosen) (maxL := 4) (ret := some .int) (by decide) rfl ?_
  intro p e s m args below meth c s₁ B hml hv
  obtain ⟨rfl, hsz, hP, hK, hD0, hZ⟩ := hv
  have hx := B.exec
  have hb := B.bytes
  have hr := B.returns
  have hts := atoms_spec (ws := wsL_chosen) B.pre
  have hown : s.vm.findClass RL = some m.cls := findClass_of_methodNamed B.named
  have hlocks := B.notSynchronized
  subst hsz
  have hK1 := hK.sub [0] (tys' := [(cA, .int)]) rfl
  have htab := bb_table (hts _ List.mem_cons_self) B.named B.method (Stand.of_body B).code
  have hD := hD0.self (sz := s.heap.size)
  generalize hAe : va_A [(h0, .inr (0, [.ref a0, .ref a1, .ref a2, .ref a3, .int k])), (a0, .inl (cA, 10, .inl w)), (a1, .inl (cA, 10, .inl pr)), (a2, .inl (cA, 31, .inl vo)), (a3, .inl (cA, 31, .inl vf)), (o0, .inl (cL, 1, .inr (.inl fo)))] s.heap.size = A at hD ⊢
  have hA : ∀ q : Nat, s.heap.size ≤ q → A q := fun q h => by rw [← hAe]; exact Or.inr h
  have hl := lv_entry ([.ref h0, .int x0, .ref o0]) (n := 4) (Nat.le_of_ble_eq_true rfl)
  rw [lg_entry_eq]
  generalize (lg_sl ([.ref h0, .int x0, .ref o0]) ++ List.replicate (4 - (lg_sl ([.ref h0, .int x0, .ref o0])).length) Slot.unset).toArray = ls at hl ⊢
  have hl : lv_has ls 4 [(0, .ref h0), (1, .int x0), (2, .ref o0)] := hl
  refine lv_aload_n hx hb dL_chosen_0 rfl (lv_at hl 2 rfl) ?_
  refine lv_iconst (v := nI 0) hx hb dL_chosen_1 (by decide) ?_
  refine lv_aload_n hx hb dL_chosen_2 rfl (lv_at hl 0 rfl) ?_
  refine lv_iload_n hx hb dL_chosen_3 rfl (lv_at hl 1 rfl) ?_
  have hPc : va_P (dC, dI) vwCl [(h0, .inr (0, [.ref a0, .ref a1, .ref a2, .ref a3, .int k])), (a0, .inl (cA, 10, .inl w)), (a1, .inl (cA, 10, .inl pr)), (a2, .inl (cA, 31, .inl vo)), (a3, .inl (cA, 31, .inl vf))] s.heap := bb_Pmid (pre := []) (wc := [(h0, .inr (0, [.ref a0, .ref a1, .ref a2, .ref a3, .int k])), (a0, .inl (cA, 10, .inl w)), (a1, .inl (cA, 10, .inl pr)), (a2, .inl (cA, 31, .inl vo)), (a3, .inl (cA, 31, .inl vf))]) (post := [(o0, .inl (cL, 1, .inr (.inl fo)))]) hP
  refine bb_cVt (As := [.int x0]) (rest := [.int (nI 0), .ref o0]) ⟨hx, hb, hml, hown, hts⟩ (t_chosen1 l htr Bd dC dI cA h0 a0 a1 a2 a3 w pr vo vf k x0 hbad) (cwV 1 hts gL_chosen_X0_chosen rfl rfl rfl (by decide +kernel) ⟨Nat.le_of_ble_eq_true rfl, Nat.le_of_ble_eq_true rfl⟩) ⟨bb_Ptb, va_recv (D := (dC, dI)) (cl := vwCl) (ci := 0) (q0 := 0) hK1 hPc rfl rfl, fun U9 hU9 hW9 => ⟨rfl, ⟨by rw [hU9]; exact hPc, va_K.moved hW9.alike hK1⟩, hZ.mv hW9 (fun _ _ => by rw [hU9])⟩⟩ rfl hl.1 rfl (Nat.le_of_ble_eq_true rfl) dL_chosen_4 (Nat.le_of_ble_eq_true rfl) (Nat.le_of_ble_eq_true rfl) (fun q9 H9 ce9 z9 o9 g1 g2 g3 => ?_)
  have hP9 := hP.kept (fun k9 x9 h9 => o9 x9.1 (hP k9 x9 h9).lt)
  have hS9 : va_S A s.heap H9 [] := ⟨z9, fun q h _ => o9 q h, fun _ h => by cases h⟩
  refine bb_hand1 hown htab (by decide) (by decide) (name := NSE) (hts _ (List.mem_cons_of_mem _ bb_u107)) (hZ.c1.use rfl) g1 g2 g3 ?_
  refine lv_astore_n (lv' := [(3, .ref q9), (0, .ref h0), (1, .int x0), (2, .ref o0)]) hx hb dL_chosen_12 rfl hl (by decide) rfl (fun ls hl => ?_)
  refine lv_iconst (v := 1) hx hb dL_chosen_13 (by decide) ?_
  exact W.iret (v := 1) hx hb hr (fun t ht _ => ⟨⟨1, (), rfl, rfl, by show va_P _ _ _ t.heap; rw [ht]; exact hP9⟩, hS9.F ht⟩) hS9.2.2 dL_chosen_14

set_option maxHeartbeats 4000000 in
set_option maxRecDepth 100000 in
theorem w_can (l : Launch) (dC : Nat → ClassId) (dI : Nat → Nat → Nat) (cA cL : ClassId) (h0 a0 a1 a2 a3 o0 : Nat) (w pr vo vf : Nat → Int32) (k : Int32) (fo : Nat → Int64) (sz : Nat) (b : Nat) (hb0 : b < 31) (v : Nat) (hv0 : v < 10) : Met l yL_can wsL_can ({ frames := 8, cells := 0, slots := 0, locals := 160 }) (va_Pc [.ref h0, .int (nI b), .int (nI v), .ref o0] (fun U => U.heap.size = sz ∧ va_P (dC, dI) vwCl [(h0, .inr (0, [.ref a0, .ref a1, .ref a2, .ref a3, .int k])), (a0, .inl (cA, 10, .inl w)), (a1, .inl (cA, 10, .inl pr)), (a2, .inl (cA, 31, .inl vo)), (a3, .inl (cA, 31, .inl vf)), (o0, .inl (cL, 1, .inr (.inl fo)))] U.heap ∧ va_K (dC, dI) vwCl [(cA, .int), (cL, .long)] U ∧ va_D (fun _ => True) [(h0, .inr (0, [.ref a0, .ref a1, .ref a2, .ref a3, .int k])), (a0, .inl (cA, 10, .inl w)), (a1, .inl (cA, 10, .inl pr)), (a2, .inl (cA, 31, .inl vo)), (a3, .inl (cA, 31, .inl vf)), (o0, .inl (cL, 1, .inr (.inl fo)))] ∧ True)) (bb_Qm 0 (dC, dI) vwCl [(h0, .inr (0, [.ref a0, .ref a1, .ref a2, .ref a3, .int k])), (a0, .inl (cA, 10, .inl w)), (a1, .inl (cA, 10, .inl pr)), (a2, .inl (cA, 31, .inl vo)), (a3, .inl (cA, 31, .inl vf)), (o0, .inl (cL, 1, .inr (.inl (fun _ => bb_L (bb_only vf b (nI v) && bb_way w k pr vo b)))))] (va_A [(h0, .inr (0, [.ref a0, .ref a1, .ref a2, .ref a3, .int k])), (a0, .inl (cA, 10, .inl w)), (a1, .inl (cA, 10, .inl pr)), (a2, .inl (cA, 31, .inl vo)), (a3, .inl (cA, 31, .inl vf)), (o0, .inl (cL, 1, .inr (.inl fo)))] sz)) 0 0 (va_A [(h0, .inr (0, [.ref a0, .ref a1, .ref a2, .ref a3, .int k])), (a0, .inl (cA, 10, .inl w)), (a1, .inl (cA, 10, .inl pr)), (a2, .inl (cA, 31, .inl vo)), (a3, .inl (cA, 31, .inl vf)), (o0, .inl (cL, 1, .inr (.inl fo)))] sz) := by
  refine va_MetW (cc := cL_can) (maxL := 5) (ret := some .int) (by decide) rfl ?_
  intro p e s m args below meth c s₁ B hml hv
  obtain ⟨rfl, hsz, hP, hK, hD0, -⟩ := hv
  have hx := B.exec
  have hb := B.bytes
  have hr := B.returns
  have hts := atoms_spec (ws := wsL_can) B.pre
  have hown : s.vm.findClass RL = some m.cls := findClass_of_methodNamed B.named
  have hlocks := B.notSynchronized
  subst hsz
  have hK1 := hK.sub [0] (tys' := [(cA, .int)]) rfl
  have hD := hD0.self (sz := s.heap.size)
  generalize hAe : va_A [(h0, .inr (0, [.ref a0, .ref a1, .ref a2, .ref a3, .int k])), (a0, .inl (cA, 10, .inl w)), (a1, .inl (cA, 10, .inl pr)), (a2, .inl (cA, 31, .inl vo)), (a3, .inl (cA, 31, .inl vf)), (o0, .inl (cL, 1, .inr (.inl fo)))] s.heap.size = A at hD ⊢
  have hA : ∀ q : Nat, s.heap.size ≤ q → A q := fun q h => by rw [← hAe]; exact Or.inr h
  have hl := lv_entry ([.ref h0, .int (nI b), .int (nI v), .ref o0]) (n := 5) (Nat.le_of_ble_eq_true rfl)
  rw [lg_entry_eq]
  generalize (lg_sl ([.ref h0, .int (nI b), .int (nI v), .ref o0]) ++ List.replicate (5 - (lg_sl ([.ref h0, .int (nI b), .int (nI v), .ref o0])).length) Slot.unset).toArray = ls at hl ⊢
  have hl : lv_has ls 5 [(0, .ref h0), (1, .int (nI b)), (2, .int (nI v)), (3, .ref o0)] := hl
  refine bb_gen hP hD (fun H locs hP hD hS => ?_)
  refine lv_aload_n hx hb dL_can_0 rfl (lv_at hl 3 rfl) ?_
  refine lv_iconst (v := nI 0) hx hb dL_can_1 (by decide) ?_
  refine lv_aload_n hx hb dL_can_2 rfl (lv_at hl 0 rfl) ?_
  refine lv_iload_n hx hb dL_can_3 rfl (lv_at hl 1 rfl) ?_
  refine lv_iload_n hx hb dL_can_4 rfl (lv_at hl 2 rfl) ?_
  have hPc : va_P (dC, dI) vwCl [(h0, .inr (0, [.ref a0, .ref a1, .ref a2, .ref a3, .int k])), (a0, .inl (cA, 10, .inl w)), (a1, .inl (cA, 10, .inl pr)), (a2, .inl (cA, 31, .inl vo)), (a3, .inl (cA, 31, .inl vf))] H := bb_Pmid (pre := []) (wc := [(h0, .inr (0, [.ref a0, .ref a1, .ref a2, .ref a3, .int k])), (a0, .inl (cA, 10, .inl w)), (a1, .inl (cA, 10, .inl pr)), (a2, .inl (cA, 31, .inl vo)), (a3, .inl (cA, 31, .inl vf))]) (post := [(o0, .inl (cL, 1, .inr (.inl fo)))]) hP
  refine bb_cV (As := [.int (nI b), .int (nI v)]) (rest := [.int (nI 0), .ref o0]) (r := bb_I (bb_only vf b (nI v) && bb_way w k pr vo b)) 0 ⟨hx, hb, hml, hown, hts⟩ (k_can l dC dI cA h0 a0 a1 a2 a3 w pr vo vf k b hb0 v hv0) (cwV 2 hts gL_can_X0_can rfl rfl rfl (by decide +kernel) ⟨Nat.le_of_ble_eq_true rfl, Nat.le_of_ble_eq_true rfl⟩) hPc hK1 rfl rfl rfl hl.1 rfl (Nat.le_of_ble_eq_true rfl) dL_can_5 (Nat.zero_le _) (Nat.zero_le _) ?_
  refine lv_if_eq (tgt := 15) hx hb dL_can_8 rfl (fun h8 => ?_) (fun h8 => ?_)
  · skip
    have q8 := bb_I_0.mp h8
    refine lv_lconst (v := 0) hx hb dL_can_15 (by decide) ?_
    refine va_last hx hb hK hP hD hS 5 1 rfl rfl (vp_in_nI (by decide) (by decide)) dL_can_16 (fun H locs hP hD hS => ?_)
    have hP : va_P (dC, dI) vwCl [(h0, .inr (0, [.ref a0, .ref a1, .ref a2, .ref a3, .int k])), (a0, .inl (cA, 10, .inl w)), (a1, .inl (cA, 10, .inl pr)), (a2, .inl (cA, 31, .inl vo)), (a3, .inl (cA, 31, .inl vf)), (o0, .inl (cL, 1, .inr (.inl (vp_updL fo (nI 0).toNatClampNeg 0))))] H := hP
    have hD : va_D A [(h0, .inr (0, [.ref a0, .ref a1, .ref a2, .ref a3, .int k])), (a0, .inl (cA, 10, .inl w)), (a1, .inl (cA, 10, .inl pr)), (a2, .inl (cA, 31, .inl vo)), (a3, .inl (cA, 31, .inl vf)), (o0, .inl (cL, 1, .inr (.inl (vp_updL fo (nI 0).toNatClampNeg 0))))] := hD
    refine lv_goto (tgt := 24) hx hb dL_can_17 rfl ?_
    refine lv_iconst (v := 0) hx hb dL_can_24 (by decide) ?_
    have hP := bb_P_extL (g := (fun _ => bb_L (bb_only vf b (nI v) && bb_way w k pr vo b))) hP hD (q0 := 5) rfl (fun j9 h9 => by rw [bb_upL h9]; simp [bb_L, h8, q8])
    have hP : va_P (dC, dI) vwCl [(h0, .inr (0, [.ref a0, .ref a1, .ref a2, .ref a3, .int k])), (a0, .inl (cA, 10, .inl w)), (a1, .inl (cA, 10, .inl pr)), (a2, .inl (cA, 31, .inl vo)), (a3, .inl (cA, 31, .inl vf)), (o0, .inl (cL, 1, .inr (.inl (fun _ => bb_L (bb_only vf b (nI v) && bb_way w k pr vo b)))))] H := hP
    exact W.iret (v := 0) hx hb hr (fun t ht _ => ⟨⟨0, (), rfl, rfl, by show va_P _ _ _ t.heap; rw [ht]; exact hP⟩, hS.F ht⟩) hS.2.2 dL_can_25
  · skip
    have q8 := bb_nz h8
    refine lv_lconst (v := 1) hx hb dL_can_11 (by decide) ?_
    refine lv_goto (tgt := 16) hx hb dL_can_12 rfl ?_
    refine va_last hx hb hK hP hD hS 5 1 rfl rfl (vp_in_nI (by decide) (by decide)) dL_can_16 (fun H locs hP hD hS => ?_)
    have hP : va_P (dC, dI) vwCl [(h0, .inr (0, [.ref a0, .ref a1, .ref a2, .ref a3, .int k])), (a0, .inl (cA, 10, .inl w)), (a1, .inl (cA, 10, .inl pr)), (a2, .inl (cA, 31, .inl vo)), (a3, .inl (cA, 31, .inl vf)), (o0, .inl (cL, 1, .inr (.inl (vp_updL fo (nI 0).toNatClampNeg 1))))] H := hP
    have hD : va_D A [(h0, .inr (0, [.ref a0, .ref a1, .ref a2, .ref a3, .int k])), (a0, .inl (cA, 10, .inl w)), (a1, .inl (cA, 10, .inl pr)), (a2, .inl (cA, 31, .inl vo)), (a3, .inl (cA, 31, .inl vf)), (o0, .inl (cL, 1, .inr (.inl (vp_updL fo (nI 0).toNatClampNeg 1))))] := hD
    refine lv_goto (tgt := 24) hx hb dL_can_17 rfl ?_
    refine lv_iconst (v := 0) hx hb dL_can_24 (by decide) ?_
    have hP := bb_P_extL (g := (fun _ => bb_L (bb_only vf b (nI v) && bb_way w k pr vo b))) hP hD (q0 := 5) rfl (fun j9 h9 => by rw [bb_upL h9]; simp [bb_L, h8, q8])
    have hP : va_P (dC, dI) vwCl [(h0, .inr (0, [.ref a0, .ref a1, .ref a2, .ref a3, .int k])), (a0, .inl (cA, 10, .inl w)), (a1, .inl (cA, 10, .inl pr)), (a2, .inl (cA, 31, .inl vo)), (a3, .inl (cA, 31, .inl vf)), (o0, .inl (cL, 1, .inr (.inl (fun _ => bb_L (bb_only vf b (nI v) && bb_way w k pr vo b)))))] H := hP
    exact W.iret (v := 0) hx hb hr (fun t ht _ => ⟨⟨0, (), rfl, rfl, by show va_P _ _ _ t.heap; rw [ht]; exact hP⟩, hS.F ht⟩) hS.2.2 dL_can_25

set_option maxHeartbeats 4000000 in
set_option maxRecDepth 100000 in
theorem w_can1 (l : Launch) (htr : l.stackTraces = false) (Bd : Nat) (dC : Nat → ClassId) (dI : Nat → Nat → Nat) (cA cL : ClassId) (h0 a0 a1 a2 a3 o0 : Nat) (w pr vo vf : Nat → Int32) (k : Int32) (fo : Nat → Int64) (sz : Nat) (x0 x1 : Int32) (hbad : (bb_out x0 (nI 31) || bb_out x1 (nI 10)) = true) : Met l yL_can wsL_can ({ frames := 8, cells := 1, slots := 6, locals := 160 }) (va_Pc [.ref h0, .int x0, .int x1, .ref o0] (fun U => U.heap.size = sz ∧ va_P (dC, dI) vwCl [(h0, .inr (0, [.ref a0, .ref a1, .ref a2, .ref a3, .int k])), (a0, .inl (cA, 10, .inl w)), (a1, .inl (cA, 10, .inl pr)), (a2, .inl (cA, 31, .inl vo)), (a3, .inl (cA, 31, .inl vf)), (o0, .inl (cL, 1, .inr (.inl fo)))] U.heap ∧ va_K (dC, dI) vwCl [(cA, .int), (cL, .long)] U ∧ va_D (fun _ => True) [(h0, .inr (0, [.ref a0, .ref a1, .ref a2, .ref a3, .int k])), (a0, .inl (cA, 10, .inl w)), (a1, .inl (cA, 10, .inl pr)), (a2, .inl (cA, 31, .inl vo)), (a3, .inl (cA, 31, .inl vf)), (o0, .inl (cL, 1, .inr (.inl fo)))] ∧ bb_TS Bd U)) (bb_Qm 1 (dC, dI) vwCl [(h0, .inr (0, [.ref a0, .ref a1, .ref a2, .ref a3, .int k])), (a0, .inl (cA, 10, .inl w)), (a1, .inl (cA, 10, .inl pr)), (a2, .inl (cA, 31, .inl vo)), (a3, .inl (cA, 31, .inl vf)), (o0, .inl (cL, 1, .inr (.inl fo)))] (va_A [(h0, .inr (0, [.ref a0, .ref a1, .ref a2, .ref a3, .int k])), (a0, .inl (cA, 10, .inl w)), (a1, .inl (cA, 10, .inl pr)), (a2, .inl (cA, 31, .inl vo)), (a3, .inl (cA, 31, .inl vf)), (o0, .inl (cL, 1, .inr (.inl fo)))] sz)) 1 6 (va_A [(h0, .inr (0, [.ref a0, .ref a1, .ref a2, .ref a3, .int k])), (a0, .inl (cA, 10, .inl w)), (a1, .inl (cA, 10, .inl pr)), (a2, .inl (cA, 31, .inl vo)), (a3, .inl (cA, 31, .inl vf)), (o0, .inl (cL, 1, .inr (.inl fo)))] sz) := by
  refine va_MetW (cc := cL_can) (maxL := 5) (ret := some .int) (by decide) rfl ?_
  intro p e s m args below meth c s₁ B hml hv
  obtain ⟨rfl, hsz, hP, hK, hD0, hZ⟩ := hv
  have hx := B.exec
  have hb := B.bytes
  have hr := B.returns
  have hts := atoms_spec (ws := wsL_can) B.pre
  have hown : s.vm.findClass RL = some m.cls := findClass_of_methodNamed B.named
  have hlocks := B.notSynchronized
  subst hsz
  have hK1 := hK.sub [0] (tys' := [(cA, .int)]) rfl
  have htab := bb_table (hts _ List.mem_cons_self) B.named B.method (Stand.of_body B).code
  have hD := hD0.self (sz := s.heap.size)
  generalize hAe : va_A [(h0, .inr (0, [.ref a0, .ref a1, .ref a2, .ref a3, .int k])), (a0, .inl (cA, 10, .inl w)), (a1, .inl (cA, 10, .inl pr)), (a2, .inl (cA, 31, .inl vo)), (a3, .inl (cA, 31, .inl vf)), (o0, .inl (cL, 1, .inr (.inl fo)))] s.heap.size = A at hD ⊢
  have hA : ∀ q : Nat, s.heap.size ≤ q → A q := fun q h => by rw [← hAe]; exact Or.inr h
  have hl := lv_entry ([.ref h0, .int x0, .int x1, .ref o0]) (n := 5) (Nat.le_of_ble_eq_true rfl)
  rw [lg_entry_eq]
  generalize (lg_sl ([.ref h0, .int x0, .int x1, .ref o0]) ++ List.replicate (5 - (lg_sl ([.ref h0, .int x0, .int x1, .ref o0])).length) Slot.unset).toArray = ls at hl ⊢
  have hl : lv_has ls 5 [(0, .ref h0), (1, .int x0), (2, .int x1), (3, .ref o0)] := hl
  refine lv_aload_n hx hb dL_can_0 rfl (lv_at hl 3 rfl) ?_
  refine lv_iconst (v := nI 0) hx hb dL_can_1 (by decide) ?_
  refine lv_aload_n hx hb dL_can_2 rfl (lv_at hl 0 rfl) ?_
  refine lv_iload_n hx hb dL_can_3 rfl (lv_at hl 1 rfl) ?_
  refine lv_iload_n hx hb dL_can_4 rfl (lv_at hl 2 rfl) ?_
  have hPc : va_P (dC, dI) vwCl [(h0, .inr (0, [.ref a0, .ref a1, .ref a2, .ref a3, .int k])), (a0, .inl (cA, 10, .inl w)), (a1, .inl (cA, 10, .inl pr)), (a2, .inl (cA, 31, .inl vo)), (a3, .inl (cA, 31, .inl vf))] s.heap := bb_Pmid (pre := []) (wc := [(h0, .inr (0, [.ref a0, .ref a1, .ref a2, .ref a3, .int k])), (a0, .inl (cA, 10, .inl w)), (a1, .inl (cA, 10, .inl pr)), (a2, .inl (cA, 31, .inl vo)), (a3, .inl (cA, 31, .inl vf))]) (post := [(o0, .inl (cL, 1, .inr (.inl fo)))]) hP
  refine bb_cVt (As := [.int x0, .int x1]) (rest := [.int (nI 0), .ref o0]) ⟨hx, hb, hml, hown, hts⟩ (t_can1 l htr Bd dC dI cA h0 a0 a1 a2 a3 w pr vo vf k x0 x1 hbad) (cwV 2 hts gL_can_X0_can rfl rfl rfl (by decide +kernel) ⟨Nat.le_of_ble_eq_true rfl, Nat.le_of_ble_eq_true rfl⟩) ⟨bb_Ptb, va_recv (D := (dC, dI)) (cl := vwCl) (ci := 0) (q0 := 0) hK1 hPc rfl rfl, fun U9 hU9 hW9 => ⟨rfl, ⟨by rw [hU9]; exact hPc, va_K.moved hW9.alike hK1⟩, hZ.mv hW9 (fun _ _ => by rw [hU9])⟩⟩ rfl hl.1 rfl (Nat.le_of_ble_eq_true rfl) dL_can_5 (Nat.le_of_ble_eq_true rfl) (Nat.le_of_ble_eq_true rfl) (fun q9 H9 ce9 z9 o9 g1 g2 g3 => ?_)
  have hP9 := hP.kept (fun k9 x9 h9 => o9 x9.1 (hP k9 x9 h9).lt)
  have hS9 : va_S A s.heap H9 [] := ⟨z9, fun q h _ => o9 q h, fun _ h => by cases h⟩
  refine bb_hand1 hown htab (by decide) (by decide) (name := NSE) (hts _ (List.mem_cons_of_mem _ bb_u107)) (hZ.c1.use rfl) g1 g2 g3 ?_
  refine lv_astore (lv' := [(4, .ref q9), (0, .ref h0), (1, .int x0), (2, .int x1), (3, .ref o0)]) hx hb dL_can_20 hl (by decide) rfl (fun ls hl => ?_)
  refine lv_iconst (v := 1) hx hb dL_can_22 (by decide) ?_
  exact W.iret (v := 1) hx hb hr (fun t ht _ => ⟨⟨1, (), rfl, rfl, by show va_P _ _ _ t.heap; rw [ht]; exact hP9⟩, hS9.F ht⟩) hS9.2.2 dL_can_23

set_option maxHeartbeats 4000000 in
set_option maxRecDepth 100000 in
theorem w_safe (l : Launch) (dC : Nat → ClassId) (dI : Nat → Nat → Nat) (cA cL : ClassId) (h0 a0 a1 a2 a3 o0 : Nat) (w pr vo vf : Nat → Int32) (k : Int32) (fo : Nat → Int64) (sz : Nat) (b : Nat) (hb0 : b < 31) (v : Nat) (hv0 : v < 10) : Met l yL_safe wsL_safe ({ frames := 8, cells := 0, slots := 0, locals := 160 }) (va_Pc [.ref h0, .int (nI b), .int (nI v), .ref o0] (fun U => U.heap.size = sz ∧ va_P (dC, dI) vwCl [(h0, .inr (0, [.ref a0, .ref a1, .ref a2, .ref a3, .int k])), (a0, .inl (cA, 10, .inl w)), (a1, .inl (cA, 10, .inl pr)), (a2, .inl (cA, 31, .inl vo)), (a3, .inl (cA, 31, .inl vf)), (o0, .inl (cL, 1, .inr (.inl fo)))] U.heap ∧ va_K (dC, dI) vwCl [(cA, .int), (cL, .long)] U ∧ va_D (fun _ => True) [(h0, .inr (0, [.ref a0, .ref a1, .ref a2, .ref a3, .int k])), (a0, .inl (cA, 10, .inl w)), (a1, .inl (cA, 10, .inl pr)), (a2, .inl (cA, 31, .inl vo)), (a3, .inl (cA, 31, .inl vf)), (o0, .inl (cL, 1, .inr (.inl fo)))] ∧ True)) (bb_Qm 0 (dC, dI) vwCl [(h0, .inr (0, [.ref a0, .ref a1, .ref a2, .ref a3, .int k])), (a0, .inl (cA, 10, .inl w)), (a1, .inl (cA, 10, .inl pr)), (a2, .inl (cA, 31, .inl vo)), (a3, .inl (cA, 31, .inl vf)), (o0, .inl (cL, 1, .inr (.inl (fun _ => bb_L (bb_saf w k pr vo vf b (nI v))))))] (va_A [(h0, .inr (0, [.ref a0, .ref a1, .ref a2, .ref a3, .int k])), (a0, .inl (cA, 10, .inl w)), (a1, .inl (cA, 10, .inl pr)), (a2, .inl (cA, 31, .inl vo)), (a3, .inl (cA, 31, .inl vf)), (o0, .inl (cL, 1, .inr (.inl fo)))] sz)) 0 0 (va_A [(h0, .inr (0, [.ref a0, .ref a1, .ref a2, .ref a3, .int k])), (a0, .inl (cA, 10, .inl w)), (a1, .inl (cA, 10, .inl pr)), (a2, .inl (cA, 31, .inl vo)), (a3, .inl (cA, 31, .inl vf)), (o0, .inl (cL, 1, .inr (.inl fo)))] sz) := by
  refine va_MetW (cc := cL_safe) (maxL := 5) (ret := some .int) (by decide) rfl ?_
  intro p e s m args below meth c s₁ B hml hv
  obtain ⟨rfl, hsz, hP, hK, hD0, -⟩ := hv
  have hx := B.exec
  have hb := B.bytes
  have hr := B.returns
  have hts := atoms_spec (ws := wsL_safe) B.pre
  have hown : s.vm.findClass RL = some m.cls := findClass_of_methodNamed B.named
  have hlocks := B.notSynchronized
  subst hsz
  have hK1 := hK.sub [0] (tys' := [(cA, .int)]) rfl
  have hD := hD0.self (sz := s.heap.size)
  generalize hAe : va_A [(h0, .inr (0, [.ref a0, .ref a1, .ref a2, .ref a3, .int k])), (a0, .inl (cA, 10, .inl w)), (a1, .inl (cA, 10, .inl pr)), (a2, .inl (cA, 31, .inl vo)), (a3, .inl (cA, 31, .inl vf)), (o0, .inl (cL, 1, .inr (.inl fo)))] s.heap.size = A at hD ⊢
  have hA : ∀ q : Nat, s.heap.size ≤ q → A q := fun q h => by rw [← hAe]; exact Or.inr h
  have hl := lv_entry ([.ref h0, .int (nI b), .int (nI v), .ref o0]) (n := 5) (Nat.le_of_ble_eq_true rfl)
  rw [lg_entry_eq]
  generalize (lg_sl ([.ref h0, .int (nI b), .int (nI v), .ref o0]) ++ List.replicate (5 - (lg_sl ([.ref h0, .int (nI b), .int (nI v), .ref o0])).length) Slot.unset).toArray = ls at hl ⊢
  have hl : lv_has ls 5 [(0, .ref h0), (1, .int (nI b)), (2, .int (nI v)), (3, .ref o0)] := hl
  refine bb_gen hP hD (fun H locs hP hD hS => ?_)
  refine lv_aload_n hx hb dL_safe_0 rfl (lv_at hl 3 rfl) ?_
  refine lv_iconst (v := nI 0) hx hb dL_safe_1 (by decide) ?_
  refine lv_aload_n hx hb dL_safe_2 rfl (lv_at hl 0 rfl) ?_
  refine lv_iload_n hx hb dL_safe_3 rfl (lv_at hl 1 rfl) ?_
  refine lv_iload_n hx hb dL_safe_4 rfl (lv_at hl 2 rfl) ?_
  have hPc : va_P (dC, dI) vwCl [(h0, .inr (0, [.ref a0, .ref a1, .ref a2, .ref a3, .int k])), (a0, .inl (cA, 10, .inl w)), (a1, .inl (cA, 10, .inl pr)), (a2, .inl (cA, 31, .inl vo)), (a3, .inl (cA, 31, .inl vf))] H := bb_Pmid (pre := []) (wc := [(h0, .inr (0, [.ref a0, .ref a1, .ref a2, .ref a3, .int k])), (a0, .inl (cA, 10, .inl w)), (a1, .inl (cA, 10, .inl pr)), (a2, .inl (cA, 31, .inl vo)), (a3, .inl (cA, 31, .inl vf))]) (post := [(o0, .inl (cL, 1, .inr (.inl fo)))]) hP
  refine bb_cV (As := [.int (nI b), .int (nI v)]) (rest := [.int (nI 0), .ref o0]) (r := bb_I (bb_saf w k pr vo vf b (nI v))) 0 ⟨hx, hb, hml, hown, hts⟩ (k_safe l dC dI cA h0 a0 a1 a2 a3 w pr vo vf k b hb0 v hv0) (cwV 2 hts gL_safe_X0_safe rfl rfl rfl (by decide +kernel) ⟨Nat.le_of_ble_eq_true rfl, Nat.le_of_ble_eq_true rfl⟩) hPc hK1 rfl rfl rfl hl.1 rfl (Nat.le_of_ble_eq_true rfl) dL_safe_5 (Nat.zero_le _) (Nat.zero_le _) ?_
  refine lv_if_eq (tgt := 15) hx hb dL_safe_8 rfl (fun h8 => ?_) (fun h8 => ?_)
  · skip
    have q8 := bb_I_0.mp h8
    refine lv_lconst (v := 0) hx hb dL_safe_15 (by decide) ?_
    refine va_last hx hb hK hP hD hS 5 1 rfl rfl (vp_in_nI (by decide) (by decide)) dL_safe_16 (fun H locs hP hD hS => ?_)
    have hP : va_P (dC, dI) vwCl [(h0, .inr (0, [.ref a0, .ref a1, .ref a2, .ref a3, .int k])), (a0, .inl (cA, 10, .inl w)), (a1, .inl (cA, 10, .inl pr)), (a2, .inl (cA, 31, .inl vo)), (a3, .inl (cA, 31, .inl vf)), (o0, .inl (cL, 1, .inr (.inl (vp_updL fo (nI 0).toNatClampNeg 0))))] H := hP
    have hD : va_D A [(h0, .inr (0, [.ref a0, .ref a1, .ref a2, .ref a3, .int k])), (a0, .inl (cA, 10, .inl w)), (a1, .inl (cA, 10, .inl pr)), (a2, .inl (cA, 31, .inl vo)), (a3, .inl (cA, 31, .inl vf)), (o0, .inl (cL, 1, .inr (.inl (vp_updL fo (nI 0).toNatClampNeg 0))))] := hD
    refine lv_goto (tgt := 24) hx hb dL_safe_17 rfl ?_
    refine lv_iconst (v := 0) hx hb dL_safe_24 (by decide) ?_
    have hP := bb_P_extL (g := (fun _ => bb_L (bb_saf w k pr vo vf b (nI v)))) hP hD (q0 := 5) rfl (fun j9 h9 => by rw [bb_upL h9]; simp [bb_L, h8, q8])
    have hP : va_P (dC, dI) vwCl [(h0, .inr (0, [.ref a0, .ref a1, .ref a2, .ref a3, .int k])), (a0, .inl (cA, 10, .inl w)), (a1, .inl (cA, 10, .inl pr)), (a2, .inl (cA, 31, .inl vo)), (a3, .inl (cA, 31, .inl vf)), (o0, .inl (cL, 1, .inr (.inl (fun _ => bb_L (bb_saf w k pr vo vf b (nI v))))))] H := hP
    exact W.iret (v := 0) hx hb hr (fun t ht _ => ⟨⟨0, (), rfl, rfl, by show va_P _ _ _ t.heap; rw [ht]; exact hP⟩, hS.F ht⟩) hS.2.2 dL_safe_25
  · skip
    have q8 := bb_nz h8
    refine lv_lconst (v := 1) hx hb dL_safe_11 (by decide) ?_
    refine lv_goto (tgt := 16) hx hb dL_safe_12 rfl ?_
    refine va_last hx hb hK hP hD hS 5 1 rfl rfl (vp_in_nI (by decide) (by decide)) dL_safe_16 (fun H locs hP hD hS => ?_)
    have hP : va_P (dC, dI) vwCl [(h0, .inr (0, [.ref a0, .ref a1, .ref a2, .ref a3, .int k])), (a0, .inl (cA, 10, .inl w)), (a1, .inl (cA, 10, .inl pr)), (a2, .inl (cA, 31, .inl vo)), (a3, .inl (cA, 31, .inl vf)), (o0, .inl (cL, 1, .inr (.inl (vp_updL fo (nI 0).toNatClampNeg 1))))] H := hP
    have hD : va_D A [(h0, .inr (0, [.ref a0, .ref a1, .ref a2, .ref a3, .int k])), (a0, .inl (cA, 10, .inl w)), (a1, .inl (cA, 10, .inl pr)), (a2, .inl (cA, 31, .inl vo)), (a3, .inl (cA, 31, .inl vf)), (o0, .inl (cL, 1, .inr (.inl (vp_updL fo (nI 0).toNatClampNeg 1))))] := hD
    refine lv_goto (tgt := 24) hx hb dL_safe_17 rfl ?_
    refine lv_iconst (v := 0) hx hb dL_safe_24 (by decide) ?_
    have hP := bb_P_extL (g := (fun _ => bb_L (bb_saf w k pr vo vf b (nI v)))) hP hD (q0 := 5) rfl (fun j9 h9 => by rw [bb_upL h9]; simp [bb_L, h8, q8])
    have hP : va_P (dC, dI) vwCl [(h0, .inr (0, [.ref a0, .ref a1, .ref a2, .ref a3, .int k])), (a0, .inl (cA, 10, .inl w)), (a1, .inl (cA, 10, .inl pr)), (a2, .inl (cA, 31, .inl vo)), (a3, .inl (cA, 31, .inl vf)), (o0, .inl (cL, 1, .inr (.inl (fun _ => bb_L (bb_saf w k pr vo vf b (nI v))))))] H := hP
    exact W.iret (v := 0) hx hb hr (fun t ht _ => ⟨⟨0, (), rfl, rfl, by show va_P _ _ _ t.heap; rw [ht]; exact hP⟩, hS.F ht⟩) hS.2.2 dL_safe_25

set_option maxHeartbeats 4000000 in
set_option maxRecDepth 100000 in
theorem w_safe1 (l : Launch) (htr : l.stackTraces = false) (Bd : Nat) (dC : Nat → ClassId) (dI : Nat → Nat → Nat) (cA cL : ClassId) (h0 a0 a1 a2 a3 o0 : Nat) (w pr vo vf : Nat → Int32) (k : Int32) (fo : Nat → Int64) (sz : Nat) (x0 x1 : Int32) (hbad : (bb_out x0 (nI 31) || bb_out x1 (nI 10)) = true) : Met l yL_safe wsL_safe ({ frames := 8, cells := 1, slots := 6, locals := 160 }) (va_Pc [.ref h0, .int x0, .int x1, .ref o0] (fun U => U.heap.size = sz ∧ va_P (dC, dI) vwCl [(h0, .inr (0, [.ref a0, .ref a1, .ref a2, .ref a3, .int k])), (a0, .inl (cA, 10, .inl w)), (a1, .inl (cA, 10, .inl pr)), (a2, .inl (cA, 31, .inl vo)), (a3, .inl (cA, 31, .inl vf)), (o0, .inl (cL, 1, .inr (.inl fo)))] U.heap ∧ va_K (dC, dI) vwCl [(cA, .int), (cL, .long)] U ∧ va_D (fun _ => True) [(h0, .inr (0, [.ref a0, .ref a1, .ref a2, .ref a3, .int k])), (a0, .inl (cA, 10, .inl w)), (a1, .inl (cA, 10, .inl pr)), (a2, .inl (cA, 31, .inl vo)), (a3, .inl (cA, 31, .inl vf)), (o0, .inl (cL, 1, .inr (.inl fo)))] ∧ bb_TS Bd U)) (bb_Qm 1 (dC, dI) vwCl [(h0, .inr (0, [.ref a0, .ref a1, .ref a2, .ref a3, .int k])), (a0, .inl (cA, 10, .inl w)), (a1, .inl (cA, 10, .inl pr)), (a2, .inl (cA, 31, .inl vo)), (a3, .inl (cA, 31, .inl vf)), (o0, .inl (cL, 1, .inr (.inl fo)))] (va_A [(h0, .inr (0, [.ref a0, .ref a1, .ref a2, .ref a3, .int k])), (a0, .inl (cA, 10, .inl w)), (a1, .inl (cA, 10, .inl pr)), (a2, .inl (cA, 31, .inl vo)), (a3, .inl (cA, 31, .inl vf)), (o0, .inl (cL, 1, .inr (.inl fo)))] sz)) 1 6 (va_A [(h0, .inr (0, [.ref a0, .ref a1, .ref a2, .ref a3, .int k])), (a0, .inl (cA, 10, .inl w)), (a1, .inl (cA, 10, .inl pr)), (a2, .inl (cA, 31, .inl vo)), (a3, .inl (cA, 31, .inl vf)), (o0, .inl (cL, 1, .inr (.inl fo)))] sz) := by
  refine va_MetW (cc := cL_safe) (maxL := 5) (ret := some .int) (by decide) rfl ?_
  intro p e s m args below meth c s₁ B hml hv
  obtain ⟨rfl, hsz, hP, hK, hD0, hZ⟩ := hv
  have hx := B.exec
  have hb := B.bytes
  have hr := B.returns
  have hts := atoms_spec (ws := wsL_safe) B.pre
  have hown : s.vm.findClass RL = some m.cls := findClass_of_methodNamed B.named
  have hlocks := B.notSynchronized
  subst hsz
  have hK1 := hK.sub [0] (tys' := [(cA, .int)]) rfl
  have htab := bb_table (hts _ List.mem_cons_self) B.named B.method (Stand.of_body B).code
  have hD := hD0.self (sz := s.heap.size)
  generalize hAe : va_A [(h0, .inr (0, [.ref a0, .ref a1, .ref a2, .ref a3, .int k])), (a0, .inl (cA, 10, .inl w)), (a1, .inl (cA, 10, .inl pr)), (a2, .inl (cA, 31, .inl vo)), (a3, .inl (cA, 31, .inl vf)), (o0, .inl (cL, 1, .inr (.inl fo)))] s.heap.size = A at hD ⊢
  have hA : ∀ q : Nat, s.heap.size ≤ q → A q := fun q h => by rw [← hAe]; exact Or.inr h
  have hl := lv_entry ([.ref h0, .int x0, .int x1, .ref o0]) (n := 5) (Nat.le_of_ble_eq_true rfl)
  rw [lg_entry_eq]
  generalize (lg_sl ([.ref h0, .int x0, .int x1, .ref o0]) ++ List.replicate (5 - (lg_sl ([.ref h0, .int x0, .int x1, .ref o0])).length) Slot.unset).toArray = ls at hl ⊢
  have hl : lv_has ls 5 [(0, .ref h0), (1, .int x0), (2, .int x1), (3, .ref o0)] := hl
  refine lv_aload_n hx hb dL_safe_0 rfl (lv_at hl 3 rfl) ?_
  refine lv_iconst (v := nI 0) hx hb dL_safe_1 (by decide) ?_
  refine lv_aload_n hx hb dL_safe_2 rfl (lv_at hl 0 rfl) ?_
  refine lv_iload_n hx hb dL_safe_3 rfl (lv_at hl 1 rfl) ?_
  refine lv_iload_n hx hb dL_safe_4 rfl (lv_at hl 2 rfl) ?_
  have hPc : va_P (dC, dI) vwCl [(h0, .inr (0, [.ref a0, .ref a1, .ref a2, .ref a3, .int k])), (a0, .inl (cA, 10, .inl w)), (a1, .inl (cA, 10, .inl pr)), (a2, .inl (cA, 31, .inl vo)), (a3, .inl (cA, 31, .inl vf))] s.heap := bb_Pmid (pre := []) (wc := [(h0, .inr (0, [.ref a0, .ref a1, .ref a2, .ref a3, .int k])), (a0, .inl (cA, 10, .inl w)), (a1, .inl (cA, 10, .inl pr)), (a2, .inl (cA, 31, .inl vo)), (a3, .inl (cA, 31, .inl vf))]) (post := [(o0, .inl (cL, 1, .inr (.inl fo)))]) hP
  refine bb_cVt (As := [.int x0, .int x1]) (rest := [.int (nI 0), .ref o0]) ⟨hx, hb, hml, hown, hts⟩ (t_safe1 l htr Bd dC dI cA h0 a0 a1 a2 a3 w pr vo vf k x0 x1 hbad) (cwV 2 hts gL_safe_X0_safe rfl rfl rfl (by decide +kernel) ⟨Nat.le_of_ble_eq_true rfl, Nat.le_of_ble_eq_true rfl⟩) ⟨bb_Ptb, va_recv (D := (dC, dI)) (cl := vwCl) (ci := 0) (q0 := 0) hK1 hPc rfl rfl, fun U9 hU9 hW9 => ⟨rfl, ⟨by rw [hU9]; exact hPc, va_K.moved hW9.alike hK1⟩, hZ.mv hW9 (fun _ _ => by rw [hU9])⟩⟩ rfl hl.1 rfl (Nat.le_of_ble_eq_true rfl) dL_safe_5 (Nat.le_of_ble_eq_true rfl) (Nat.le_of_ble_eq_true rfl) (fun q9 H9 ce9 z9 o9 g1 g2 g3 => ?_)
  have hP9 := hP.kept (fun k9 x9 h9 => o9 x9.1 (hP k9 x9 h9).lt)
  have hS9 : va_S A s.heap H9 [] := ⟨z9, fun q h _ => o9 q h, fun _ h => by cases h⟩
  refine bb_hand1 hown htab (by decide) (by decide) (name := NSE) (hts _ (List.mem_cons_of_mem _ bb_u107)) (hZ.c1.use rfl) g1 g2 g3 ?_
  refine lv_astore (lv' := [(4, .ref q9), (0, .ref h0), (1, .int x0), (2, .int x1), (3, .ref o0)]) hx hb dL_safe_20 hl (by decide) rfl (fun ls hl => ?_)
  refine lv_iconst (v := 1) hx hb dL_safe_22 (by decide) ?_
  exact W.iret (v := 1) hx hb hr (fun t ht _ => ⟨⟨1, (), rfl, rfl, by show va_P _ _ _ t.heap; rw [ht]; exact hP9⟩, hS9.F ht⟩) hS9.2.2 dL_safe_23

set_option maxHeartbeats 4000000 in
set_option maxRecDepth 100000 in
theorem w_free (l : Launch) (dC : Nat → ClassId) (dI : Nat → Nat → Nat) (cA cL : ClassId) (h0 a0 a1 a2 a3 o0 : Nat) (w pr vo vf : Nat → Int32) (k : Int32) (fo : Nat → Int64) (sz : Nat) (b : Nat) (hb0 : b < 31) : Met l yL_free wsL_free ({ frames := 8, cells := 0, slots := 0, locals := 160 }) (va_Pc [.ref h0, .int (nI b), .ref o0] (fun U => U.heap.size = sz ∧ va_P (dC, dI) vwCl [(h0, .inr (0, [.ref a0, .ref a1, .ref a2, .ref a3, .int k])), (a0, .inl (cA, 10, .inl w)), (a1, .inl (cA, 10, .inl pr)), (a2, .inl (cA, 31, .inl vo)), (a3, .inl (cA, 31, .inl vf)), (o0, .inl (cL, 1, .inr (.inl fo)))] U.heap ∧ va_K (dC, dI) vwCl [(cA, .int), (cL, .long)] U ∧ va_D (fun _ => True) [(h0, .inr (0, [.ref a0, .ref a1, .ref a2, .ref a3, .int k])), (a0, .inl (cA, 10, .inl w)), (a1, .inl (cA, 10, .inl pr)), (a2, .inl (cA, 31, .inl vo)), (a3, .inl (cA, 31, .inl vf)), (o0, .inl (cL, 1, .inr (.inl fo)))] ∧ True)) (bb_Qm 0 (dC, dI) vwCl [(h0, .inr (0, [.ref a0, .ref a1, .ref a2, .ref a3, .int k])), (a0, .inl (cA, 10, .inl w)), (a1, .inl (cA, 10, .inl pr)), (a2, .inl (cA, 31, .inl vo)), (a3, .inl (cA, 31, .inl vf)), (o0, .inl (cL, 1, .inr (.inl (fun _ => (nI (bb_cn (fun v9 => bb_saf w k pr vo vf b (nI v9)) 10)).toInt64))))] (va_A [(h0, .inr (0, [.ref a0, .ref a1, .ref a2, .ref a3, .int k])), (a0, .inl (cA, 10, .inl w)), (a1, .inl (cA, 10, .inl pr)), (a2, .inl (cA, 31, .inl vo)), (a3, .inl (cA, 31, .inl vf)), (o0, .inl (cL, 1, .inr (.inl fo)))] sz)) 0 0 (va_A [(h0, .inr (0, [.ref a0, .ref a1, .ref a2, .ref a3, .int k])), (a0, .inl (cA, 10, .inl w)), (a1, .inl (cA, 10, .inl pr)), (a2, .inl (cA, 31, .inl vo)), (a3, .inl (cA, 31, .inl vf)), (o0, .inl (cL, 1, .inr (.inl fo)))] sz) := by
  refine va_MetW (cc := cL_free) (maxL := 4) (ret := some .int) (by decide) rfl ?_
  intro p e s m args below meth c s₁ B hml hv
  obtain ⟨rfl, hsz, hP, hK, hD0, -⟩ := hv
  have hx := B.exec
  have hb := B.bytes
  have hr := B.returns
  have hts := atoms_spec (ws := wsL_free) B.pre
  have hown : s.vm.findClass RL = some m.cls := findClass_of_methodNamed B.named
  have hlocks := B.notSynchronized
  subst hsz
  have hK1 := hK.sub [0] (tys' := [(cA, .int)]) rfl
  have hD := hD0.self (sz := s.heap.size)
  generalize hAe : va_A [(h0, .inr (0, [.ref a0, .ref a1, .ref a2, .ref a3, .int k])), (a0, .inl (cA, 10, .inl w)), (a1, .inl (cA, 10, .inl pr)), (a2, .inl (cA, 31, .inl vo)), (a3, .inl (cA, 31, .inl vf)), (o0, .inl (cL, 1, .inr (.inl fo)))] s.heap.size = A at hD ⊢
  have hA : ∀ q : Nat, s.heap.size ≤ q → A q := fun q h => by rw [← hAe]; exact Or.inr h
  have hl := lv_entry ([.ref h0, .int (nI b), .ref o0]) (n := 4) (Nat.le_of_ble_eq_true rfl)
  rw [lg_entry_eq]
  generalize (lg_sl ([.ref h0, .int (nI b), .ref o0]) ++ List.replicate (4 - (lg_sl ([.ref h0, .int (nI b), .ref o0])).length) Slot.unset).toArray = ls at hl ⊢
  have hl : lv_has ls 4 [(0, .ref h0), (1, .int (nI b)), (2, .ref o0)] := hl
  refine bb_gen hP hD (fun H locs hP hD hS => ?_)
  refine lv_aload_n hx hb dL_free_0 rfl (lv_at hl 2 rfl) ?_
  refine lv_iconst (v := nI 0) hx hb dL_free_1 (by decide) ?_
  refine lv_aload_n hx hb dL_free_2 rfl (lv_at hl 0 rfl) ?_
  refine lv_iload_n hx hb dL_free_3 rfl (lv_at hl 1 rfl) ?_
  have hPc : va_P (dC, dI) vwCl [(h0, .inr (0, [.ref a0, .ref a1, .ref a2, .ref a3, .int k])), (a0, .inl (cA, 10, .inl w)), (a1, .inl (cA, 10, .inl pr)), (a2, .inl (cA, 31, .inl vo)), (a3, .inl (cA, 31, .inl vf))] H := bb_Pmid (pre := []) (wc := [(h0, .inr (0, [.ref a0, .ref a1, .ref a2, .ref a3, .int k])), (a0, .inl (cA, 10, .inl w)), (a1, .inl (cA, 10, .inl pr)), (a2, .inl (cA, 31, .inl vo)), (a3, .inl (cA, 31, .inl vf))]) (post := [(o0, .inl (cL, 1, .inr (.inl fo)))]) hP
  refine bb_cV (As := [.int (nI b)]) (rest := [.int (nI 0), .ref o0]) (r := nI (bb_cn (fun v9 => bb_saf w k pr vo vf b (nI v9)) 10)) 0 ⟨hx, hb, hml, hown, hts⟩ (k_free l dC dI cA h0 a0 a1 a2 a3 w pr vo vf k b hb0) (cwV 1 hts gL_free_X0_free rfl rfl rfl (by decide +kernel) ⟨Nat.le_of_ble_eq_true rfl, Nat.le_of_ble_eq_true rfl⟩) hPc hK1 rfl rfl rfl hl.1 rfl (Nat.le_of_ble_eq_true rfl) dL_free_4 (Nat.zero_le _) (Nat.zero_le _) ?_
  refine lv_i2l (v := (nI (bb_cn (fun v9 => bb_saf w k pr vo vf b (nI v9)) 10)).toInt64) hx hb dL_free_7 rfl ?_
  refine va_last hx hb hK hP hD hS 5 1 rfl rfl (vp_in_nI (by decide) (by decide)) dL_free_8 (fun H locs hP hD hS => ?_)
  have hP : va_P (dC, dI) vwCl [(h0, .inr (0, [.ref a0, .ref a1, .ref a2, .ref a3, .int k])), (a0, .inl (cA, 10, .inl w)), (a1, .inl (cA, 10, .inl pr)), (a2, .inl (cA, 31, .inl vo)), (a3, .inl (cA, 31, .inl vf)), (o0, .inl (cL, 1, .inr (.inl (vp_updL fo (nI 0).toNatClampNeg ((nI (bb_cn (fun v9 => bb_saf w k pr vo vf b (nI v9)) 10)).toInt64)))))] H := hP
  have hD : va_D A [(h0, .inr (0, [.ref a0, .ref a1, .ref a2, .ref a3, .int k])), (a0, .inl (cA, 10, .inl w)), (a1, .inl (cA, 10, .inl pr)), (a2, .inl (cA, 31, .inl vo)), (a3, .inl (cA, 31, .inl vf)), (o0, .inl (cL, 1, .inr (.inl (vp_updL fo (nI 0).toNatClampNeg ((nI (bb_cn (fun v9 => bb_saf w k pr vo vf b (nI v9)) 10)).toInt64)))))] := hD
  refine lv_goto (tgt := 15) hx hb dL_free_9 rfl ?_
  refine lv_iconst (v := 0) hx hb dL_free_15 (by decide) ?_
  have hP := bb_P_extL (g := (fun _ => (nI (bb_cn (fun v9 => bb_saf w k pr vo vf b (nI v9)) 10)).toInt64)) hP hD (q0 := 5) rfl (fun j9 h9 => bb_upL h9)
  have hP : va_P (dC, dI) vwCl [(h0, .inr (0, [.ref a0, .ref a1, .ref a2, .ref a3, .int k])), (a0, .inl (cA, 10, .inl w)), (a1, .inl (cA, 10, .inl pr)), (a2, .inl (cA, 31, .inl vo)), (a3, .inl (cA, 31, .inl vf)), (o0, .inl (cL, 1, .inr (.inl (fun _ => (nI (bb_cn (fun v9 => bb_saf w k pr vo vf b (nI v9)) 10)).toInt64))))] H := hP
  exact W.iret (v := 0) hx hb hr (fun t ht _ => ⟨⟨0, (), rfl, rfl, by show va_P _ _ _ t.heap; rw [ht]; exact hP⟩, hS.F ht⟩) hS.2.2 dL_free_16

set_option maxHeartbeats 4000000 in
set_option maxRecDepth 100000 in
theorem w_free1 (l : Launch) (htr : l.stackTraces = false) (Bd : Nat) (dC : Nat → ClassId) (dI : Nat → Nat → Nat) (cA cL : ClassId) (h0 a0 a1 a2 a3 o0 : Nat) (w pr vo vf : Nat → Int32) (k : Int32) (fo : Nat → Int64) (sz : Nat) (x0 : Int32) (hbad : bb_out x0 (nI 31) = true) : Met l yL_free wsL_free ({ frames := 8, cells := 1, slots := 6, locals := 160 }) (va_Pc [.ref h0, .int x0, .ref o0] (fun U => U.heap.size = sz ∧ va_P (dC, dI) vwCl [(h0, .inr (0, [.ref a0, .ref a1, .ref a2, .ref a3, .int k])), (a0, .inl (cA, 10, .inl w)), (a1, .inl (cA, 10, .inl pr)), (a2, .inl (cA, 31, .inl vo)), (a3, .inl (cA, 31, .inl vf)), (o0, .inl (cL, 1, .inr (.inl fo)))] U.heap ∧ va_K (dC, dI) vwCl [(cA, .int), (cL, .long)] U ∧ va_D (fun _ => True) [(h0, .inr (0, [.ref a0, .ref a1, .ref a2, .ref a3, .int k])), (a0, .inl (cA, 10, .inl w)), (a1, .inl (cA, 10, .inl pr)), (a2, .inl (cA, 31, .inl vo)), (a3, .inl (cA, 31, .inl vf)), (o0, .inl (cL, 1, .inr (.inl fo)))] ∧ bb_TS Bd U)) (bb_Qm 1 (dC, dI) vwCl [(h0, .inr (0, [.ref a0, .ref a1, .ref a2, .ref a3, .int k])), (a0, .inl (cA, 10, .inl w)), (a1, .inl (cA, 10, .inl pr)), (a2, .inl (cA, 31, .inl vo)), (a3, .inl (cA, 31, .inl vf)), (o0, .inl (cL, 1, .inr (.inl fo)))] (va_A [(h0, .inr (0, [.ref a0, .ref a1, .ref a2, .ref a3, .int k])), (a0, .inl (cA, 10, .inl w)), (a1, .inl (cA, 10, .inl pr)), (a2, .inl (cA, 31, .inl vo)), (a3, .inl (cA, 31, .inl vf)), (o0, .inl (cL, 1, .inr (.inl fo)))] sz)) 1 6 (va_A [(h0, .inr (0, [.ref a0, .ref a1, .ref a2, .ref a3, .int k])), (a0, .inl (cA, 10, .inl w)), (a1, .inl (cA, 10, .inl pr)), (a2, .inl (cA, 31, .inl vo)), (a3, .inl (cA, 31, .inl vf)), (o0, .inl (cL, 1, .inr (.inl fo)))] sz) := by
  refine va_MetW (cc := cL_free) (maxL := 4) (ret := some .int) (by decide) rfl ?_
  intro p e s m args below meth c s₁ B hml hv
  obtain ⟨rfl, hsz, hP, hK, hD0, hZ⟩ := hv
  have hx := B.exec
  have hb := B.bytes
  have hr := B.returns
  have hts := atoms_spec (ws := wsL_free) B.pre
  have hown : s.vm.findClass RL = some m.cls := findClass_of_methodNamed B.named
  have hlocks := B.notSynchronized
  subst hsz
  have hK1 := hK.sub [0] (tys' := [(cA, .int)]) rfl
  have htab := bb_table (hts _ List.mem_cons_self) B.named B.method (Stand.of_body B).code
  have hD := hD0.self (sz := s.heap.size)
  generalize hAe : va_A [(h0, .inr (0, [.ref a0, .ref a1, .ref a2, .ref a3, .int k])), (a0, .inl (cA, 10, .inl w)), (a1, .inl (cA, 10, .inl pr)), (a2, .inl (cA, 31, .inl vo)), (a3, .inl (cA, 31, .inl vf)), (o0, .inl (cL, 1, .inr (.inl fo)))] s.heap.size = A at hD ⊢
  have hA : ∀ q : Nat, s.heap.size ≤ q → A q := fun q h => by rw [← hAe]; exact Or.inr h
  have hl := lv_entry ([.ref h0, .int x0, .ref o0]) (n := 4) (Nat.le_of_ble_eq_true rfl)
  rw [lg_entry_eq]
  generalize (lg_sl ([.ref h0, .int x0, .ref o0]) ++ List.replicate (4 - (lg_sl ([.ref h0, .int x0, .ref o0])).length) Slot.unset).toArray = ls at hl ⊢
  have hl : lv_has ls 4 [(0, .ref h0), (1, .int x0), (2, .ref o0)] := hl
  refine lv_aload_n hx hb dL_free_0 rfl (lv_at hl 2 rfl) ?_
  refine lv_iconst (v := nI 0) hx hb dL_free_1 (by decide) ?_
  refine lv_aload_n hx hb dL_free_2 rfl (lv_at hl 0 rfl) ?_
  refine lv_iload_n hx hb dL_free_3 rfl (lv_at hl 1 rfl) ?_
  have hPc : va_P (dC, dI) vwCl [(h0, .inr (0, [.ref a0, .ref a1, .ref a2, .ref a3, .int k])), (a0, .inl (cA, 10, .inl w)), (a1, .inl (cA, 10, .inl pr)), (a2, .inl (cA, 31, .inl vo)), (a3, .inl (cA, 31, .inl vf))] s.heap := bb_Pmid (pre := []) (wc := [(h0, .inr (0, [.ref a0, .ref a1, .ref a2, .ref a3, .int k])), (a0, .inl (cA, 10, .inl w)), (a1, .inl (cA, 10, .inl pr)), (a2, .inl (cA, 31, .inl vo)), (a3, .inl (cA, 31, .inl vf))]) (post := [(o0, .inl (cL, 1, .inr (.inl fo)))]) hP
  refine bb_cVt (As := [.int x0]) (rest := [.int (nI 0), .ref o0]) ⟨hx, hb, hml, hown, hts⟩ (t_free1 l htr Bd dC dI cA h0 a0 a1 a2 a3 w pr vo vf k x0 hbad) (cwV 1 hts gL_free_X0_free rfl rfl rfl (by decide +kernel) ⟨Nat.le_of_ble_eq_true rfl, Nat.le_of_ble_eq_true rfl⟩) ⟨bb_Ptb, va_recv (D := (dC, dI)) (cl := vwCl) (ci := 0) (q0 := 0) hK1 hPc rfl rfl, fun U9 hU9 hW9 => ⟨rfl, ⟨by rw [hU9]; exact hPc, va_K.moved hW9.alike hK1⟩, hZ.mv hW9 (fun _ _ => by rw [hU9])⟩⟩ rfl hl.1 rfl (Nat.le_of_ble_eq_true rfl) dL_free_4 (Nat.le_of_ble_eq_true rfl) (Nat.le_of_ble_eq_true rfl) (fun q9 H9 ce9 z9 o9 g1 g2 g3 => ?_)
  have hP9 := hP.kept (fun k9 x9 h9 => o9 x9.1 (hP k9 x9 h9).lt)
  have hS9 : va_S A s.heap H9 [] := ⟨z9, fun q h _ => o9 q h, fun _ h => by cases h⟩
  refine bb_hand1 hown htab (by decide) (by decide) (name := NSE) (hts _ (List.mem_cons_of_mem _ bb_u107)) (hZ.c1.use rfl) g1 g2 g3 ?_
  refine lv_astore_n (lv' := [(3, .ref q9), (0, .ref h0), (1, .int x0), (2, .ref o0)]) hx hb dL_free_12 rfl hl (by decide) rfl (fun ls hl => ?_)
  refine lv_iconst (v := 1) hx hb dL_free_13 (by decide) ?_
  exact W.iret (v := 1) hx hb hr (fun t ht _ => ⟨⟨1, (), rfl, rfl, by show va_P _ _ _ t.heap; rw [ht]; exact hP9⟩, hS9.F ht⟩) hS9.2.2 dL_free_14

set_option maxHeartbeats 4000000 in
set_option maxRecDepth 100000 in
theorem w_enough (l : Launch) (dC : Nat → ClassId) (dI : Nat → Nat → Nat) (cA cL : ClassId) (h0 a0 a1 a2 a3 o0 : Nat) (w pr vo vf : Nat → Int32) (k : Int32) (fo : Nat → Int64) (sz : Nat) (a : Nat) (ha0 : a < 1024) : Met l yL_enough wsL_enough ({ frames := 8, cells := 0, slots := 0, locals := 160 }) (va_Pc [.ref h0, .int (nI a), .ref o0] (fun U => U.heap.size = sz ∧ va_P (dC, dI) vwCl [(h0, .inr (0, [.ref a0, .ref a1, .ref a2, .ref a3, .int k])), (a0, .inl (cA, 10, .inl w)), (a1, .inl (cA, 10, .inl pr)), (a2, .inl (cA, 31, .inl vo)), (a3, .inl (cA, 31, .inl vf)), (o0, .inl (cL, 1, .inr (.inl fo)))] U.heap ∧ va_K (dC, dI) vwCl [(cA, .int), (cL, .long)] U ∧ va_D (fun _ => True) [(h0, .inr (0, [.ref a0, .ref a1, .ref a2, .ref a3, .int k])), (a0, .inl (cA, 10, .inl w)), (a1, .inl (cA, 10, .inl pr)), (a2, .inl (cA, 31, .inl vo)), (a3, .inl (cA, 31, .inl vf)), (o0, .inl (cL, 1, .inr (.inl fo)))] ∧ True)) (bb_Qm 0 (dC, dI) vwCl [(h0, .inr (0, [.ref a0, .ref a1, .ref a2, .ref a3, .int k])), (a0, .inl (cA, 10, .inl w)), (a1, .inl (cA, 10, .inl pr)), (a2, .inl (cA, 31, .inl vo)), (a3, .inl (cA, 31, .inl vf)), (o0, .inl (cL, 1, .inr (.inl (fun _ => bb_L (bb_en w k (nI a))))))] (va_A [(h0, .inr (0, [.ref a0, .ref a1, .ref a2, .ref a3, .int k])), (a0, .inl (cA, 10, .inl w)), (a1, .inl (cA, 10, .inl pr)), (a2, .inl (cA, 31, .inl vo)), (a3, .inl (cA, 31, .inl vf)), (o0, .inl (cL, 1, .inr (.inl fo)))] sz)) 0 0 (va_A [(h0, .inr (0, [.ref a0, .ref a1, .ref a2, .ref a3, .int k])), (a0, .inl (cA, 10, .inl w)), (a1, .inl (cA, 10, .inl pr)), (a2, .inl (cA, 31, .inl vo)), (a3, .inl (cA, 31, .inl vf)), (o0, .inl (cL, 1, .inr (.inl fo)))] sz) := by
  refine va_MetW (cc := cL_enough) (maxL := 4) (ret := some .int) (by decide) rfl ?_
  intro p e s m args below meth c s₁ B hml hv
  obtain ⟨rfl, hsz, hP, hK, hD0, -⟩ := hv
  have hx := B.exec
  have hb := B.bytes
  have hr := B.returns
  have hts := atoms_spec (ws := wsL_enough) B.pre
  have hown : s.vm.findClass RL = some m.cls := findClass_of_methodNamed B.named
  have hlocks := B.notSynchronized
  subst hsz
  have hK1 := hK.sub [0] (tys' := [(cA, .int)]) rfl
  have hD := hD0.self (sz := s.heap.size)
  generalize hAe : va_A [(h0, .inr (0, [.ref a0, .ref a1, .ref a2, .ref a3, .int k])), (a0, .inl (cA, 10, .inl w)), (a1, .inl (cA, 10, .inl pr)), (a2, .inl (cA, 31, .inl vo)), (a3, .inl (cA, 31, .inl vf)), (o0, .inl (cL, 1, .inr (.inl fo)))] s.heap.size = A at hD ⊢
  have hA : ∀ q : Nat, s.heap.size ≤ q → A q := fun q h => by rw [← hAe]; exact Or.inr h
  have hl := lv_entry ([.ref h0, .int (nI a), .ref o0]) (n := 4) (Nat.le_of_ble_eq_true rfl)
  rw [lg_entry_eq]
  generalize (lg_sl ([.ref h0, .int (nI a), .ref o0]) ++ List.replicate (4 - (lg_sl ([.ref h0, .int (nI a), .ref o0])).length) Slot.unset).toArray = ls at hl ⊢
  have hl : lv_has ls 4 [(0, .ref h0), (1, .int (nI a)), (2, .ref o0)] := hl
  refine bb_gen hP hD (fun H locs hP hD hS => ?_)
  refine lv_aload_n hx hb dL_enough_0 rfl (lv_at hl 2 rfl) ?_
  refine lv_iconst (v := nI 0) hx hb dL_enough_1 (by decide) ?_
  refine lv_aload_n hx hb dL_enough_2 rfl (lv_at hl 0 rfl) ?_
  refine lv_iload_n hx hb dL_enough_3 rfl (lv_at hl 1 rfl) ?_
  have hPc : va_P (dC, dI) vwCl [(h0, .inr (0, [.ref a0, .ref a1, .ref a2, .ref a3, .int k])), (a0, .inl (cA, 10, .inl w)), (a1, .inl (cA, 10, .inl pr)), (a2, .inl (cA, 31, .inl vo)), (a3, .inl (cA, 31, .inl vf))] H := bb_Pmid (pre := []) (wc := [(h0, .inr (0, [.ref a0, .ref a1, .ref a2, .ref a3, .int k])), (a0, .inl (cA, 10, .inl w)), (a1, .inl (cA, 10, .inl pr)), (a2, .inl (cA, 31, .inl vo)), (a3, .inl (cA, 31, .inl vf))]) (post := [(o0, .inl (cL, 1, .inr (.inl fo)))]) hP
  refine bb_cV (As := [.int (nI a)]) (rest := [.int (nI 0), .ref o0]) (r := bb_I (bb_en w k (nI a))) 0 ⟨hx, hb, hml, hown, hts⟩ (k_enough l dC dI cA h0 a0 a1 a2 a3 w pr vo vf k a ha0) (cwV 1 hts gL_enough_X0_enough rfl rfl rfl (by decide +kernel) ⟨Nat.le_of_ble_eq_true rfl, Nat.le_of_ble_eq_true rfl⟩) hPc hK1 rfl rfl rfl hl.1 rfl (Nat.le_of_ble_eq_true rfl) dL_enough_4 (Nat.zero_le _) (Nat.zero_le _) ?_
  refine lv_if_eq (tgt := 14) hx hb dL_enough_7 rfl (fun h7 => ?_) (fun h7 => ?_)
  · skip
    have q7 := bb_I_0.mp h7
    refine lv_lconst (v := 0) hx hb dL_enough_14 (by decide) ?_
    refine va_last hx hb hK hP hD hS 5 1 rfl rfl (vp_in_nI (by decide) (by decide)) dL_enough_15 (fun H locs hP hD hS => ?_)
    have hP : va_P (dC, dI) vwCl [(h0, .inr (0, [.ref a0, .ref a1, .ref a2, .ref a3, .int k])), (a0, .inl (cA, 10, .inl w)), (a1, .inl (cA, 10, .inl pr)), (a2, .inl (cA, 31, .inl vo)), (a3, .inl (cA, 31, .inl vf)), (o0, .inl (cL, 1, .inr (.inl (vp_updL fo (nI 0).toNatClampNeg 0))))] H := hP
    have hD : va_D A [(h0, .inr (0, [.ref a0, .ref a1, .ref a2, .ref a3, .int k])), (a0, .inl (cA, 10, .inl w)), (a1, .inl (cA, 10, .inl pr)), (a2, .inl (cA, 31, .inl vo)), (a3, .inl (cA, 31, .inl vf)), (o0, .inl (cL, 1, .inr (.inl (vp_updL fo (nI 0).toNatClampNeg 0))))] := hD
    refine lv_goto (tgt := 22) hx hb dL_enough_16 rfl ?_
    refine lv_iconst (v := 0) hx hb dL_enough_22 (by decide) ?_
    have hP := bb_P_extL (g := (fun _ => bb_L (bb_en w k (nI a)))) hP hD (q0 := 5) rfl (fun j9 h9 => by rw [bb_upL h9]; simp [bb_L, h7, q7])
    have hP : va_P (dC, dI) vwCl [(h0, .inr (0, [.ref a0, .ref a1, .ref a2, .ref a3, .int k])), (a0, .inl (cA, 10, .inl w)), (a1, .inl (cA, 10, .inl pr)), (a2, .inl (cA, 31, .inl vo)), (a3, .inl (cA, 31, .inl vf)), (o0, .inl (cL, 1, .inr (.inl (fun _ => bb_L (bb_en w k (nI a))))))] H := hP
    exact W.iret (v := 0) hx hb hr (fun t ht _ => ⟨⟨0, (), rfl, rfl, by show va_P _ _ _ t.heap; rw [ht]; exact hP⟩, hS.F ht⟩) hS.2.2 dL_enough_23
  · skip
    have q7 := bb_nz h7
    refine lv_lconst (v := 1) hx hb dL_enough_10 (by decide) ?_
    refine lv_goto (tgt := 15) hx hb dL_enough_11 rfl ?_
    refine va_last hx hb hK hP hD hS 5 1 rfl rfl (vp_in_nI (by decide) (by decide)) dL_enough_15 (fun H locs hP hD hS => ?_)
    have hP : va_P (dC, dI) vwCl [(h0, .inr (0, [.ref a0, .ref a1, .ref a2, .ref a3, .int k])), (a0, .inl (cA, 10, .inl w)), (a1, .inl (cA, 10, .inl pr)), (a2, .inl (cA, 31, .inl vo)), (a3, .inl (cA, 31, .inl vf)), (o0, .inl (cL, 1, .inr (.inl (vp_updL fo (nI 0).toNatClampNeg 1))))] H := hP
    have hD : va_D A [(h0, .inr (0, [.ref a0, .ref a1, .ref a2, .ref a3, .int k])), (a0, .inl (cA, 10, .inl w)), (a1, .inl (cA, 10, .inl pr)), (a2, .inl (cA, 31, .inl vo)), (a3, .inl (cA, 31, .inl vf)), (o0, .inl (cL, 1, .inr (.inl (vp_updL fo (nI 0).toNatClampNeg 1))))] := hD
    refine lv_goto (tgt := 22) hx hb dL_enough_16 rfl ?_
    refine lv_iconst (v := 0) hx hb dL_enough_22 (by decide) ?_
    have hP := bb_P_extL (g := (fun _ => bb_L (bb_en w k (nI a)))) hP hD (q0 := 5) rfl (fun j9 h9 => by rw [bb_upL h9]; simp [bb_L, h7, q7])
    have hP : va_P (dC, dI) vwCl [(h0, .inr (0, [.ref a0, .ref a1, .ref a2, .ref a3, .int k])), (a0, .inl (cA, 10, .inl w)), (a1, .inl (cA, 10, .inl pr)), (a2, .inl (cA, 31, .inl vo)), (a3, .inl (cA, 31, .inl vf)), (o0, .inl (cL, 1, .inr (.inl (fun _ => bb_L (bb_en w k (nI a))))))] H := hP
    exact W.iret (v := 0) hx hb hr (fun t ht _ => ⟨⟨0, (), rfl, rfl, by show va_P _ _ _ t.heap; rw [ht]; exact hP⟩, hS.F ht⟩) hS.2.2 dL_enough_23

set_option maxHeartbeats 4000000 in
set_option maxRecDepth 100000 in
theorem w_enough1 (l : Launch) (htr : l.stackTraces = false) (Bd : Nat) (dC : Nat → ClassId) (dI : Nat → Nat → Nat) (cA cL : ClassId) (h0 a0 a1 a2 a3 o0 : Nat) (w pr vo vf : Nat → Int32) (k : Int32) (fo : Nat → Int64) (sz : Nat) (x0 : Int32) (hbad : bb_out x0 (nI 1024) = true) : Met l yL_enough wsL_enough ({ frames := 8, cells := 1, slots := 6, locals := 160 }) (va_Pc [.ref h0, .int x0, .ref o0] (fun U => U.heap.size = sz ∧ va_P (dC, dI) vwCl [(h0, .inr (0, [.ref a0, .ref a1, .ref a2, .ref a3, .int k])), (a0, .inl (cA, 10, .inl w)), (a1, .inl (cA, 10, .inl pr)), (a2, .inl (cA, 31, .inl vo)), (a3, .inl (cA, 31, .inl vf)), (o0, .inl (cL, 1, .inr (.inl fo)))] U.heap ∧ va_K (dC, dI) vwCl [(cA, .int), (cL, .long)] U ∧ va_D (fun _ => True) [(h0, .inr (0, [.ref a0, .ref a1, .ref a2, .ref a3, .int k])), (a0, .inl (cA, 10, .inl w)), (a1, .inl (cA, 10, .inl pr)), (a2, .inl (cA, 31, .inl vo)), (a3, .inl (cA, 31, .inl vf)), (o0, .inl (cL, 1, .inr (.inl fo)))] ∧ bb_TS Bd U)) (bb_Qm 1 (dC, dI) vwCl [(h0, .inr (0, [.ref a0, .ref a1, .ref a2, .ref a3, .int k])), (a0, .inl (cA, 10, .inl w)), (a1, .inl (cA, 10, .inl pr)), (a2, .inl (cA, 31, .inl vo)), (a3, .inl (cA, 31, .inl vf)), (o0, .inl (cL, 1, .inr (.inl fo)))] (va_A [(h0, .inr (0, [.ref a0, .ref a1, .ref a2, .ref a3, .int k])), (a0, .inl (cA, 10, .inl w)), (a1, .inl (cA, 10, .inl pr)), (a2, .inl (cA, 31, .inl vo)), (a3, .inl (cA, 31, .inl vf)), (o0, .inl (cL, 1, .inr (.inl fo)))] sz)) 1 6 (va_A [(h0, .inr (0, [.ref a0, .ref a1, .ref a2, .ref a3, .int k])), (a0, .inl (cA, 10, .inl w)), (a1, .inl (cA, 10, .inl pr)), (a2, .inl (cA, 31, .inl vo)), (a3, .inl (cA, 31, .inl vf)), (o0, .inl (cL, 1, .inr (.inl fo)))] sz) := by
  refine va_MetW (cc := cL_enough) (maxL := 4) (ret := some .int) (by decide) rfl ?_
  intro p e s m args below meth c s₁ B hml hv
  obtain ⟨rfl, hsz, hP, hK, hD0, hZ⟩ := hv
  have hx := B.exec
  have hb := B.bytes
  have hr := B.returns
  have hts := atoms_spec (ws := wsL_enough) B.pre
  have hown : s.vm.findClass RL = some m.cls := findClass_of_methodNamed B.named
  have hlocks := B.notSynchronized
  subst hsz
  have hK1 := hK.sub [0] (tys' := [(cA, .int)]) rfl
  have htab := bb_table (hts _ List.mem_cons_self) B.named B.method (Stand.of_body B).code
  have hD := hD0.self (sz := s.heap.size)
  generalize hAe : va_A [(h0, .inr (0, [.ref a0, .ref a1, .ref a2, .ref a3, .int k])), (a0, .inl (cA, 10, .inl w)), (a1, .inl (cA, 10, .inl pr)), (a2, .inl (cA, 31, .inl vo)), (a3, .inl (cA, 31, .inl vf)), (o0, .inl (cL, 1, .inr (.inl fo)))] s.heap.size = A at hD ⊢
  have hA : ∀ q : Nat, s.heap.size ≤ q → A q := fun q h => by rw [← hAe]; exact Or.inr h
  have hl := lv_entry ([.ref h0, .int x0, .ref o0]) (n := 4) (Nat.le_of_ble_eq_true rfl)
  rw [lg_entry_eq]
  generalize (lg_sl ([.ref h0, .int x0, .ref o0]) ++ List.replicate (4 - (lg_sl ([.ref h0, .int x0, .ref o0])).length) Slot.unset).toArray = ls at hl ⊢
  have hl : lv_has ls 4 [(0, .ref h0), (1, .int x0), (2, .ref o0)] := hl
  refine lv_aload_n hx hb dL_enough_0 rfl (lv_at hl 2 rfl) ?_
  refine lv_iconst (v := nI 0) hx hb dL_enough_1 (by decide) ?_
  refine lv_aload_n hx hb dL_enough_2 rfl (lv_at hl 0 rfl) ?_
  refine lv_iload_n hx hb dL_enough_3 rfl (lv_at hl 1 rfl) ?_
  have hPc : va_P (dC, dI) vwCl [(h0, .inr (0, [.ref a0, .ref a1, .ref a2, .ref a3, .int k])), (a0, .inl (cA, 10, .inl w)), (a1, .inl (cA, 10, .inl pr)), (a2, .inl (cA, 31, .inl vo)), (a3, .inl (cA, 31, .inl vf))] s.heap := bb_Pmid (pre := []) (wc := [(h0, .inr (0, [.ref a0, .ref a1, .ref a2, .ref a3, .int k])), (a0, .inl (cA, 10, .inl w)), (a1, .inl (cA, 10, .inl pr)), (a2, .inl (cA, 31, .inl vo)), (a3, .inl (cA, 31, .inl vf))]) (post := [(o0, .inl (cL, 1, .inr (.inl fo)))]) hP
  refine bb_cVt (As := [.int x0]) (rest := [.int (nI 0), .ref o0]) ⟨hx, hb, hml, hown, hts⟩ (t_enough1 l htr Bd dC dI cA h0 a0 a1 a2 a3 w pr vo vf k x0 hbad) (cwV 1 hts gL_enough_X0_enough rfl rfl rfl (by decide +kernel) ⟨Nat.le_of_ble_eq_true rfl, Nat.le_of_ble_eq_true rfl⟩) ⟨bb_Ptb, va_recv (D := (dC, dI)) (cl := vwCl) (ci := 0) (q0 := 0) hK1 hPc rfl rfl, fun U9 hU9 hW9 => ⟨rfl, ⟨by rw [hU9]; exact hPc, va_K.moved hW9.alike hK1⟩, hZ.mv hW9 (fun _ _ => by rw [hU9])⟩⟩ rfl hl.1 rfl (Nat.le_of_ble_eq_true rfl) dL_enough_4 (Nat.le_of_ble_eq_true rfl) (Nat.le_of_ble_eq_true rfl) (fun q9 H9 ce9 z9 o9 g1 g2 g3 => ?_)
  have hP9 := hP.kept (fun k9 x9 h9 => o9 x9.1 (hP k9 x9 h9).lt)
  have hS9 : va_S A s.heap H9 [] := ⟨z9, fun q h _ => o9 q h, fun _ h => by cases h⟩
  refine bb_hand1 hown htab (by decide) (by decide) (name := NSE) (hts _ (List.mem_cons_of_mem _ bb_u107)) (hZ.c1.use rfl) g1 g2 g3 ?_
  refine lv_astore_n (lv' := [(3, .ref q9), (0, .ref h0), (1, .int x0), (2, .ref o0)]) hx hb dL_enough_19 rfl hl (by decide) rfl (fun ls hl => ?_)
  refine lv_iconst (v := 1) hx hb dL_enough_20 (by decide) ?_
  exact W.iret (v := 1) hx hb hr (fun t ht _ => ⟨⟨1, (), rfl, rfl, by show va_P _ _ _ t.heap; rw [ht]; exact hP9⟩, hS9.F ht⟩) hS9.2.2 dL_enough_21

set_option maxHeartbeats 4000000 in
set_option maxRecDepth 100000 in
theorem w_blocks (l : Launch) (dC : Nat → ClassId) (dI : Nat → Nat → Nat) (cA cL : ClassId) (h0 a0 a1 a2 a3 o0 : Nat) (w pr vo vf : Nat → Int32) (k : Int32) (fo : Nat → Int64) (sz : Nat) (a : Nat) (ha0 : a < 1024) : Met l yL_blocks wsL_blocks ({ frames := 8, cells := 0, slots := 0, locals := 160 }) (va_Pc [.ref h0, .int (nI a), .ref o0] (fun U => U.heap.size = sz ∧ va_P (dC, dI) vwCl [(h0, .inr (0, [.ref a0, .ref a1, .ref a2, .ref a3, .int k])), (a0, .inl (cA, 10, .inl w)), (a1, .inl (cA, 10, .inl pr)), (a2, .inl (cA, 31, .inl vo)), (a3, .inl (cA, 31, .inl vf)), (o0, .inl (cL, 1, .inr (.inl fo)))] U.heap ∧ va_K (dC, dI) vwCl [(cA, .int), (cL, .long)] U ∧ va_D (fun _ => True) [(h0, .inr (0, [.ref a0, .ref a1, .ref a2, .ref a3, .int k])), (a0, .inl (cA, 10, .inl w)), (a1, .inl (cA, 10, .inl pr)), (a2, .inl (cA, 31, .inl vo)), (a3, .inl (cA, 31, .inl vf)), (o0, .inl (cL, 1, .inr (.inl fo)))] ∧ True)) (bb_Qm 0 (dC, dI) vwCl [(h0, .inr (0, [.ref a0, .ref a1, .ref a2, .ref a3, .int k])), (a0, .inl (cA, 10, .inl w)), (a1, .inl (cA, 10, .inl pr)), (a2, .inl (cA, 31, .inl vo)), (a3, .inl (cA, 31, .inl vf)), (o0, .inl (cL, 1, .inr (.inl (fun _ => bb_L (!bb_en w k (1023 &&& bb_not (nI a)))))))] (va_A [(h0, .inr (0, [.ref a0, .ref a1, .ref a2, .ref a3, .int k])), (a0, .inl (cA, 10, .inl w)), (a1, .inl (cA, 10, .inl pr)), (a2, .inl (cA, 31, .inl vo)), (a3, .inl (cA, 31, .inl vf)), (o0, .inl (cL, 1, .inr (.inl fo)))] sz)) 0 0 (va_A [(h0, .inr (0, [.ref a0, .ref a1, .ref a2, .ref a3, .int k])), (a0, .inl (cA, 10, .inl w)), (a1, .inl (cA, 10, .inl pr)), (a2, .inl (cA, 31, .inl vo)), (a3, .inl (cA, 31, .inl vf)), (o0, .inl (cL, 1, .inr (.inl fo)))] sz) := by
  refine va_MetW (cc := cL_blocks) (maxL := 4) (ret := some .int) (by decide) rfl ?_
  intro p e s m args below meth c s₁ B hml hv
  obtain ⟨rfl, hsz, hP, hK, hD0, -⟩ := hv
  have hx := B.exec
  have hb := B.bytes
  have hr := B.returns
  have hts := atoms_spec (ws := wsL_blocks) B.pre
  have hown : s.vm.findClass RL = some m.cls := findClass_of_methodNamed B.named
  have hlocks := B.notSynchronized
  subst hsz
  have hK1 := hK.sub [0] (tys' := [(cA, .int)]) rfl
  have hD := hD0.self (sz := s.heap.size)
  generalize hAe : va_A [(h0, .inr (0, [.ref a0, .ref a1, .ref a2, .ref a3, .int k])), (a0, .inl (cA, 10, .inl w)), (a1, .inl (cA, 10, .inl pr)), (a2, .inl (cA, 31, .inl vo)), (a3, .inl (cA, 31, .inl vf)), (o0, .inl (cL, 1, .inr (.inl fo)))] s.heap.size = A at hD ⊢
  have hA : ∀ q : Nat, s.heap.size ≤ q → A q := fun q h => by rw [← hAe]; exact Or.inr h
  have hl := lv_entry ([.ref h0, .int (nI a), .ref o0]) (n := 4) (Nat.le_of_ble_eq_true rfl)
  rw [lg_entry_eq]
  generalize (lg_sl ([.ref h0, .int (nI a), .ref o0]) ++ List.replicate (4 - (lg_sl ([.ref h0, .int (nI a), .ref o0])).length) Slot.unset).toArray = ls at hl ⊢
  have hl : lv_has ls 4 [(0, .ref h0), (1, .int (nI a)), (2, .ref o0)] := hl
  refine bb_gen hP hD (fun H locs hP hD hS => ?_)
  refine lv_aload_n hx hb dL_blocks_0 rfl (lv_at hl 2 rfl) ?_
  refine lv_iconst (v := nI 0) hx hb dL_blocks_1 (by decide) ?_
  refine lv_aload_n hx hb dL_blocks_2 rfl (lv_at hl 0 rfl) ?_
  refine lv_iload_n hx hb dL_blocks_3 rfl (lv_at hl 1 rfl) ?_
  have hPc : va_P (dC, dI) vwCl [(h0, .inr (0, [.ref a0, .ref a1, .ref a2, .ref a3, .int k])), (a0, .inl (cA, 10, .inl w)), (a1, .inl (cA, 10, .inl pr)), (a2, .inl (cA, 31, .inl vo)), (a3, .inl (cA, 31, .inl vf))] H := bb_Pmid (pre := []) (wc := [(h0, .inr (0, [.ref a0, .ref a1, .ref a2, .ref a3, .int k])), (a0, .inl (cA, 10, .inl w)), (a1, .inl (cA, 10, .inl pr)), (a2, .inl (cA, 31, .inl vo)), (a3, .inl (cA, 31, .inl vf))]) (post := [(o0, .inl (cL, 1, .inr (.inl fo)))]) hP
  refine bb_cV (As := [.int (nI a)]) (rest := [.int (nI 0), .ref o0]) (r := bb_I (!bb_en w k (1023 &&& bb_not (nI a)))) 0 ⟨hx, hb, hml, hown, hts⟩ (k_blocks l dC dI cA h0 a0 a1 a2 a3 w pr vo vf k a ha0) (cwV 1 hts gL_blocks_X0_blocks rfl rfl rfl (by decide +kernel) ⟨Nat.le_of_ble_eq_true rfl, Nat.le_of_ble_eq_true rfl⟩) hPc hK1 rfl rfl rfl hl.1 rfl (Nat.le_of_ble_eq_true rfl) dL_blocks_4 (Nat.zero_le _) (Nat.zero_le _) ?_
  refine lv_if_eq (tgt := 14) hx hb dL_blocks_7 rfl (fun h7 => ?_) (fun h7 => ?_)
  · skip
    have q7 := bb_I_0.mp h7
    refine lv_lconst (v := 0) hx hb dL_blocks_14 (by decide) ?_
    refine va_last hx hb hK hP hD hS 5 1 rfl rfl (vp_in_nI (by decide) (by decide)) dL_blocks_15 (fun H locs hP hD hS => ?_)
    have hP : va_P (dC, dI) vwCl [(h0, .inr (0, [.ref a0, .ref a1, .ref a2, .ref a3, .int k])), (a0, .inl (cA, 10, .inl w)), (a1, .inl (cA, 10, .inl pr)), (a2, .inl (cA, 31, .inl vo)), (a3, .inl (cA, 31, .inl vf)), (o0, .inl (cL, 1, .inr (.inl (vp_updL fo (nI 0).toNatClampNeg 0))))] H := hP
    have hD : va_D A [(h0, .inr (0, [.ref a0, .ref a1, .ref a2, .ref a3, .int k])), (a0, .inl (cA, 10, .inl w)), (a1, .inl (cA, 10, .inl pr)), (a2, .inl (cA, 31, .inl vo)), (a3, .inl (cA, 31, .inl vf)), (o0, .inl (cL, 1, .inr (.inl (vp_updL fo (nI 0).toNatClampNeg 0))))] := hD
    refine lv_goto (tgt := 22) hx hb dL_blocks_16 rfl ?_
    refine lv_iconst (v := 0) hx hb dL_blocks_22 (by decide) ?_
    have hP := bb_P_extL (g := (fun _ => bb_L (!bb_en w k (1023 &&& bb_not (nI a))))) hP hD (q0 := 5) rfl (fun j9 h9 => by rw [bb_upL h9]; simp [bb_L, h7, q7])
    have hP : va_P (dC, dI) vwCl [(h0, .inr (0, [.ref a0, .ref a1, .ref a2, .ref a3, .int k])), (a0, .inl (cA, 10, .inl w)), (a1, .inl (cA, 10, .inl pr)), (a2, .inl (cA, 31, .inl vo)), (a3, .inl (cA, 31, .inl vf)), (o0, .inl (cL, 1, .inr (.inl (fun _ => bb_L (!bb_en w k (1023 &&& bb_not (nI a)))))))] H := hP
    exact W.iret (v := 0) hx hb hr (fun t ht _ => ⟨⟨0, (), rfl, rfl, by show va_P _ _ _ t.heap; rw [ht]; exact hP⟩, hS.F ht⟩) hS.2.2 dL_blocks_23
  · skip
    have q7 := bb_nz h7
    refine lv_lconst (v := 1) hx hb dL_blocks_10 (by decide) ?_
    refine lv_goto (tgt := 15) hx hb dL_blocks_11 rfl ?_
    refine va_last hx hb hK hP hD hS 5 1 rfl rfl (vp_in_nI (by decide) (by decide)) dL_blocks_15 (fun H locs hP hD hS => ?_)
    have hP : va_P (dC, dI) vwCl [(h0, .inr (0, [.ref a0, .ref a1, .ref a2, .ref a3, .int k])), (a0, .inl (cA, 10, .inl w)), (a1, .inl (cA, 10, .inl pr)), (a2, .inl (cA, 31, .inl vo)), (a3, .inl (cA, 31, .inl vf)), (o0, .inl (cL, 1, .inr (.inl (vp_updL fo (nI 0).toNatClampNeg 1))))] H := hP
    have hD : va_D A [(h0, .inr (0, [.ref a0, .ref a1, .ref a2, .ref a3, .int k])), (a0, .inl (cA, 10, .inl w)), (a1, .inl (cA, 10, .inl pr)), (a2, .inl (cA, 31, .inl vo)), (a3, .inl (cA, 31, .inl vf)), (o0, .inl (cL, 1, .inr (.inl (vp_updL fo (nI 0).toNatClampNeg 1))))] := hD
    refine lv_goto (tgt := 22) hx hb dL_blocks_16 rfl ?_
    refine lv_iconst (v := 0) hx hb dL_blocks_22 (by decide) ?_
    have hP := bb_P_extL (g := (fun _ => bb_L (!bb_en w k (1023 &&& bb_not (nI a))))) hP hD (q0 := 5) rfl (fun j9 h9 => by rw [bb_upL h9]; simp [bb_L, h7, q7])
    have hP : va_P (dC, dI) vwCl [(h0, .inr (0, [.ref a0, .ref a1, .ref a2, .ref a3, .int k])), (a0, .inl (cA, 10, .inl w)), (a1, .inl (cA, 10, .inl pr)), (a2, .inl (cA, 31, .inl vo)), (a3, .inl (cA, 31, .inl vf)), (o0, .inl (cL, 1, .inr (.inl (fun _ => bb_L (!bb_en w k (1023 &&& bb_not (nI a)))))))] H := hP
    exact W.iret (v := 0) hx hb hr (fun t ht _ => ⟨⟨0, (), rfl, rfl, by show va_P _ _ _ t.heap; rw [ht]; exact hP⟩, hS.F ht⟩) hS.2.2 dL_blocks_23

set_option maxHeartbeats 4000000 in
set_option maxRecDepth 100000 in
theorem w_blocks1 (l : Launch) (htr : l.stackTraces = false) (Bd : Nat) (dC : Nat → ClassId) (dI : Nat → Nat → Nat) (cA cL : ClassId) (h0 a0 a1 a2 a3 o0 : Nat) (w pr vo vf : Nat → Int32) (k : Int32) (fo : Nat → Int64) (sz : Nat) (x0 : Int32) (hbad : bb_out x0 (nI 1024) = true) : Met l yL_blocks wsL_blocks ({ frames := 8, cells := 1, slots := 6, locals := 160 }) (va_Pc [.ref h0, .int x0, .ref o0] (fun U => U.heap.size = sz ∧ va_P (dC, dI) vwCl [(h0, .inr (0, [.ref a0, .ref a1, .ref a2, .ref a3, .int k])), (a0, .inl (cA, 10, .inl w)), (a1, .inl (cA, 10, .inl pr)), (a2, .inl (cA, 31, .inl vo)), (a3, .inl (cA, 31, .inl vf)), (o0, .inl (cL, 1, .inr (.inl fo)))] U.heap ∧ va_K (dC, dI) vwCl [(cA, .int), (cL, .long)] U ∧ va_D (fun _ => True) [(h0, .inr (0, [.ref a0, .ref a1, .ref a2, .ref a3, .int k])), (a0, .inl (cA, 10, .inl w)), (a1, .inl (cA, 10, .inl pr)), (a2, .inl (cA, 31, .inl vo)), (a3, .inl (cA, 31, .inl vf)), (o0, .inl (cL, 1, .inr (.inl fo)))] ∧ bb_TS Bd U)) (bb_Qm 1 (dC, dI) vwCl [(h0, .inr (0, [.ref a0, .ref a1, .ref a2, .ref a3, .int k])), (a0, .inl (cA, 10, .inl w)), (a1, .inl (cA, 10, .inl pr)), (a2, .inl (cA, 31, .inl vo)), (a3, .inl (cA, 31, .inl vf)), (o0, .inl (cL, 1, .inr (.inl fo)))] (va_A [(h0, .inr (0, [.ref a0, .ref a1, .ref a2, .ref a3, .int k])), (a0, .inl (cA, 10, .inl w)), (a1, .inl (cA, 10, .inl pr)), (a2, .inl (cA, 31, .inl vo)), (a3, .inl (cA, 31, .inl vf)), (o0, .inl (cL, 1, .inr (.inl fo)))] sz)) 1 6 (va_A [(h0, .inr (0, [.ref a0, .ref a1, .ref a2, .ref a3, .int k])), (a0, .inl (cA, 10, .inl w)), (a1, .inl (cA, 10, .inl pr)), (a2, .inl (cA, 31, .inl vo)), (a3, .inl (cA, 31, .inl vf)), (o0, .inl (cL, 1, .inr (.inl fo)))] sz) := by
  refine va_MetW (cc := cL_blocks) (maxL := 4) (ret := some .int) (by decide) rfl ?_
  intro p e s m args below meth c s₁ B hml hv
  obtain ⟨rfl, hsz, hP, hK, hD0, hZ⟩ := hv
  have hx := B.exec
  have hb := B.bytes
  have hr := B.returns
  have hts := atoms_spec (ws := wsL_blocks) B.pre
  have hown : s.vm.findClass RL = some m.cls := findClass_of_methodNamed B.named
  have hlocks := B.notSynchronized
  subst hsz
  have hK1 := hK.sub [0] (tys' := [(cA, .int)]) rfl
  have htab := bb_table (hts _ List.mem_cons_self) B.named B.method (Stand.of_body B).code
  have hD := hD0.self (sz := s.heap.size)
  generalize hAe : va_A [(h0, .inr (0, [.ref a0, .ref a1, .ref a2, .ref a3, .int k])), (a0, .inl (cA, 10, .inl w)), (a1, .inl (cA, 10, .inl pr)), (a2, .inl (cA, 31, .inl vo)), (a3, .inl (cA, 31, .inl vf)), (o0, .inl (cL, 1, .inr (.inl fo)))] s.heap.size = A at hD ⊢
  have hA : ∀ q : Nat, s.heap.size ≤ q → A q := fun q h => by rw [← hAe]; exact Or.inr h
  have hl := lv_entry ([.ref h0, .int x0, .ref o0]) (n := 4) (Nat.le_of_ble_eq_true rfl)
  rw [lg_entry_eq]
  generalize (lg_sl ([.ref h0, .int x0, .ref o0]) ++ List.replicate (4 - (lg_sl ([.ref h0, .int x0, .ref o0])).length) Slot.unset).toArray = ls at hl ⊢
  have hl : lv_has ls 4 [(0, .ref h0), (1, .int x0), (2, .ref o0)] := hl
  refine lv_aload_n hx hb dL_blocks_0 rfl (lv_at hl 2 rfl) ?_
  refine lv_iconst (v := nI 0) hx hb dL_blocks_1 (by decide) ?_
  refine lv_aload_n hx hb dL_blocks_2 rfl (lv_at hl 0 rfl) ?_
  refine lv_iload_n hx hb dL_blocks_3 rfl (lv_at hl 1 rfl) ?_
  have hPc : va_P (dC, dI) vwCl [(h0, .inr (0, [.ref a0, .ref a1, .ref a2, .ref a3, .int k])), (a0, .inl (cA, 10, .inl w)), (a1, .inl (cA, 10, .inl pr)), (a2, .inl (cA, 31, .inl vo)), (a3, .inl (cA, 31, .inl vf))] s.heap := bb_Pmid (pre := []) (wc := [(h0, .inr (0, [.ref a0, .ref a1, .ref a2, .ref a3, .int k])), (a0, .inl (cA, 10, .inl w)), (a1, .inl (cA, 10, .inl pr)), (a2, .inl (cA, 31, .inl vo)), (a3, .inl (cA, 31, .inl vf))]) (post := [(o0, .inl (cL, 1, .inr (.inl fo)))]) hP
  refine bb_cVt (As := [.int x0]) (rest := [.int (nI 0), .ref o0]) ⟨hx, hb, hml, hown, hts⟩ (t_blocks1 l htr Bd dC dI cA h0 a0 a1 a2 a3 w pr vo vf k x0 hbad) (cwV 1 hts gL_blocks_X0_blocks rfl rfl rfl (by decide +kernel) ⟨Nat.le_of_ble_eq_true rfl, Nat.le_of_ble_eq_true rfl⟩) ⟨bb_Ptb, va_recv (D := (dC, dI)) (cl := vwCl) (ci := 0) (q0 := 0) hK1 hPc rfl rfl, fun U9 hU9 hW9 => ⟨rfl, ⟨by rw [hU9]; exact hPc, va_K.moved hW9.alike hK1⟩, hZ.mv hW9 (fun _ _ => by rw [hU9])⟩⟩ rfl hl.1 rfl (Nat.le_of_ble_eq_true rfl) dL_blocks_4 (Nat.le_of_ble_eq_true rfl) (Nat.le_of_ble_eq_true rfl) (fun q9 H9 ce9 z9 o9 g1 g2 g3 => ?_)
  have hP9 := hP.kept (fun k9 x9 h9 => o9 x9.1 (hP k9 x9 h9).lt)
  have hS9 : va_S A s.heap H9 [] := ⟨z9, fun q h _ => o9 q h, fun _ h => by cases h⟩
  refine bb_hand1 hown htab (by decide) (by decide) (name := NSE) (hts _ (List.mem_cons_of_mem _ bb_u107)) (hZ.c1.use rfl) g1 g2 g3 ?_
  refine lv_astore_n (lv' := [(3, .ref q9), (0, .ref h0), (1, .int x0), (2, .ref o0)]) hx hb dL_blocks_19 rfl hl (by decide) rfl (fun ls hl => ?_)
  refine lv_iconst (v := 1) hx hb dL_blocks_20 (by decide) ?_
  exact W.iret (v := 1) hx hb hr (fun t ht _ => ⟨⟨1, (), rfl, rfl, by show va_P _ _ _ t.heap; rw [ht]; exact hP9⟩, hS9.F ht⟩) hS9.2.2 dL_blocks_21

set_option maxHeartbeats 4000000 in
set_option maxRecDepth 100000 in
theorem w_about_0 (l : Launch) (dC : Nat → ClassId) (dI : Nat → Nat → Nat) (cA cL : ClassId) (h0 a0 a1 a2 a3 o0 : Nat) (w pr vo vf : Nat → Int32) (k : Int32) (fo : Nat → Int64) (sz : Nat) (n : Nat) (hn0 : n < 10) : Met l yL_about wsL_about ({ frames := 8, cells := 0, slots := 0, locals := 160 }) (va_Pc [.ref h0, .int (nI n), .int 0, .ref o0] (fun U => U.heap.size = sz ∧ va_P (dC, dI) vwCl [(h0, .inr (0, [.ref a0, .ref a1, .ref a2, .ref a3, .int k])), (a0, .inl (cA, 10, .inl w)), (a1, .inl (cA, 10, .inl pr)), (a2, .inl (cA, 31, .inl vo)), (a3, .inl (cA, 31, .inl vf)), (o0, .inl (cL, 1, .inr (.inl fo)))] U.heap ∧ va_K (dC, dI) vwCl [(cA, .int), (cL, .long)] U ∧ va_D (fun _ => True) [(h0, .inr (0, [.ref a0, .ref a1, .ref a2, .ref a3, .int k])), (a0, .inl (cA, 10, .inl w)), (a1, .inl (cA, 10, .inl pr)), (a2, .inl (cA, 31, .inl vo)), (a3, .inl (cA, 31, .inl vf)), (o0, .inl (cL, 1, .inr (.inl fo)))] ∧ True)) (bb_Qm 0 (dC, dI) vwCl [(h0, .inr (0, [.ref a0, .ref a1, .ref a2, .ref a3, .int k])), (a0, .inl (cA, 10, .inl w)), (a1, .inl (cA, 10, .inl pr)), (a2, .inl (cA, 31, .inl vo)), (a3, .inl (cA, 31, .inl vf)), (o0, .inl (cL, 1, .inr (.inl (fun _ => (w n).toInt64))))] (va_A [(h0, .inr (0, [.ref a0, .ref a1, .ref a2, .ref a3, .int k])), (a0, .inl (cA, 10, .inl w)), (a1, .inl (cA, 10, .inl pr)), (a2, .inl (cA, 31, .inl vo)), (a3, .inl (cA, 31, .inl vf)), (o0, .inl (cL, 1, .inr (.inl fo)))] sz)) 0 0 (va_A [(h0, .inr (0, [.ref a0, .ref a1, .ref a2, .ref a3, .int k])), (a0, .inl (cA, 10, .inl w)), (a1, .inl (cA, 10, .inl pr)), (a2, .inl (cA, 31, .inl vo)), (a3, .inl (cA, 31, .inl vf)), (o0, .inl (cL, 1, .inr (.inl fo)))] sz) := by
  refine va_MetW (cc := cL_about) (maxL := 5) (ret := some .int) (by decide) rfl ?_
  intro p e s m args below meth c s₁ B hml hv
  obtain ⟨rfl, hsz, hP, hK, hD0, -⟩ := hv
  have hx := B.exec
  have hb := B.bytes
  have hr := B.returns
  have hts := atoms_spec (ws := wsL_about) B.pre
  have hown : s.vm.findClass RL = some m.cls := findClass_of_methodNamed B.named
  have hlocks := B.notSynchronized
  subst hsz
  have hK1 := hK.sub [0] (tys' := [(cA, .int)]) rfl
  have hD := hD0.self (sz := s.heap.size)
  generalize hAe : va_A [(h0, .inr (0, [.ref a0, .ref a1, .ref a2, .ref a3, .int k])), (a0, .inl (cA, 10, .inl w)), (a1, .inl (cA, 10, .inl pr)), (a2, .inl (cA, 31, .inl vo)), (a3, .inl (cA, 31, .inl vf)), (o0, .inl (cL, 1, .inr (.inl fo)))] s.heap.size = A at hD ⊢
  have hA : ∀ q : Nat, s.heap.size ≤ q → A q := fun q h => by rw [← hAe]; exact Or.inr h
  have hl := lv_entry ([.ref h0, .int (nI n), .int 0, .ref o0]) (n := 5) (Nat.le_of_ble_eq_true rfl)
  rw [lg_entry_eq]
  generalize (lg_sl ([.ref h0, .int (nI n), .int 0, .ref o0]) ++ List.replicate (5 - (lg_sl ([.ref h0, .int (nI n), .int 0, .ref o0])).length) Slot.unset).toArray = ls at hl ⊢
  have hl : lv_has ls 5 [(0, .ref h0), (1, .int (nI n)), (2, .int 0), (3, .ref o0)] := hl
  refine bb_gen hP hD (fun H locs hP hD hS => ?_)
  refine lv_aload_n hx hb dL_about_0 rfl (lv_at hl 3 rfl) ?_
  refine lv_iconst (v := nI 0) hx hb dL_about_1 (by decide) ?_
  refine lv_aload_n hx hb dL_about_2 rfl (lv_at hl 0 rfl) ?_
  refine lv_iload_n hx hb dL_about_3 rfl (lv_at hl 1 rfl) ?_
  refine lv_iload_n hx hb dL_about_4 rfl (lv_at hl 2 rfl) ?_
  have hPc : va_P (dC, dI) vwCl [(h0, .inr (0, [.ref a0, .ref a1, .ref a2, .ref a3, .int k])), (a0, .inl (cA, 10, .inl w)), (a1, .inl (cA, 10, .inl pr)), (a2, .inl (cA, 31, .inl vo)), (a3, .inl (cA, 31, .inl vf))] H := bb_Pmid (pre := []) (wc := [(h0, .inr (0, [.ref a0, .ref a1, .ref a2, .ref a3, .int k])), (a0, .inl (cA, 10, .inl w)), (a1, .inl (cA, 10, .inl pr)), (a2, .inl (cA, 31, .inl vo)), (a3, .inl (cA, 31, .inl vf))]) (post := [(o0, .inl (cL, 1, .inr (.inl fo)))]) hP
  refine bb_cV (As := [.int (nI n), .int 0]) (rest := [.int (nI 0), .ref o0]) (r := w n) 0 ⟨hx, hb, hml, hown, hts⟩ (k_about_0 l dC dI cA h0 a0 a1 a2 a3 w pr vo vf k n hn0) (cwV 2 hts gL_about_X0_about rfl rfl rfl (by decide +kernel) ⟨Nat.le_of_ble_eq_true rfl, Nat.le_of_ble_eq_true rfl⟩) hPc hK1 rfl rfl rfl hl.1 rfl (Nat.le_of_ble_eq_true rfl) dL_about_5 (Nat.zero_le _) (Nat.zero_le _) ?_
  refine lv_i2l (v := (w n).toInt64) hx hb dL_about_8 rfl ?_
  refine va_last hx hb hK hP hD hS 5 1 rfl rfl (vp_in_nI (by decide) (by decide)) dL_about_9 (fun H locs hP hD hS => ?_)
  have hP : va_P (dC, dI) vwCl [(h0, .inr (0, [.ref a0, .ref a1, .ref a2, .ref a3, .int k])), (a0, .inl (cA, 10, .inl w)), (a1, .inl (cA, 10, .inl pr)), (a2, .inl (cA, 31, .inl vo)), (a3, .inl (cA, 31, .inl vf)), (o0, .inl (cL, 1, .inr (.inl (vp_updL fo (nI 0).toNatClampNeg ((w n).toInt64)))))] H := hP
  have hD : va_D A [(h0, .inr (0, [.ref a0, .ref a1, .ref a2, .ref a3, .int k])), (a0, .inl (cA, 10, .inl w)), (a1, .inl (cA, 10, .inl pr)), (a2, .inl (cA, 31, .inl vo)), (a3, .inl (cA, 31, .inl vf)), (o0, .inl (cL, 1, .inr (.inl (vp_updL fo (nI 0).toNatClampNeg ((w n).toInt64)))))] := hD
  refine lv_goto (tgt := 21) hx hb dL_about_10 rfl ?_
  refine lv_iconst (v := 0) hx hb dL_about_21 (by decide) ?_
  have hP := bb_P_extL (g := (fun _ => (w n).toInt64)) hP hD (q0 := 5) rfl (fun j9 h9 => bb_upL h9)
  have hP : va_P (dC, dI) vwCl [(h0, .inr (0, [.ref a0, .ref a1, .ref a2, .ref a3, .int k])), (a0, .inl (cA, 10, .inl w)), (a1, .inl (cA, 10, .inl pr)), (a2, .inl (cA, 31, .inl vo)), (a3, .inl (cA, 31, .inl vf)), (o0, .inl (cL, 1, .inr (.inl (fun _ => (w n).toInt64))))] H := hP
  exact W.iret (v := 0) hx hb hr (fun t ht _ => ⟨⟨0, (), rfl, rfl, by show va_P _ _ _ t.heap; rw [ht]; exact hP⟩, hS.F ht⟩) hS.2.2 dL_about_22

set_option maxHeartbeats 4000000 in
set_option maxRecDepth 100000 in
theorem w_about_1 (l : Launch) (dC : Nat → ClassId) (dI : Nat → Nat → Nat) (cA cL : ClassId) (h0 a0 a1 a2 a3 o0 : Nat) (w pr vo vf : Nat → Int32) (k : Int32) (fo : Nat → Int64) (sz : Nat) (n : Nat) (hn0 : n < 10) : Met l yL_about wsL_about ({ frames := 8, cells := 0, slots := 0, locals := 160 }) (va_Pc [.ref h0, .int (nI n), .int 1, .ref o0] (fun U => U.heap.size = sz ∧ va_P (dC, dI) vwCl [(h0, .inr (0, [.ref a0, .ref a1, .ref a2, .ref a3, .int k])), (a0, .inl (cA, 10, .inl w)), (a1, .inl (cA, 10, .inl pr)), (a2, .inl (cA, 31, .inl vo)), (a3, .inl (cA, 31, .inl vf)), (o0, .inl (cL, 1, .inr (.inl fo)))] U.heap ∧ va_K (dC, dI) vwCl [(cA, .int), (cL, .long)] U ∧ va_D (fun _ => True) [(h0, .inr (0, [.ref a0, .ref a1, .ref a2, .ref a3, .int k])), (a0, .inl (cA, 10, .inl w)), (a1, .inl (cA, 10, .inl pr)), (a2, .inl (cA, 31, .inl vo)), (a3, .inl (cA, 31, .inl vf)), (o0, .inl (cL, 1, .inr (.inl fo)))] ∧ True)) (bb_Qm 0 (dC, dI) vwCl [(h0, .inr (0, [.ref a0, .ref a1, .ref a2, .ref a3, .int k])), (a0, .inl (cA, 10, .inl w)), (a1, .inl (cA, 10, .inl pr)), (a2, .inl (cA, 31, .inl vo)), (a3, .inl (cA, 31, .inl vf)), (o0, .inl (cL, 1, .inr (.inl (fun _ => (pr n).toInt64))))] (va_A [(h0, .inr (0, [.ref a0, .ref a1, .ref a2, .ref a3, .int k])), (a0, .inl (cA, 10, .inl w)), (a1, .inl (cA, 10, .inl pr)), (a2, .inl (cA, 31, .inl vo)), (a3, .inl (cA, 31, .inl vf)), (o0, .inl (cL, 1, .inr (.inl fo)))] sz)) 0 0 (va_A [(h0, .inr (0, [.ref a0, .ref a1, .ref a2, .ref a3, .int k])), (a0, .inl (cA, 10, .inl w)), (a1, .inl (cA, 10, .inl pr)), (a2, .inl (cA, 31, .inl vo)), (a3, .inl (cA, 31, .inl vf)), (o0, .inl (cL, 1, .inr (.inl fo)))] sz) := by
  refine va_MetW (cc := cL_about) (maxL := 5) (ret := some .int) (by decide) rfl ?_
  intro p e s m args below meth c s₁ B hml hv
  obtain ⟨rfl, hsz, hP, hK, hD0, -⟩ := hv
  have hx := B.exec
  have hb := B.bytes
  have hr := B.returns
  have hts := atoms_spec (ws := wsL_about) B.pre
  have hown : s.vm.findClass RL = some m.cls := findClass_of_methodNamed B.named
  have hlocks := B.notSynchronized
  subst hsz
  have hK1 := hK.sub [0] (tys' := [(cA, .int)]) rfl
  have hD := hD0.self (sz := s.heap.size)
  generalize hAe : va_A [(h0, .inr (0, [.ref a0, .ref a1, .ref a2, .ref a3, .int k])), (a0, .inl (cA, 10, .inl w)), (a1, .inl (cA, 10, .inl pr)), (a2, .inl (cA, 31, .inl vo)), (a3, .inl (cA, 31, .inl vf)), (o0, .inl (cL, 1, .inr (.inl fo)))] s.heap.size = A at hD ⊢
  have hA : ∀ q : Nat, s.heap.size ≤ q → A q := fun q h => by rw [← hAe]; exact Or.inr h
  have hl := lv_entry ([.ref h0, .int (nI n), .int 1, .ref o0]) (n := 5) (Nat.le_of_ble_eq_true rfl)
  rw [lg_entry_eq]
  generalize (lg_sl ([.ref h0, .int (nI n), .int 1, .ref o0]) ++ List.replicate (5 - (lg_sl ([.ref h0, .int (nI n), .int 1, .ref o0])).length) Slot.unset).toArray = ls at hl ⊢
  have hl : lv_has ls 5 [(0, .ref h0), (1, .int (nI n)), (2, .int 1), (3, .ref o0)] := hl
  refine bb_gen hP hD (fun H locs hP hD hS => ?_)
  refine lv_aload_n hx hb dL_about_0 rfl (lv_at hl 3 rfl) ?_
  refine lv_iconst (v := nI 0) hx hb dL_about_1 (by decide) ?_
  refine lv_aload_n hx hb dL_about_2 rfl (lv_at hl 0 rfl) ?_
  refine lv_iload_n hx hb dL_about_3 rfl (lv_at hl 1 rfl) ?_
  refine lv_iload_n hx hb dL_about_4 rfl (lv_at hl 2 rfl) ?_
  have hPc : va_P (dC, dI) vwCl [(h0, .inr (0, [.ref a0, .ref a1, .ref a2, .ref a3, .int k])), (a0, .inl (cA, 10, .inl w)), (a1, .inl (cA, 10, .inl pr)), (a2, .inl (cA, 31, .inl vo)), (a3, .inl (cA, 31, .inl vf))] H := bb_Pmid (pre := []) (wc := [(h0, .inr (0, [.ref a0, .ref a1, .ref a2, .ref a3, .int k])), (a0, .inl (cA, 10, .inl w)), (a1, .inl (cA, 10, .inl pr)), (a2, .inl (cA, 31, .inl vo)), (a3, .inl (cA, 31, .inl vf))]) (post := [(o0, .inl (cL, 1, .inr (.inl fo)))]) hP
  refine bb_cV (As := [.int (nI n), .int 1]) (rest := [.int (nI 0), .ref o0]) (r := pr n) 0 ⟨hx, hb, hml, hown, hts⟩ (k_about_1 l dC dI cA h0 a0 a1 a2 a3 w pr vo vf k n hn0) (cwV 2 hts gL_about_X0_about rfl rfl rfl (by decide +kernel) ⟨Nat.le_of_ble_eq_true rfl, Nat.le_of_ble_eq_true rfl⟩) hPc hK1 rfl rfl rfl hl.1 rfl (Nat.le_of_ble_eq_true rfl) dL_about_5 (Nat.zero_le _) (Nat.zero_le _) ?_
  refine lv_i2l (v := (pr n).toInt64) hx hb dL_about_8 rfl ?_
  refine va_last hx hb hK hP hD hS 5 1 rfl rfl (vp_in_nI (by decide) (by decide)) dL_about_9 (fun H locs hP hD hS => ?_)
  have hP : va_P (dC, dI) vwCl [(h0, .inr (0, [.ref a0, .ref a1, .ref a2, .ref a3, .int k])), (a0, .inl (cA, 10, .inl w)), (a1, .inl (cA, 10, .inl pr)), (a2, .inl (cA, 31, .inl vo)), (a3, .inl (cA, 31, .inl vf)), (o0, .inl (cL, 1, .inr (.inl (vp_updL fo (nI 0).toNatClampNeg ((pr n).toInt64)))))] H := hP
  have hD : va_D A [(h0, .inr (0, [.ref a0, .ref a1, .ref a2, .ref a3, .int k])), (a0, .inl (cA, 10, .inl w)), (a1, .inl (cA, 10, .inl pr)), (a2, .inl (cA, 31, .inl vo)), (a3, .inl (cA, 31, .inl vf)), (o0, .inl (cL, 1, .inr (.inl (vp_updL fo (nI 0).toNatClampNeg ((pr n).toInt64)))))] := hD
  refine lv_goto (tgt := 21) hx hb dL_about_10 rfl ?_
  refine lv_iconst (v := 0) hx hb dL_about_21 (by decide) ?_
  have hP := bb_P_extL (g := (fun _ => (pr n).toInt64)) hP hD (q0 := 5) rfl (fun j9 h9 => bb_upL h9)
  have hP : va_P (dC, dI) vwCl [(h0, .inr (0, [.ref a0, .ref a1, .ref a2, .ref a3, .int k])), (a0, .inl (cA, 10, .inl w)), (a1, .inl (cA, 10, .inl pr)), (a2, .inl (cA, 31, .inl vo)), (a3, .inl (cA, 31, .inl vf)), (o0, .inl (cL, 1, .inr (.inl (fun _ => (pr n).toInt64))))] H := hP
  exact W.iret (v := 0) hx hb hr (fun t ht _ => ⟨⟨0, (), rfl, rfl, by show va_P _ _ _ t.heap; rw [ht]; exact hP⟩, hS.F ht⟩) hS.2.2 dL_about_22

set_option maxHeartbeats 4000000 in
set_option maxRecDepth 100000 in
theorem w_about_2 (l : Launch) (dC : Nat → ClassId) (dI : Nat → Nat → Nat) (cA cL : ClassId) (h0 a0 a1 a2 a3 o0 : Nat) (w pr vo vf : Nat → Int32) (k : Int32) (fo : Nat → Int64) (sz : Nat) (n : Nat) (hn0 : n < 10) : Met l yL_about wsL_about ({ frames := 8, cells := 0, slots := 0, locals := 160 }) (va_Pc [.ref h0, .int (nI n), .int 2, .ref o0] (fun U => U.heap.size = sz ∧ va_P (dC, dI) vwCl [(h0, .inr (0, [.ref a0, .ref a1, .ref a2, .ref a3, .int k])), (a0, .inl (cA, 10, .inl w)), (a1, .inl (cA, 10, .inl pr)), (a2, .inl (cA, 31, .inl vo)), (a3, .inl (cA, 31, .inl vf)), (o0, .inl (cL, 1, .inr (.inl fo)))] U.heap ∧ va_K (dC, dI) vwCl [(cA, .int), (cL, .long)] U ∧ va_D (fun _ => True) [(h0, .inr (0, [.ref a0, .ref a1, .ref a2, .ref a3, .int k])), (a0, .inl (cA, 10, .inl w)), (a1, .inl (cA, 10, .inl pr)), (a2, .inl (cA, 31, .inl vo)), (a3, .inl (cA, 31, .inl vf)), (o0, .inl (cL, 1, .inr (.inl fo)))] ∧ True)) (bb_Qm 0 (dC, dI) vwCl [(h0, .inr (0, [.ref a0, .ref a1, .ref a2, .ref a3, .int k])), (a0, .inl (cA, 10, .inl w)), (a1, .inl (cA, 10, .inl pr)), (a2, .inl (cA, 31, .inl vo)), (a3, .inl (cA, 31, .inl vf)), (o0, .inl (cL, 1, .inr (.inl (fun _ => (nI (bb_cn (fun b9 => bb_hb (vo b9) n) 31)).toInt64))))] (va_A [(h0, .inr (0, [.ref a0, .ref a1, .ref a2, .ref a3, .int k])), (a0, .inl (cA, 10, .inl w)), (a1, .inl (cA, 10, .inl pr)), (a2, .inl (cA, 31, .inl vo)), (a3, .inl (cA, 31, .inl vf)), (o0, .inl (cL, 1, .inr (.inl fo)))] sz)) 0 0 (va_A [(h0, .inr (0, [.ref a0, .ref a1, .ref a2, .ref a3, .int k])), (a0, .inl (cA, 10, .inl w)), (a1, .inl (cA, 10, .inl pr)), (a2, .inl (cA, 31, .inl vo)), (a3, .inl (cA, 31, .inl vf)), (o0, .inl (cL, 1, .inr (.inl fo)))] sz) := by
  refine va_MetW (cc := cL_about) (maxL := 5) (ret := some .int) (by decide) rfl ?_
  intro p e s m args below meth c s₁ B hml hv
  obtain ⟨rfl, hsz, hP, hK, hD0, -⟩ := hv
  have hx := B.exec
  have hb := B.bytes
  have hr := B.returns
  have hts := atoms_spec (ws := wsL_about) B.pre
  have hown : s.vm.findClass RL = some m.cls := findClass_of_methodNamed B.named
  have hlocks := B.notSynchronized
  subst hsz
  have hK1 := hK.sub [0] (tys' := [(cA, .int)]) rfl
  have hD := hD0.self (sz := s.heap.size)
  generalize hAe : va_A [(h0, .inr (0, [.ref a0, .ref a1, .ref a2, .ref a3, .int k])), (a0, .inl (cA, 10, .inl w)), (a1, .inl (cA, 10, .inl pr)), (a2, .inl (cA, 31, .inl vo)), (a3, .inl (cA, 31, .inl vf)), (o0, .inl (cL, 1, .inr (.inl fo)))] s.heap.size = A at hD ⊢
  have hA : ∀ q : Nat, s.heap.size ≤ q → A q := fun q h => by rw [← hAe]; exact Or.inr h
  have hl := lv_entry ([.ref h0, .int (nI n), .int 2, .ref o0]) (n := 5) (Nat.le_of_ble_eq_true rfl)
  rw [lg_entry_eq]
  generalize (lg_sl ([.ref h0, .int (nI n), .int 2, .ref o0]) ++ List.replicate (5 - (lg_sl ([.ref h0, .int (nI n), .int 2, .ref o0])).length) Slot.unset).toArray = ls at hl ⊢
  have hl : lv_has ls 5 [(0, .ref h0), (1, .int (nI n)), (2, .int 2), (3, .ref o0)] := hl
  refine bb_gen hP hD (fun H locs hP hD hS => ?_)
  refine lv_aload_n hx hb dL_about_0 rfl (lv_at hl 3 rfl) ?_
  refine lv_iconst (v := nI 0) hx hb dL_about_1 (by decide) ?_
  refine lv_aload_n hx hb dL_about_2 rfl (lv_at hl 0 rfl) ?_
  refine lv_iload_n hx hb dL_about_3 rfl (lv_at hl 1 rfl) ?_
  refine lv_iload_n hx hb dL_about_4 rfl (lv_at hl 2 rfl) ?_
  have hPc : va_P (dC, dI) vwCl [(h0, .inr (0, [.ref a0, .ref a1, .ref a2, .ref a3, .int k])), (a0, .inl (cA, 10, .inl w)), (a1, .inl (cA, 10, .inl pr)), (a2, .inl (cA, 31, .inl vo)), (a3, .inl (cA, 31, .inl vf))] H := bb_Pmid (pre := []) (wc := [(h0, .inr (0, [.ref a0, .ref a1, .ref a2, .ref a3, .int k])), (a0, .inl (cA, 10, .inl w)), (a1, .inl (cA, 10, .inl pr)), (a2, .inl (cA, 31, .inl vo)), (a3, .inl (cA, 31, .inl vf))]) (post := [(o0, .inl (cL, 1, .inr (.inl fo)))]) hP
  refine bb_cV (As := [.int (nI n), .int 2]) (rest := [.int (nI 0), .ref o0]) (r := nI (bb_cn (fun b9 => bb_hb (vo b9) n) 31)) 0 ⟨hx, hb, hml, hown, hts⟩ (k_about_2 l dC dI cA h0 a0 a1 a2 a3 w pr vo vf k n hn0) (cwV 2 hts gL_about_X0_about rfl rfl rfl (by decide +kernel) ⟨Nat.le_of_ble_eq_true rfl, Nat.le_of_ble_eq_true rfl⟩) hPc hK1 rfl rfl rfl hl.1 rfl (Nat.le_of_ble_eq_true rfl) dL_about_5 (Nat.zero_le _) (Nat.zero_le _) ?_
  refine lv_i2l (v := (nI (bb_cn (fun b9 => bb_hb (vo b9) n) 31)).toInt64) hx hb dL_about_8 rfl ?_
  refine va_last hx hb hK hP hD hS 5 1 rfl rfl (vp_in_nI (by decide) (by decide)) dL_about_9 (fun H locs hP hD hS => ?_)
  have hP : va_P (dC, dI) vwCl [(h0, .inr (0, [.ref a0, .ref a1, .ref a2, .ref a3, .int k])), (a0, .inl (cA, 10, .inl w)), (a1, .inl (cA, 10, .inl pr)), (a2, .inl (cA, 31, .inl vo)), (a3, .inl (cA, 31, .inl vf)), (o0, .inl (cL, 1, .inr (.inl (vp_updL fo (nI 0).toNatClampNeg ((nI (bb_cn (fun b9 => bb_hb (vo b9) n) 31)).toInt64)))))] H := hP
  have hD : va_D A [(h0, .inr (0, [.ref a0, .ref a1, .ref a2, .ref a3, .int k])), (a0, .inl (cA, 10, .inl w)), (a1, .inl (cA, 10, .inl pr)), (a2, .inl (cA, 31, .inl vo)), (a3, .inl (cA, 31, .inl vf)), (o0, .inl (cL, 1, .inr (.inl (vp_updL fo (nI 0).toNatClampNeg ((nI (bb_cn (fun b9 => bb_hb (vo b9) n) 31)).toInt64)))))] := hD
  refine lv_goto (tgt := 21) hx hb dL_about_10 rfl ?_
  refine lv_iconst (v := 0) hx hb dL_about_21 (by decide) ?_
  have hP := bb_P_extL (g := (fun _ => (nI (bb_cn (fun b9 => bb_hb (vo b9) n) 31)).toInt64)) hP hD (q0 := 5) rfl (fun j9 h9 => bb_upL h9)
  have hP : va_P (dC, dI) vwCl [(h0, .inr (0, [.ref a0, .ref a1, .ref a2, .ref a3, .int k])), (a0, .inl (cA, 10, .inl w)), (a1, .inl (cA, 10, .inl pr)), (a2, .inl (cA, 31, .inl vo)), (a3, .inl (cA, 31, .inl vf)), (o0, .inl (cL, 1, .inr (.inl (fun _ => (nI (bb_cn (fun b9 => bb_hb (vo b9) n) 31)).toInt64))))] H := hP
  exact W.iret (v := 0) hx hb hr (fun t ht _ => ⟨⟨0, (), rfl, rfl, by show va_P _ _ _ t.heap; rw [ht]; exact hP⟩, hS.F ht⟩) hS.2.2 dL_about_22

set_option maxHeartbeats 4000000 in
set_option maxRecDepth 100000 in
theorem w_about_3 (l : Launch) (dC : Nat → ClassId) (dI : Nat → Nat → Nat) (cA cL : ClassId) (h0 a0 a1 a2 a3 o0 : Nat) (w pr vo vf : Nat → Int32) (k : Int32) (fo : Nat → Int64) (sz : Nat) (n : Nat) (hn0 : n < 10) : Met l yL_about wsL_about ({ frames := 8, cells := 0, slots := 0, locals := 160 }) (va_Pc [.ref h0, .int (nI n), .int 3, .ref o0] (fun U => U.heap.size = sz ∧ va_P (dC, dI) vwCl [(h0, .inr (0, [.ref a0, .ref a1, .ref a2, .ref a3, .int k])), (a0, .inl (cA, 10, .inl w)), (a1, .inl (cA, 10, .inl pr)), (a2, .inl (cA, 31, .inl vo)), (a3, .inl (cA, 31, .inl vf)), (o0, .inl (cL, 1, .inr (.inl fo)))] U.heap ∧ va_K (dC, dI) vwCl [(cA, .int), (cL, .long)] U ∧ va_D (fun _ => True) [(h0, .inr (0, [.ref a0, .ref a1, .ref a2, .ref a3, .int k])), (a0, .inl (cA, 10, .inl w)), (a1, .inl (cA, 10, .inl pr)), (a2, .inl (cA, 31, .inl vo)), (a3, .inl (cA, 31, .inl vf)), (o0, .inl (cL, 1, .inr (.inl fo)))] ∧ True)) (bb_Qm 0 (dC, dI) vwCl [(h0, .inr (0, [.ref a0, .ref a1, .ref a2, .ref a3, .int k])), (a0, .inl (cA, 10, .inl w)), (a1, .inl (cA, 10, .inl pr)), (a2, .inl (cA, 31, .inl vo)), (a3, .inl (cA, 31, .inl vf)), (o0, .inl (cL, 1, .inr (.inl (fun _ => (bb_la (fun c9 => decide (vo c9 &&& (1 <<< (nI n &&& 31)) ≠ 0)) 31).toInt64))))] (va_A [(h0, .inr (0, [.ref a0, .ref a1, .ref a2, .ref a3, .int k])), (a0, .inl (cA, 10, .inl w)), (a1, .inl (cA, 10, .inl pr)), (a2, .inl (cA, 31, .inl vo)), (a3, .inl (cA, 31, .inl vf)), (o0, .inl (cL, 1, .inr (.inl fo)))] sz)) 0 0 (va_A [(h0, .inr (0, [.ref a0, .ref a1, .ref a2, .ref a3, .int k])), (a0, .inl (cA, 10, .inl w)), (a1, .inl (cA, 10, .inl pr)), (a2, .inl (cA, 31, .inl vo)), (a3, .inl (cA, 31, .inl vf)), (o0, .inl (cL, 1, .inr (.inl fo)))] sz) := by
  refine va_MetW (cc := cL_about) (maxL := 5) (ret := some .int) (by decide) rfl ?_
  intro p e s m args below meth c s₁ B hml hv
  obtain ⟨rfl, hsz, hP, hK, hD0, -⟩ := hv
  have hx := B.exec
  have hb := B.bytes
  have hr := B.returns
  have hts := atoms_spec (ws := wsL_about) B.pre
  have hown : s.vm.findClass RL = some m.cls := findClass_of_methodNamed B.named
  have hlocks := B.notSynchronized
  subst hsz
  have hK1 := hK.sub [0] (tys' := [(cA, .int)]) rfl
  have hD := hD0.self (sz := s.heap.size)
  generalize hAe : va_A [(h0, .inr (0, [.ref a0, .ref a1, .ref a2, .ref a3, .int k])), (a0, .inl (cA, 10, .inl w)), (a1, .inl (cA, 10, .inl pr)), (a2, .inl (cA, 31, .inl vo)), (a3, .inl (cA, 31, .inl vf)), (o0, .inl (cL, 1, .inr (.inl fo)))] s.heap.size = A at hD ⊢
  have hA : ∀ q : Nat, s.heap.size ≤ q → A q := fun q h => by rw [← hAe]; exact Or.inr h
  have hl := lv_entry ([.ref h0, .int (nI n), .int 3, .ref o0]) (n := 5) (Nat.le_of_ble_eq_true rfl)
  rw [lg_entry_eq]
  generalize (lg_sl ([.ref h0, .int (nI n), .int 3, .ref o0]) ++ List.replicate (5 - (lg_sl ([.ref h0, .int (nI n), .int 3, .ref o0])).length) Slot.unset).toArray = ls at hl ⊢
  have hl : lv_has ls 5 [(0, .ref h0), (1, .int (nI n)), (2, .int 3), (3, .ref o0)] := hl
  refine bb_gen hP hD (fun H locs hP hD hS => ?_)
  refine lv_aload_n hx hb dL_about_0 rfl (lv_at hl 3 rfl) ?_
  refine lv_iconst (v := nI 0) hx hb dL_about_1 (by decide) ?_
  refine lv_aload_n hx hb dL_about_2 rfl (lv_at hl 0 rfl) ?_
  refine lv_iload_n hx hb dL_about_3 rfl (lv_at hl 1 rfl) ?_
  refine lv_iload_n hx hb dL_about_4 rfl (lv_at hl 2 rfl) ?_
  have hPc : va_P (dC, dI) vwCl [(h0, .inr (0, [.ref a0, .ref a1, .ref a2, .ref a3, .int k])), (a0, .inl (cA, 10, .inl w)), (a1, .inl (cA, 10, .inl pr)), (a2, .inl (cA, 31, .inl vo)), (a3, .inl (cA, 31, .inl vf))] H := bb_Pmid (pre := []) (wc := [(h0, .inr (0, [.ref a0, .ref a1, .ref a2, .ref a3, .int k])), (a0, .inl (cA, 10, .inl w)), (a1, .inl (cA, 10, .inl pr)), (a2, .inl (cA, 31, .inl vo)), (a3, .inl (cA, 31, .inl vf))]) (post := [(o0, .inl (cL, 1, .inr (.inl fo)))]) hP
  refine bb_cV (As := [.int (nI n), .int 3]) (rest := [.int (nI 0), .ref o0]) (r := bb_la (fun c9 => decide (vo c9 &&& (1 <<< (nI n &&& 31)) ≠ 0)) 31) 0 ⟨hx, hb, hml, hown, hts⟩ (k_about_3 l dC dI cA h0 a0 a1 a2 a3 w pr vo vf k n hn0) (cwV 2 hts gL_about_X0_about rfl rfl rfl (by decide +kernel) ⟨Nat.le_of_ble_eq_true rfl, Nat.le_of_ble_eq_true rfl⟩) hPc hK1 rfl rfl rfl hl.1 rfl (Nat.le_of_ble_eq_true rfl) dL_about_5 (Nat.zero_le _) (Nat.zero_le _) ?_
  refine lv_i2l (v := (bb_la (fun c9 => decide (vo c9 &&& (1 <<< (nI n &&& 31)) ≠ 0)) 31).toInt64) hx hb dL_about_8 rfl ?_
  refine va_last hx hb hK hP hD hS 5 1 rfl rfl (vp_in_nI (by decide) (by decide)) dL_about_9 (fun H locs hP hD hS => ?_)
  have hP : va_P (dC, dI) vwCl [(h0, .inr (0, [.ref a0, .ref a1, .ref a2, .ref a3, .int k])), (a0, .inl (cA, 10, .inl w)), (a1, .inl (cA, 10, .inl pr)), (a2, .inl (cA, 31, .inl vo)), (a3, .inl (cA, 31, .inl vf)), (o0, .inl (cL, 1, .inr (.inl (vp_updL fo (nI 0).toNatClampNeg ((bb_la (fun c9 => decide (vo c9 &&& (1 <<< (nI n &&& 31)) ≠ 0)) 31).toInt64)))))] H := hP
  have hD : va_D A [(h0, .inr (0, [.ref a0, .ref a1, .ref a2, .ref a3, .int k])), (a0, .inl (cA, 10, .inl w)), (a1, .inl (cA, 10, .inl pr)), (a2, .inl (cA, 31, .inl vo)), (a3, .inl (cA, 31, .inl vf)), (o0, .inl (cL, 1, .inr (.inl (vp_updL fo (nI 0).toNatClampNeg ((bb_la (fun c9 => decide (vo c9 &&& (1 <<< (nI n &&& 31)) ≠ 0)) 31).toInt64)))))] := hD
  refine lv_goto (tgt := 21) hx hb dL_about_10 rfl ?_
  refine lv_iconst (v := 0) hx hb dL_about_21 (by decide) ?_
  have hP := bb_P_extL (g := (fun _ => (bb_la (fun c9 => decide (vo c9 &&& (1 <<< (nI n &&& 31)) ≠ 0)) 31).toInt64)) hP hD (q0 := 5) rfl (fun j9 h9 => bb_upL h9)
  have hP : va_P (dC, dI) vwCl [(h0, .inr (0, [.ref a0, .ref a1, .ref a2, .ref a3, .int k])), (a0, .inl (cA, 10, .inl w)), (a1, .inl (cA, 10, .inl pr)), (a2, .inl (cA, 31, .inl vo)), (a3, .inl (cA, 31, .inl vf)), (o0, .inl (cL, 1, .inr (.inl (fun _ => (bb_la (fun c9 => decide (vo c9 &&& (1 <<< (nI n &&& 31)) ≠ 0)) 31).toInt64))))] H := hP
  exact W.iret (v := 0) hx hb hr (fun t ht _ => ⟨⟨0, (), rfl, rfl, by show va_P _ _ _ t.heap; rw [ht]; exact hP⟩, hS.F ht⟩) hS.2.2 dL_about_22

set_option maxHeartbeats 4000000 in
set_option maxRecDepth 100000 in
theorem w_about1 (l : Launch) (htr : l.stackTraces = false) (Bd : Nat) (dC : Nat → ClassId) (dI : Nat → Nat → Nat) (cA cL : ClassId) (h0 a0 a1 a2 a3 o0 : Nat) (w pr vo vf : Nat → Int32) (k : Int32) (fo : Nat → Int64) (sz : Nat) (x0 x1 : Int32) (hbad : bb_out x0 (nI 10) = true) : Met l yL_about wsL_about ({ frames := 8, cells := 1, slots := 6, locals := 160 }) (va_Pc [.ref h0, .int x0, .int x1, .ref o0] (fun U => U.heap.size = sz ∧ va_P (dC, dI) vwCl [(h0, .inr (0, [.ref a0, .ref a1, .ref a2, .ref a3, .int k])), (a0, .inl (cA, 10, .inl w)), (a1, .inl (cA, 10, .inl pr)), (a2, .inl (cA, 31, .inl vo)), (a3, .inl (cA, 31, .inl vf)), (o0, .inl (cL, 1, .inr (.inl fo)))] U.heap ∧ va_K (dC, dI) vwCl [(cA, .int), (cL, .long)] U ∧ va_D (fun _ => True) [(h0, .inr (0, [.ref a0, .ref a1, .ref a2, .ref a3, .int k])), (a0, .inl (cA, 10, .inl w)), (a1, .inl (cA, 10, .inl pr)), (a2, .inl (cA, 31, .inl vo)), (a3, .inl (cA, 31, .inl vf)), (o0, .inl (cL, 1, .inr (.inl fo)))] ∧ bb_TS Bd U)) (bb_Qm 1 (dC, dI) vwCl [(h0, .inr (0, [.ref a0, .ref a1, .ref a2, .ref a3, .int k])), (a0, .inl (cA, 10, .inl w)), (a1, .inl (cA, 10, .inl pr)), (a2, .inl (cA, 31, .inl vo)), (a3, .inl (cA, 31, .inl vf)), (o0, .inl (cL, 1, .inr (.inl fo)))] (va_A [(h0, .inr (0, [.ref a0, .ref a1, .ref a2, .ref a3, .int k])), (a0, .inl (cA, 10, .inl w)), (a1, .inl (cA, 10, .inl pr)), (a2, .inl (cA, 31, .inl vo)), (a3, .inl (cA, 31, .inl vf)), (o0, .inl (cL, 1, .inr (.inl fo)))] sz)) 1 6 (va_A [(h0, .inr (0, [.ref a0, .ref a1, .ref a2, .ref a3, .int k])), (a0, .inl (cA, 10, .inl w)), (a1, .inl (cA, 10, .inl pr)), (a2, .inl (cA, 31, .inl vo)), (a3, .inl (cA, 31, .inl vf)), (o0, .inl (cL, 1, .inr (.inl fo)))] sz) := by
  refine va_MetW (cc := cL_about) (maxL := 5) (ret := some .int) (by decide) rfl ?_
  intro p e s m args below meth c s₁ B hml hv
  obtain ⟨rfl, hsz, hP, hK, hD0, hZ⟩ := hv
  have hx := B.exec
  have hb := B.bytes
  have hr := B.returns
  have hts := atoms_spec (ws := wsL_about) B.pre
  have hown : s.vm.findClass RL = some m.cls := findClass_of_methodNamed B.named
  have hlocks := B.notSynchronized
  subst hsz
  have hK1 := hK.sub [0] (tys' := [(cA, .int)]) rfl
  have htab := bb_table (hts _ List.mem_cons_self) B.named B.method (Stand.of_body B).code
  have hD := hD0.self (sz := s.heap.size)
  generalize hAe : va_A [(h0, .inr (0, [.ref a0, .ref a1, .ref a2, .ref a3, .int k])), (a0, .inl (cA, 10, .inl w)), (a1, .inl (cA, 10, .inl pr)), (a2, .inl (cA, 31, .inl vo)), (a3, .inl (cA, 31, .inl vf)), (o0, .inl (cL, 1, .inr (.inl fo)))] s.heap.size = A at hD ⊢
  have hA : ∀ q : Nat, s.heap.size ≤ q → A q := fun q h => by rw [← hAe]; exact Or.inr h
  have hl := lv_entry ([.ref h0, .int x0, .int x1, .ref o0]) (n := 5) (Nat.le_of_ble_eq_true rfl)
  rw [lg_entry_eq]
  generalize (lg_sl ([.ref h0, .int x0, .int x1, .ref o0]) ++ List.replicate (5 - (lg_sl ([.ref h0, .int x0, .int x1, .ref o0])).length) Slot.unset).toArray = ls at hl ⊢
  have hl : lv_has ls 5 [(0, .ref h0), (1, .int x0), (2, .int x1), (3, .ref o0)] := hl
  refine lv_aload_n hx hb dL_about_0 rfl (lv_at hl 3 rfl) ?_
  refine lv_iconst (v := nI 0) hx hb dL_about_1 (by decide) ?_
  refine lv_aload_n hx hb dL_about_2 rfl (lv_at hl 0 rfl) ?_
  refine lv_iload_n hx hb dL_about_3 rfl (lv_at hl 1 rfl) ?_
  refine lv_iload_n hx hb dL_about_4 rfl (lv_at hl 2 rfl) ?_
  have hPc : va_P (dC, dI) vwCl [(h0, .inr (0, [.ref a0, .ref a1, .ref a2, .ref a3, .int k])), (a0, .inl (cA, 10, .inl w)), (a1, .inl (cA, 10, .inl pr)), (a2, .inl (cA, 31, .inl vo)), (a3, .inl (cA, 31, .inl vf))] s.heap := bb_Pmid (pre := []) (wc := [(h0, .inr (0, [.ref a0, .ref a1, .ref a2, .ref a3, .int k])), (a0, .inl (cA, 10, .inl w)), (a1, .inl (cA, 10, .inl pr)), (a2, .inl (cA, 31, .inl vo)), (a3, .inl (cA, 31, .inl vf))]) (post := [(o0, .inl (cL, 1, .inr (.inl fo)))]) hP
  refine bb_cVt (As := [.int x0, .int x1]) (rest := [.int (nI 0), .ref o0]) ⟨hx, hb, hml, hown, hts⟩ (t_about1 l htr Bd dC dI cA h0 a0 a1 a2 a3 w pr vo vf k x0 x1 hbad) (cwV 2 hts gL_about_X0_about rfl rfl rfl (by decide +kernel) ⟨Nat.le_of_ble_eq_true rfl, Nat.le_of_ble_eq_true rfl⟩) ⟨bb_Ptb, va_recv (D := (dC, dI)) (cl := vwCl) (ci := 0) (q0 := 0) hK1 hPc rfl rfl, fun U9 hU9 hW9 => ⟨rfl, ⟨by rw [hU9]; exact hPc, va_K.moved hW9.alike hK1⟩, hZ.mv hW9 (fun _ _ => by rw [hU9])⟩⟩ rfl hl.1 rfl (Nat.le_of_ble_eq_true rfl) dL_about_5 (Nat.le_of_ble_eq_true rfl) (Nat.le_of_ble_eq_true rfl) (fun q9 H9 ce9 z9 o9 g1 g2 g3 => ?_)
  have hP9 := hP.kept (fun k9 x9 h9 => o9 x9.1 (hP k9 x9 h9).lt)
  have hS9 : va_S A s.heap H9 [] := ⟨z9, fun q h _ => o9 q h, fun _ h => by cases h⟩
  refine bb_hand1 hown htab (by decide) (by decide) (name := NSE) (hts _ (List.mem_cons_of_mem _ bb_u107)) (hZ.c1.use rfl) g1 g2 g3 ?_
  refine lv_astore (lv' := [(4, .ref q9), (0, .ref h0), (1, .int x0), (2, .int x1), (3, .ref o0)]) hx hb dL_about_13 hl (by decide) rfl (fun ls hl => ?_)
  refine lv_iconst (v := 1) hx hb dL_about_15 (by decide) ?_
  exact W.iret (v := 1) hx hb hr (fun t ht _ => ⟨⟨1, (), rfl, rfl, by show va_P _ _ _ t.heap; rw [ht]; exact hP9⟩, hS9.F ht⟩) hS9.2.2 dL_about_16

set_option maxHeartbeats 4000000 in
set_option maxRecDepth 100000 in
theorem w_about2 (l : Launch) (htr : l.stackTraces = false) (Bd : Nat) (dC : Nat → ClassId) (dI : Nat → Nat → Nat) (cA cL : ClassId) (h0 a0 a1 a2 a3 o0 : Nat) (w pr vo vf : Nat → Int32) (k : Int32) (fo : Nat → Int64) (sz : Nat) (n : Nat) (hn0 : n < 10) (x1 : Int32) (hbad : x1.toInt < 0 ∨ 3 < x1.toInt) : Met l yL_about wsL_about ({ frames := 8, cells := 1, slots := 6, locals := 160 }) (va_Pc [.ref h0, .int (nI n), .int x1, .ref o0] (fun U => U.heap.size = sz ∧ va_P (dC, dI) vwCl [(h0, .inr (0, [.ref a0, .ref a1, .ref a2, .ref a3, .int k])), (a0, .inl (cA, 10, .inl w)), (a1, .inl (cA, 10, .inl pr)), (a2, .inl (cA, 31, .inl vo)), (a3, .inl (cA, 31, .inl vf)), (o0, .inl (cL, 1, .inr (.inl fo)))] U.heap ∧ va_K (dC, dI) vwCl [(cA, .int), (cL, .long)] U ∧ va_D (fun _ => True) [(h0, .inr (0, [.ref a0, .ref a1, .ref a2, .ref a3, .int k])), (a0, .inl (cA, 10, .inl w)), (a1, .inl (cA, 10, .inl pr)), (a2, .inl (cA, 31, .inl vo)), (a3, .inl (cA, 31, .inl vf)), (o0, .inl (cL, 1, .inr (.inl fo)))] ∧ bb_TS Bd U)) (bb_Qm 2 (dC, dI) vwCl [(h0, .inr (0, [.ref a0, .ref a1, .ref a2, .ref a3, .int k])), (a0, .inl (cA, 10, .inl w)), (a1, .inl (cA, 10, .inl pr)), (a2, .inl (cA, 31, .inl vo)), (a3, .inl (cA, 31, .inl vf)), (o0, .inl (cL, 1, .inr (.inl fo)))] (va_A [(h0, .inr (0, [.ref a0, .ref a1, .ref a2, .ref a3, .int k])), (a0, .inl (cA, 10, .inl w)), (a1, .inl (cA, 10, .inl pr)), (a2, .inl (cA, 31, .inl vo)), (a3, .inl (cA, 31, .inl vf)), (o0, .inl (cL, 1, .inr (.inl fo)))] sz)) 1 6 (va_A [(h0, .inr (0, [.ref a0, .ref a1, .ref a2, .ref a3, .int k])), (a0, .inl (cA, 10, .inl w)), (a1, .inl (cA, 10, .inl pr)), (a2, .inl (cA, 31, .inl vo)), (a3, .inl (cA, 31, .inl vf)), (o0, .inl (cL, 1, .inr (.inl fo)))] sz) := by
  refine va_MetW (cc := cL_about) (maxL := 5) (ret := some .int) (by decide) rfl ?_
  intro p e s m args below meth c s₁ B hml hv
  obtain ⟨rfl, hsz, hP, hK, hD0, hZ⟩ := hv
  have hx := B.exec
  have hb := B.bytes
  have hr := B.returns
  have hts := atoms_spec (ws := wsL_about) B.pre
  have hown : s.vm.findClass RL = some m.cls := findClass_of_methodNamed B.named
  have hlocks := B.notSynchronized
  subst hsz
  have hK1 := hK.sub [0] (tys' := [(cA, .int)]) rfl
  have htab := bb_table (hts _ List.mem_cons_self) B.named B.method (Stand.of_body B).code
  have hD := hD0.self (sz := s.heap.size)
  generalize hAe : va_A [(h0, .inr (0, [.ref a0, .ref a1, .ref a2, .ref a3, .int k])), (a0, .inl (cA, 10, .inl w)), (a1, .inl (cA, 10, .inl pr)), (a2, .inl (cA, 31, .inl vo)), (a3, .inl (cA, 31, .inl vf)), (o0, .inl (cL, 1, .inr (.inl fo)))] s.heap.size = A at hD ⊢
  have hA : ∀ q : Nat, s.heap.size ≤ q → A q := fun q h => by rw [← hAe]; exact Or.inr h
  have hl := lv_entry ([.ref h0, .int (nI n), .int x1, .ref o0]) (n := 5) (Nat.le_of_ble_eq_true rfl)
  rw [lg_entry_eq]
  generalize (lg_sl ([.ref h0, .int (nI n), .int x1, .ref o0]) ++ List.replicate (5 - (lg_sl ([.ref h0, .int (nI n), .int x1, .ref o0])).length) Slot.unset).toArray = ls at hl ⊢
  have hl : lv_has ls 5 [(0, .ref h0), (1, .int (nI n)), (2, .int x1), (3, .ref o0)] := hl
  refine lv_aload_n hx hb dL_about_0 rfl (lv_at hl 3 rfl) ?_
  refine lv_iconst (v := nI 0) hx hb dL_about_1 (by decide) ?_
  refine lv_aload_n hx hb dL_about_2 rfl (lv_at hl 0 rfl) ?_
  refine lv_iload_n hx hb dL_about_3 rfl (lv_at hl 1 rfl) ?_
  refine lv_iload_n hx hb dL_about_4 rfl (lv_at hl 2 rfl) ?_
  have hPc : va_P (dC, dI) vwCl [(h0, .inr (0, [.ref a0, .ref a1, .ref a2, .ref a3, .int k])), (a0, .inl (cA, 10, .inl w)), (a1, .inl (cA, 10, .inl pr)), (a2, .inl (cA, 31, .inl vo)), (a3, .inl (cA, 31, .inl vf))] s.heap := bb_Pmid (pre := []) (wc := [(h0, .inr (0, [.ref a0, .ref a1, .ref a2, .ref a3, .int k])), (a0, .inl (cA, 10, .inl w)), (a1, .inl (cA, 10, .inl pr)), (a2, .inl (cA, 31, .inl vo)), (a3, .inl (cA, 31, .inl vf))]) (post := [(o0, .inl (cL, 1, .inr (.inl fo)))]) hP
  refine bb_cVt (As := [.int (nI n), .int x1]) (rest := [.int (nI 0), .ref o0]) ⟨hx, hb, hml, hown, hts⟩ (t_about2 l htr Bd dC dI cA h0 a0 a1 a2 a3 w pr vo vf k n hn0 x1 hbad) (cwV 2 hts gL_about_X0_about rfl rfl rfl (by decide +kernel) ⟨Nat.le_of_ble_eq_true rfl, Nat.le_of_ble_eq_true rfl⟩) ⟨bb_Ptb, va_recv (D := (dC, dI)) (cl := vwCl) (ci := 0) (q0 := 0) hK1 hPc rfl rfl, fun U9 hU9 hW9 => ⟨rfl, ⟨by rw [hU9]; exact hPc, va_K.moved hW9.alike hK1⟩, hZ.mv hW9 (fun _ _ => by rw [hU9])⟩⟩ rfl hl.1 rfl (Nat.le_of_ble_eq_true rfl) dL_about_5 (Nat.le_of_ble_eq_true rfl) (Nat.le_of_ble_eq_true rfl) (fun q9 H9 ce9 z9 o9 g1 g2 g3 => ?_)
  have hP9 := hP.kept (fun k9 x9 h9 => o9 x9.1 (hP k9 x9 h9).lt)
  have hS9 : va_S A s.heap H9 [] := ⟨z9, fun q h _ => o9 q h, fun _ h => by cases h⟩
  refine bb_hand2 hown htab (by decide) (by decide) (by decide) (by decide) (name := IAE) (name1 := NSE) (hts _ (List.mem_cons_of_mem _ bb_u107)) hZ.n1 (hts _ (List.mem_cons_of_mem _ bb_u108)) (hZ.c2.use rfl) g1 g2 g3 ?_
  refine lv_astore (lv' := [(4, .ref q9), (0, .ref h0), (1, .int (nI n)), (2, .int x1), (3, .ref o0)]) hx hb dL_about_17 hl (by decide) rfl (fun ls hl => ?_)
  refine lv_iconst (v := 2) hx hb dL_about_19 (by decide) ?_
  exact W.iret (v := 2) hx hb hr (fun t ht _ => ⟨⟨2, (), rfl, rfl, by show va_P _ _ _ t.heap; rw [ht]; exact hP9⟩, hS9.F ht⟩) hS9.2.2 dL_about_20
