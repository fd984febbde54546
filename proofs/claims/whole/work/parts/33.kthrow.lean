/-! the class's methods where they throw -/
def bb_Pt (av : List Value) (D : va_G) (cl : List vw_C) (wd : va_W) (tys : List (ClassId × FieldType)) (Bd : Nat) : Array Value → State → Prop := va_Pc av (fun U => bb_B D cl wd tys U ∧ bb_TS Bd U)
theorem bb_Ptb {av : List Value} {D : va_G} {cl : List vw_C} {wd : va_W} {tys : List (ClassId × FieldType)} {Bd : Nat} : FrameBlind (bb_Pt av D cl wd tys Bd) :=
  fun a U g mk q => ⟨q.1, ⟨q.2.1.1, va_K.moved (u := U) (U := U.calling g mk a) (Vm.Alike.refl U.vm) q.2.1.2⟩, bb_TS.same (u := U) (U := U.calling g mk a) rfl rfl q.2.2⟩
theorem bb_TSb {av : List Value} {Bd : Nat} : FrameBlind (va_Pc av (bb_TS Bd)) := fun a U g mk q => ⟨q.1, bb_TS.same (u := U) (U := U.calling g mk a) rfl rfl q.2⟩
theorem bb_noH {t : Array ExceptionTableEntry} (h : t.isEmpty = true) : t.toList = [] := by
  rw [Array.isEmpty_iff] at h
  rw [h]

set_option maxHeartbeats 4000000 in
set_option maxRecDepth 100000 in
theorem t_requireNode (l : Launch) (htr : l.stackTraces = false) (Bd : Nat)  (x : Int32) (hbad : bb_out x (nI 10) = true) : bb_MT l yX0_requireNode wsX0_requireNode ({ frames := 6, cells := 1, slots := 6, locals := 90 }) (va_Pc [.int x] (bb_TS Bd)) NSE := by
  refine bb_MT_of (cc := cX0_requireNode) (maxL := 1) (ret := none) (by decide) rfl ?_
  intro p e s m args below meth c s₁ B hml hv
  obtain ⟨rfl, hZ⟩ := hv
  have hx := B.exec
  have hb := B.bytes
  have hts := atoms_spec (ws := wsX0_requireNode) B.pre
  have hout : c.exceptionTable.toList = [] := bb_noH (B.noHandlers (hts _ List.mem_cons_self))
  have hown : s.vm.findClass RX0 = some m.cls := findClass_of_methodNamed B.named
  have hlocks := B.notSynchronized
  have hl := lv_entry ([.int x]) (n := 1) (Nat.le_of_ble_eq_true rfl)
  rw [lg_entry_eq]
  generalize (lg_sl ([.int x]) ++ List.replicate (1 - (lg_sl ([.int x])).length) Slot.unset).toArray = ls at hl ⊢
  have hl : lv_has ls 1 [(0, .int x)] := hl
  refine lv_iload_n hx hb dX0_requireNode_0 rfl (lv_at hl 0 rfl) ?_
  refine lv_if_lt (tgt := 10) hx hb dX0_requireNode_1 rfl (fun h1 => ?_) (fun h1 => ?_)
  · skip
    exact bb_throwS (k := 127) (tx := "no such node") bb_eN hx hb htr hown (fun w9 h9 => hts w9 (List.mem_cons_of_mem _ h9)) hZ (by decide +kernel) (hl.1.trans hml.symm) dX0_requireNode_10 dX0_requireNode_13 dX0_requireNode_14 dX0_requireNode_16 dX0_requireNode_19 hout hlocks (Nat.le_of_ble_eq_true rfl) (Nat.le_of_ble_eq_true rfl) (Nat.le_of_ble_eq_true rfl) (Nat.le_of_ble_eq_true rfl)
  · skip
    refine lv_iload_n hx hb dX0_requireNode_4 rfl (lv_at hl 0 rfl) ?_
    refine lv_bipush (v := nI 10) hx hb dX0_requireNode_5 (by decide) ?_
    refine lv_icmp_lt (tgt := 20) hx hb dX0_requireNode_7 rfl (fun h7 => ((bb_out_t hbad).elim h1 (fun q9 => q9 h7)).elim) (fun h7 => ?_)
    have q7 := bb_le h7
    exact bb_throwS (k := 127) (tx := "no such node") bb_eN hx hb htr hown (fun w9 h9 => hts w9 (List.mem_cons_of_mem _ h9)) hZ (by decide +kernel) (hl.1.trans hml.symm) dX0_requireNode_10 dX0_requireNode_13 dX0_requireNode_14 dX0_requireNode_16 dX0_requireNode_19 hout hlocks (Nat.le_of_ble_eq_true rfl) (Nat.le_of_ble_eq_true rfl) (Nat.le_of_ble_eq_true rfl) (Nat.le_of_ble_eq_true rfl)

set_option maxHeartbeats 4000000 in
set_option maxRecDepth 100000 in
theorem t_requireSet (l : Launch) (htr : l.stackTraces = false) (Bd : Nat)  (x : Int32) (hbad : bb_out x (nI 1024) = true) : bb_MT l yX0_requireSet wsX0_requireSet ({ frames := 6, cells := 1, slots := 6, locals := 90 }) (va_Pc [.int x] (bb_TS Bd)) NSE := by
  refine bb_MT_of (cc := cX0_requireSet) (maxL := 1) (ret := none) (by decide) rfl ?_
  intro p e s m args below meth c s₁ B hml hv
  obtain ⟨rfl, hZ⟩ := hv
  have hx := B.exec
  have hb := B.bytes
  have hts := atoms_spec (ws := wsX0_requireSet) B.pre
  have hout : c.exceptionTable.toList = [] := bb_noH (B.noHandlers (hts _ List.mem_cons_self))
  have hown : s.vm.findClass RX0 = some m.cls := findClass_of_methodNamed B.named
  have hlocks := B.notSynchronized
  have hl := lv_entry ([.int x]) (n := 1) (Nat.le_of_ble_eq_true rfl)
  rw [lg_entry_eq]
  generalize (lg_sl ([.int x]) ++ List.replicate (1 - (lg_sl ([.int x])).length) Slot.unset).toArray = ls at hl ⊢
  have hl : lv_has ls 1 [(0, .int x)] := hl
  refine lv_iload_n hx hb dX0_requireSet_0 rfl (lv_at hl 0 rfl) ?_
  refine lv_if_lt (tgt := 11) hx hb dX0_requireSet_1 rfl (fun h1 => ?_) (fun h1 => ?_)
  · skip
    exact bb_throwS (k := 130) (tx := "no such set") bb_eN hx hb htr hown (fun w9 h9 => hts w9 (List.mem_cons_of_mem _ h9)) hZ (by decide +kernel) (hl.1.trans hml.symm) dX0_requireSet_11 dX0_requireSet_14 dX0_requireSet_15 dX0_requireSet_17 dX0_requireSet_20 hout hlocks (Nat.le_of_ble_eq_true rfl) (Nat.le_of_ble_eq_true rfl) (Nat.le_of_ble_eq_true rfl) (Nat.le_of_ble_eq_true rfl)
  · skip
    refine lv_iload_n hx hb dX0_requireSet_4 rfl (lv_at hl 0 rfl) ?_
    refine lv_sipush (v := nI 1024) hx hb dX0_requireSet_5 (by decide) ?_
    refine lv_icmp_lt (tgt := 21) hx hb dX0_requireSet_8 rfl (fun h8 => ((bb_out_t hbad).elim h1 (fun q9 => q9 h8)).elim) (fun h8 => ?_)
    have q8 := bb_le h8
    exact bb_throwS (k := 130) (tx := "no such set") bb_eN hx hb htr hown (fun w9 h9 => hts w9 (List.mem_cons_of_mem _ h9)) hZ (by decide +kernel) (hl.1.trans hml.symm) dX0_requireSet_11 dX0_requireSet_14 dX0_requireSet_15 dX0_requireSet_17 dX0_requireSet_20 hout hlocks (Nat.le_of_ble_eq_true rfl) (Nat.le_of_ble_eq_true rfl) (Nat.le_of_ble_eq_true rfl) (Nat.le_of_ble_eq_true rfl)

set_option maxHeartbeats 4000000 in
set_option maxRecDepth 100000 in
theorem t_requireBallot (l : Launch) (htr : l.stackTraces = false) (Bd : Nat)  (x : Int32) (hbad : bb_out x (nI 31) = true) : bb_MT l yX0_requireBallot wsX0_requireBallot ({ frames := 6, cells := 1, slots := 6, locals := 90 }) (va_Pc [.int x] (bb_TS Bd)) NSE := by
  refine bb_MT_of (cc := cX0_requireBallot) (maxL := 1) (ret := none) (by decide) rfl ?_
  intro p e s m args below meth c s₁ B hml hv
  obtain ⟨rfl, hZ⟩ := hv
  have hx := B.exec
  have hb := B.bytes
  have hts := atoms_spec (ws := wsX0_requireBallot) B.pre
  have hout : c.exceptionTable.toList = [] := bb_noH (B.noHandlers (hts _ List.mem_cons_self))
  have hown : s.vm.findClass RX0 = some m.cls := findClass_of_methodNamed B.named
  have hlocks := B.notSynchronized
  have hl := lv_entry ([.int x]) (n := 1) (Nat.le_of_ble_eq_true rfl)
  rw [lg_entry_eq]
  generalize (lg_sl ([.int x]) ++ List.replicate (1 - (lg_sl ([.int x])).length) Slot.unset).toArray = ls at hl ⊢
  have hl : lv_has ls 1 [(0, .int x)] := hl
  refine lv_iload_n hx hb dX0_requireBallot_0 rfl (lv_at hl 0 rfl) ?_
  refine lv_if_lt (tgt := 10) hx hb dX0_requireBallot_1 rfl (fun h1 => ?_) (fun h1 => ?_)
  · skip
    exact bb_throwS (k := 132) (tx := "no such ballot") bb_eN hx hb htr hown (fun w9 h9 => hts w9 (List.mem_cons_of_mem _ h9)) hZ (by decide +kernel) (hl.1.trans hml.symm) dX0_requireBallot_10 dX0_requireBallot_13 dX0_requireBallot_14 dX0_requireBallot_16 dX0_requireBallot_19 hout hlocks (Nat.le_of_ble_eq_true rfl) (Nat.le_of_ble_eq_true rfl) (Nat.le_of_ble_eq_true rfl) (Nat.le_of_ble_eq_true rfl)
  · skip
    refine lv_iload_n hx hb dX0_requireBallot_4 rfl (lv_at hl 0 rfl) ?_
    refine lv_bipush (v := nI 31) hx hb dX0_requireBallot_5 (by decide) ?_
    refine lv_icmp_lt (tgt := 20) hx hb dX0_requireBallot_7 rfl (fun h7 => ((bb_out_t hbad).elim h1 (fun q9 => q9 h7)).elim) (fun h7 => ?_)
    have q7 := bb_le h7
    exact bb_throwS (k := 132) (tx := "no such ballot") bb_eN hx hb htr hown (fun w9 h9 => hts w9 (List.mem_cons_of_mem _ h9)) hZ (by decide +kernel) (hl.1.trans hml.symm) dX0_requireBallot_10 dX0_requireBallot_13 dX0_requireBallot_14 dX0_requireBallot_16 dX0_requireBallot_19 hout hlocks (Nat.le_of_ble_eq_true rfl) (Nat.le_of_ble_eq_true rfl) (Nat.le_of_ble_eq_true rfl) (Nat.le_of_ble_eq_true rfl)

set_option maxHeartbeats 4000000 in
set_option maxRecDepth 100000 in
theorem t_requireValue (l : Launch) (htr : l.stackTraces = false) (Bd : Nat)  (x : Int32) (hbad : bb_out x (nI 10) = true) : bb_MT l yX0_requireValue wsX0_requireValue ({ frames := 6, cells := 1, slots := 6, locals := 90 }) (va_Pc [.int x] (bb_TS Bd)) NSE := by
  refine bb_MT_of (cc := cX0_requireValue) (maxL := 1) (ret := none) (by decide) rfl ?_
  intro p e s m args below meth c s₁ B hml hv
  obtain ⟨rfl, hZ⟩ := hv
  have hx := B.exec
  have hb := B.bytes
  have hts := atoms_spec (ws := wsX0_requireValue) B.pre
  have hout : c.exceptionTable.toList = [] := bb_noH (B.noHandlers (hts _ List.mem_cons_self))
  have hown : s.vm.findClass RX0 = some m.cls := findClass_of_methodNamed B.named
  have hlocks := B.notSynchronized
  have hl := lv_entry ([.int x]) (n := 1) (Nat.le_of_ble_eq_true rfl)
  rw [lg_entry_eq]
  generalize (lg_sl ([.int x]) ++ List.replicate (1 - (lg_sl ([.int x])).length) Slot.unset).toArray = ls at hl ⊢
  have hl : lv_has ls 1 [(0, .int x)] := hl
  refine lv_iload_n hx hb dX0_requireValue_0 rfl (lv_at hl 0 rfl) ?_
  refine lv_if_lt (tgt := 10) hx hb dX0_requireValue_1 rfl (fun h1 => ?_) (fun h1 => ?_)
  · skip
    exact bb_throwS (k := 134) (tx := "no such value") bb_eN hx hb htr hown (fun w9 h9 => hts w9 (List.mem_cons_of_mem _ h9)) hZ (by decide +kernel) (hl.1.trans hml.symm) dX0_requireValue_10 dX0_requireValue_13 dX0_requireValue_14 dX0_requireValue_16 dX0_requireValue_19 hout hlocks (Nat.le_of_ble_eq_true rfl) (Nat.le_of_ble_eq_true rfl) (Nat.le_of_ble_eq_true rfl) (Nat.le_of_ble_eq_true rfl)
  · skip
    refine lv_iload_n hx hb dX0_requireValue_4 rfl (lv_at hl 0 rfl) ?_
    refine lv_bipush (v := nI 10) hx hb dX0_requireValue_5 (by decide) ?_
    refine lv_icmp_lt (tgt := 20) hx hb dX0_requireValue_7 rfl (fun h7 => ((bb_out_t hbad).elim h1 (fun q9 => q9 h7)).elim) (fun h7 => ?_)
    have q7 := bb_le h7
    exact bb_throwS (k := 134) (tx := "no such value") bb_eN hx hb htr hown (fun w9 h9 => hts w9 (List.mem_cons_of_mem _ h9)) hZ (by decide +kernel) (hl.1.trans hml.symm) dX0_requireValue_10 dX0_requireValue_13 dX0_requireValue_14 dX0_requireValue_16 dX0_requireValue_19 hout hlocks (Nat.le_of_ble_eq_true rfl) (Nat.le_of_ble_eq_true rfl) (Nat.le_of_ble_eq_true rfl) (Nat.le_of_ble_eq_true rfl)

set_option maxHeartbeats 4000000 in
set_option maxRecDepth 100000 in
theorem t_weight1 (l : Launch) (htr : l.stackTraces = false) (Bd : Nat) (dC : Nat → ClassId) (dI : Nat → Nat → Nat) (cA : ClassId) (h0 a0 a1 a2 a3 : Nat) (w pr vo vf : Nat → Int32) (k : Int32) (x0 x1 : Int32) (hbad : bb_out x0 (nI 10) = true) : bb_MT l yX0_weight wsX0_weight ({ frames := 7, cells := 1, slots := 6, locals := 130 }) (bb_Pt [.ref h0, .int x0, .int x1] (dC, dI) vwCl (bb_C h0 a0 a1 a2 a3 cA w pr vo vf k) [(cA, .int)] Bd) NSE := by
  refine bb_MT_of (cc := cX0_weight) (maxL := 4) (ret := some .int) (by decide) rfl ?_
  intro p e s m args below meth c s₁ B hml hv
  obtain ⟨rfl, ⟨hP, hK⟩, hZ⟩ := hv
  have hx := B.exec
  have hb := B.bytes
  have hts := atoms_spec (ws := wsX0_weight) B.pre
  have hout : c.exceptionTable.toList = [] := bb_noH (B.noHandlers (hts _ List.mem_cons_self))
  have hown : s.vm.findClass RX0 = some m.cls := findClass_of_methodNamed B.named
  have hlocks := B.notSynchronized
  have hl := lv_entry ([.ref h0, .int x0, .int x1]) (n := 4) (Nat.le_of_ble_eq_true rfl)
  rw [lg_entry_eq]
  generalize (lg_sl ([.ref h0, .int x0, .int x1]) ++ List.replicate (4 - (lg_sl ([.ref h0, .int x0, .int x1])).length) Slot.unset).toArray = ls at hl ⊢
  have hl : lv_has ls 4 [(0, .ref h0), (1, .int x0), (2, .int x1)] := hl
  refine lv_iload_n hx hb dX0_weight_0 rfl (lv_at hl 1 rfl) ?_
  exact bb_cSt (As := [.int x0]) (rest := []) ⟨hx, hb, hml, hown, hts⟩ (t_requireNode l htr Bd x0 hbad) (cwS 1 hts gX0_weight_X0_requireNode rfl rfl rfl (by decide +kernel) ⟨Nat.le_of_ble_eq_true rfl, Nat.le_of_ble_eq_true rfl⟩) ⟨bb_TSb, fun U9 hU9 hW9 => ⟨rfl, hZ.mv hW9 (fun _ _ => by rw [hU9])⟩⟩ rfl hl.1 rfl (Nat.le_of_ble_eq_true rfl) dX0_weight_1 (Nat.le_of_ble_eq_true rfl) (Nat.le_of_ble_eq_true rfl) (fun q9 H9 ce9 _ _ g1 g2 g3 => bb_leave hout hlocks g1 g2 g3 (Nat.le_refl _) (Nat.le_refl _))

set_option maxHeartbeats 4000000 in
set_option maxRecDepth 100000 in
theorem t_promise1 (l : Launch) (htr : l.stackTraces = false) (Bd : Nat) (dC : Nat → ClassId) (dI : Nat → Nat → Nat) (cA : ClassId) (h0 a0 a1 a2 a3 : Nat) (w pr vo vf : Nat → Int32) (k : Int32) (x0 x1 : Int32) (hbad : (bb_out x0 (nI 10) || bb_out x1 (nI 31)) = true) : bb_MT l yX0_promise wsX0_promise ({ frames := 7, cells := 1, slots := 6, locals := 130 }) (bb_Pt [.ref h0, .int x0, .int x1] (dC, dI) vwCl (bb_C h0 a0 a1 a2 a3 cA w pr vo vf k) [(cA, .int)] Bd) NSE := by
  refine bb_MT_of (cc := cX0_promise) (maxL := 4) (ret := some .int) (by decide) rfl ?_
  intro p e s m args below meth c s₁ B hml hv
  obtain ⟨rfl, ⟨hP, hK⟩, hZ⟩ := hv
  have hx := B.exec
  have hb := B.bytes
  have hts := atoms_spec (ws := wsX0_promise) B.pre
  have hout : c.exceptionTable.toList = [] := bb_noH (B.noHandlers (hts _ List.mem_cons_self))
  have hown : s.vm.findClass RX0 = some m.cls := findClass_of_methodNamed B.named
  have hlocks := B.notSynchronized
  have hl := lv_entry ([.ref h0, .int x0, .int x1]) (n := 4) (Nat.le_of_ble_eq_true rfl)
  rw [lg_entry_eq]
  generalize (lg_sl ([.ref h0, .int x0, .int x1]) ++ List.replicate (4 - (lg_sl ([.ref h0, .int x0, .int x1])).length) Slot.unset).toArray = ls at hl ⊢
  have hl : lv_has ls 4 [(0, .ref h0), (1, .int x0), (2, .int x1)] := hl
  refine lv_iload_n hx hb dX0_promise_0 rfl (lv_at hl 1 rfl) ?_
  rcases bb_out_or x0 (N := 10) (by decide) with ho | ⟨m0, hm0, rfl⟩
  · exact bb_cSt (As := [.int x0]) (rest := []) ⟨hx, hb, hml, hown, hts⟩ (t_requireNode l htr Bd x0 ho) (cwS 1 hts gX0_promise_X0_requireNode rfl rfl rfl (by decide +kernel) ⟨Nat.le_of_ble_eq_true rfl, Nat.le_of_ble_eq_true rfl⟩) ⟨bb_TSb, fun U9 hU9 hW9 => ⟨rfl, hZ.mv hW9 (fun _ _ => by rw [hU9])⟩⟩ rfl hl.1 rfl (Nat.le_of_ble_eq_true rfl) dX0_promise_1 (Nat.le_of_ble_eq_true rfl) (Nat.le_of_ble_eq_true rfl) (fun q9 H9 ce9 _ _ g1 g2 g3 => bb_leave hout hlocks g1 g2 g3 (Nat.le_refl _) (Nat.le_refl _))
  refine bb_cSv (As := [.int (nI m0)]) (rest := []) ⟨hx, hb, hml, hown, hts⟩ (k_requireNode l m0 hm0) (cwS 1 hts gX0_promise_X0_requireNode rfl rfl rfl (by decide +kernel) ⟨Nat.le_of_ble_eq_true rfl, Nat.le_of_ble_eq_true rfl⟩) rfl hl.1 rfl (Nat.le_of_ble_eq_true rfl) dX0_promise_1 (Nat.zero_le _) (Nat.zero_le _) ?_
  refine lv_iload_n hx hb dX0_promise_4 rfl (lv_at hl 2 rfl) ?_
  rcases bb_out_or x1 (N := 31) (by decide) with ho | ⟨m1, hm1, rfl⟩
  · exact bb_cSt (As := [.int x1]) (rest := []) ⟨hx, hb, hml, hown, hts⟩ (t_requireBallot l htr Bd x1 ho) (cwS 1 hts gX0_promise_X0_requireBallot rfl rfl rfl (by decide +kernel) ⟨Nat.le_of_ble_eq_true rfl, Nat.le_of_ble_eq_true rfl⟩) ⟨bb_TSb, fun U9 hU9 hW9 => ⟨rfl, hZ.mv hW9 (fun _ _ => by rw [hU9])⟩⟩ rfl hl.1 rfl (Nat.le_of_ble_eq_true rfl) dX0_promise_5 (Nat.le_of_ble_eq_true rfl) (Nat.le_of_ble_eq_true rfl) (fun q9 H9 ce9 _ _ g1 g2 g3 => bb_leave hout hlocks g1 g2 g3 (Nat.le_refl _) (Nat.le_refl _))
  exact absurd hbad (by rw [bb_out_no hm0 (by decide), bb_out_no hm1 (by decide)]; decide)

set_option maxHeartbeats 4000000 in
set_option maxRecDepth 100000 in
theorem t_vote1 (l : Launch) (htr : l.stackTraces = false) (Bd : Nat) (dC : Nat → ClassId) (dI : Nat → Nat → Nat) (cA : ClassId) (h0 a0 a1 a2 a3 : Nat) (w pr vo vf : Nat → Int32) (k : Int32) (x0 x1 x2 : Int32) (hbad : (bb_out x0 (nI 10) || bb_out x1 (nI 31) || bb_out x2 (nI 10)) = true) : bb_MT l yX0_vote wsX0_vote ({ frames := 7, cells := 1, slots := 6, locals := 130 }) (bb_Pt [.ref h0, .int x0, .int x1, .int x2] (dC, dI) vwCl (bb_C h0 a0 a1 a2 a3 cA w pr vo vf k) [(cA, .int)] Bd) NSE := by
  refine bb_MT_of (cc := cX0_vote) (maxL := 4) (ret := some .int) (by decide) rfl ?_
  intro p e s m args below meth c s₁ B hml hv
  obtain ⟨rfl, ⟨hP, hK⟩, hZ⟩ := hv
  have hx := B.exec
  have hb := B.bytes
  have hts := atoms_spec (ws := wsX0_vote) B.pre
  have hout : c.exceptionTable.toList = [] := bb_noH (B.noHandlers (hts _ List.mem_cons_self))
  have hown : s.vm.findClass RX0 = some m.cls := findClass_of_methodNamed B.named
  have hlocks := B.notSynchronized
  have hl := lv_entry ([.ref h0, .int x0, .int x1, .int x2]) (n := 4) (Nat.le_of_ble_eq_true rfl)
  rw [lg_entry_eq]
  generalize (lg_sl ([.ref h0, .int x0, .int x1, .int x2]) ++ List.replicate (4 - (lg_sl ([.ref h0, .int x0, .int x1, .int x2])).length) Slot.unset).toArray = ls at hl ⊢
  have hl : lv_has ls 4 [(0, .ref h0), (1, .int x0), (2, .int x1), (3, .int x2)] := hl
  refine lv_iload_n hx hb dX0_vote_0 rfl (lv_at hl 1 rfl) ?_
  rcases bb_out_or x0 (N := 10) (by decide) with ho | ⟨m0, hm0, rfl⟩
  · exact bb_cSt (As := [.int x0]) (rest := []) ⟨hx, hb, hml, hown, hts⟩ (t_requireNode l htr Bd x0 ho) (cwS 1 hts gX0_vote_X0_requireNode rfl rfl rfl (by decide +kernel) ⟨Nat.le_of_ble_eq_true rfl, Nat.le_of_ble_eq_true rfl⟩) ⟨bb_TSb, fun U9 hU9 hW9 => ⟨rfl, hZ.mv hW9 (fun _ _ => by rw [hU9])⟩⟩ rfl hl.1 rfl (Nat.le_of_ble_eq_true rfl) dX0_vote_1 (Nat.le_of_ble_eq_true rfl) (Nat.le_of_ble_eq_true rfl) (fun q9 H9 ce9 _ _ g1 g2 g3 => bb_leave hout hlocks g1 g2 g3 (Nat.le_refl _) (Nat.le_refl _))
  refine bb_cSv (As := [.int (nI m0)]) (rest := []) ⟨hx, hb, hml, hown, hts⟩ (k_requireNode l m0 hm0) (cwS 1 hts gX0_vote_X0_requireNode rfl rfl rfl (by decide +kernel) ⟨Nat.le_of_ble_eq_true rfl, Nat.le_of_ble_eq_true rfl⟩) rfl hl.1 rfl (Nat.le_of_ble_eq_true rfl) dX0_vote_1 (Nat.zero_le _) (Nat.zero_le _) ?_
  refine lv_iload_n hx hb dX0_vote_4 rfl (lv_at hl 2 rfl) ?_
  rcases bb_out_or x1 (N := 31) (by decide) with ho | ⟨m1, hm1, rfl⟩
  · exact bb_cSt (As := [.int x1]) (rest := []) ⟨hx, hb, hml, hown, hts⟩ (t_requireBallot l htr Bd x1 ho) (cwS 1 hts gX0_vote_X0_requireBallot rfl rfl rfl (by decide +kernel) ⟨Nat.le_of_ble_eq_true rfl, Nat.le_of_ble_eq_true rfl⟩) ⟨bb_TSb, fun U9 hU9 hW9 => ⟨rfl, hZ.mv hW9 (fun _ _ => by rw [hU9])⟩⟩ rfl hl.1 rfl (Nat.le_of_ble_eq_true rfl) dX0_vote_5 (Nat.le_of_ble_eq_true rfl) (Nat.le_of_ble_eq_true rfl) (fun q9 H9 ce9 _ _ g1 g2 g3 => bb_leave hout hlocks g1 g2 g3 (Nat.le_refl _) (Nat.le_refl _))
  refine bb_cSv (As := [.int (nI m1)]) (rest := []) ⟨hx, hb, hml, hown, hts⟩ (k_requireBallot l m1 hm1) (cwS 1 hts gX0_vote_X0_requireBallot rfl rfl rfl (by decide +kernel) ⟨Nat.le_of_ble_eq_true rfl, Nat.le_of_ble_eq_true rfl⟩) rfl hl.1 rfl (Nat.le_of_ble_eq_true rfl) dX0_vote_5 (Nat.zero_le _) (Nat.zero_le _) ?_
  refine lv_iload_n hx hb dX0_vote_8 rfl (lv_at hl 3 rfl) ?_
  rcases bb_out_or x2 (N := 10) (by decide) with ho | ⟨m2, hm2, rfl⟩
  · exact bb_cSt (As := [.int x2]) (rest := []) ⟨hx, hb, hml, hown, hts⟩ (t_requireValue l htr Bd x2 ho) (cwS 1 hts gX0_vote_X0_requireValue rfl rfl rfl (by decide +kernel) ⟨Nat.le_of_ble_eq_true rfl, Nat.le_of_ble_eq_true rfl⟩) ⟨bb_TSb, fun U9 hU9 hW9 => ⟨rfl, hZ.mv hW9 (fun _ _ => by rw [hU9])⟩⟩ rfl hl.1 rfl (Nat.le_of_ble_eq_true rfl) dX0_vote_9 (Nat.le_of_ble_eq_true rfl) (Nat.le_of_ble_eq_true rfl) (fun q9 H9 ce9 _ _ g1 g2 g3 => bb_leave hout hlocks g1 g2 g3 (Nat.le_refl _) (Nat.le_refl _))
  exact absurd hbad (by rw [bb_out_no hm0 (by decide), bb_out_no hm1 (by decide), bb_out_no hm2 (by decide)]; decide)

set_option maxHeartbeats 4000000 in
set_option maxRecDepth 100000 in
theorem t_ask1 (l : Launch) (htr : l.stackTraces = false) (Bd : Nat) (dC : Nat → ClassId) (dI : Nat → Nat → Nat) (cA : ClassId) (h0 a0 a1 a2 a3 : Nat) (w pr vo vf : Nat → Int32) (k : Int32) (x0 x1 : Int32) (hbad : (bb_out x0 (nI 1024) || bb_out x1 (nI 31)) = true) : bb_MT l yX0_ask wsX0_ask ({ frames := 7, cells := 1, slots := 6, locals := 130 }) (bb_Pt [.ref h0, .int x0, .int x1] (dC, dI) vwCl (bb_C h0 a0 a1 a2 a3 cA w pr vo vf k) [(cA, .int)] Bd) NSE := by
  refine bb_MT_of (cc := cX0_ask) (maxL := 4) (ret := some .int) (by decide) rfl ?_
  intro p e s m args below meth c s₁ B hml hv
  obtain ⟨rfl, ⟨hP, hK⟩, hZ⟩ := hv
  have hx := B.exec
  have hb := B.bytes
  have hts := atoms_spec (ws := wsX0_ask) B.pre
  have hout : c.exceptionTable.toList = [] := bb_noH (B.noHandlers (hts _ List.mem_cons_self))
  have hown : s.vm.findClass RX0 = some m.cls := findClass_of_methodNamed B.named
  have hlocks := B.notSynchronized
  have hl := lv_entry ([.ref h0, .int x0, .int x1]) (n := 4) (Nat.le_of_ble_eq_true rfl)
  rw [lg_entry_eq]
  generalize (lg_sl ([.ref h0, .int x0, .int x1]) ++ List.replicate (4 - (lg_sl ([.ref h0, .int x0, .int x1])).length) Slot.unset).toArray = ls at hl ⊢
  have hl : lv_has ls 4 [(0, .ref h0), (1, .int x0), (2, .int x1)] := hl
  refine lv_iload_n hx hb dX0_ask_0 rfl (lv_at hl 1 rfl) ?_
  rcases bb_out_or x0 (N := 1024) (by decide) with ho | ⟨m0, hm0, rfl⟩
  · exact bb_cSt (As := [.int x0]) (rest := []) ⟨hx, hb, hml, hown, hts⟩ (t_requireSet l htr Bd x0 ho) (cwS 1 hts gX0_ask_X0_requireSet rfl rfl rfl (by decide +kernel) ⟨Nat.le_of_ble_eq_true rfl, Nat.le_of_ble_eq_true rfl⟩) ⟨bb_TSb, fun U9 hU9 hW9 => ⟨rfl, hZ.mv hW9 (fun _ _ => by rw [hU9])⟩⟩ rfl hl.1 rfl (Nat.le_of_ble_eq_true rfl) dX0_ask_1 (Nat.le_of_ble_eq_true rfl) (Nat.le_of_ble_eq_true rfl) (fun q9 H9 ce9 _ _ g1 g2 g3 => bb_leave hout hlocks g1 g2 g3 (Nat.le_refl _) (Nat.le_refl _))
  refine bb_cSv (As := [.int (nI m0)]) (rest := []) ⟨hx, hb, hml, hown, hts⟩ (k_requireSet l m0 hm0) (cwS 1 hts gX0_ask_X0_requireSet rfl rfl rfl (by decide +kernel) ⟨Nat.le_of_ble_eq_true rfl, Nat.le_of_ble_eq_true rfl⟩) rfl hl.1 rfl (Nat.le_of_ble_eq_true rfl) dX0_ask_1 (Nat.zero_le _) (Nat.zero_le _) ?_
  refine lv_iload_n hx hb dX0_ask_4 rfl (lv_at hl 2 rfl) ?_
  rcases bb_out_or x1 (N := 31) (by decide) with ho | ⟨m1, hm1, rfl⟩
  · exact bb_cSt (As := [.int x1]) (rest := []) ⟨hx, hb, hml, hown, hts⟩ (t_requireBallot l htr Bd x1 ho) (cwS 1 hts gX0_ask_X0_requireBallot rfl rfl rfl (by decide +kernel) ⟨Nat.le_of_ble_eq_true rfl, Nat.le_of_ble_eq_true rfl⟩) ⟨bb_TSb, fun U9 hU9 hW9 => ⟨rfl, hZ.mv hW9 (fun _ _ => by rw [hU9])⟩⟩ rfl hl.1 rfl (Nat.le_of_ble_eq_true rfl) dX0_ask_5 (Nat.le_of_ble_eq_true rfl) (Nat.le_of_ble_eq_true rfl) (fun q9 H9 ce9 _ _ g1 g2 g3 => bb_leave hout hlocks g1 g2 g3 (Nat.le_refl _) (Nat.le_refl _))
  exact absurd hbad (by rw [bb_out_no hm0 (by decide), bb_out_no hm1 (by decide)]; decide)

set_option maxHeartbeats 4000000 in
set_option maxRecDepth 100000 in
theorem t_chosen1 (l : Launch) (htr : l.stackTraces = false) (Bd : Nat) (dC : Nat → ClassId) (dI : Nat → Nat → Nat) (cA : ClassId) (h0 a0 a1 a2 a3 : Nat) (w pr vo vf : Nat → Int32) (k : Int32) (x0 : Int32) (hbad : bb_out x0 (nI 31) = true) : bb_MT l yX0_chosen wsX0_chosen ({ frames := 7, cells := 1, slots := 6, locals := 130 }) (bb_Pt [.ref h0, .int x0] (dC, dI) vwCl (bb_C h0 a0 a1 a2 a3 cA w pr vo vf k) [(cA, .int)] Bd) NSE := by
  refine bb_MT_of (cc := cX0_chosen) (maxL := 2) (ret := some .int) (by decide) rfl ?_
  intro p e s m args below meth c s₁ B hml hv
  obtain ⟨rfl, ⟨hP, hK⟩, hZ⟩ := hv
  have hx := B.exec
  have hb := B.bytes
  have hts := atoms_spec (ws := wsX0_chosen) B.pre
  have hout : c.exceptionTable.toList = [] := bb_noH (B.noHandlers (hts _ List.mem_cons_self))
  have hown : s.vm.findClass RX0 = some m.cls := findClass_of_methodNamed B.named
  have hlocks := B.notSynchronized
  have hl := lv_entry ([.ref h0, .int x0]) (n := 2) (Nat.le_of_ble_eq_true rfl)
  rw [lg_entry_eq]
  generalize (lg_sl ([.ref h0, .int x0]) ++ List.replicate (2 - (lg_sl ([.ref h0, .int x0])).length) Slot.unset).toArray = ls at hl ⊢
  have hl : lv_has ls 2 [(0, .ref h0), (1, .int x0)] := hl
  refine lv_iload_n hx hb dX0_chosen_0 rfl (lv_at hl 1 rfl) ?_
  exact bb_cSt (As := [.int x0]) (rest := []) ⟨hx, hb, hml, hown, hts⟩ (t_requireBallot l htr Bd x0 hbad) (cwS 1 hts gX0_chosen_X0_requireBallot rfl rfl rfl (by decide +kernel) ⟨Nat.le_of_ble_eq_true rfl, Nat.le_of_ble_eq_true rfl⟩) ⟨bb_TSb, fun U9 hU9 hW9 => ⟨rfl, hZ.mv hW9 (fun _ _ => by rw [hU9])⟩⟩ rfl hl.1 rfl (Nat.le_of_ble_eq_true rfl) dX0_chosen_1 (Nat.le_of_ble_eq_true rfl) (Nat.le_of_ble_eq_true rfl) (fun q9 H9 ce9 _ _ g1 g2 g3 => bb_leave hout hlocks g1 g2 g3 (Nat.le_refl _) (Nat.le_refl _))

set_option maxHeartbeats 4000000 in
set_option maxRecDepth 100000 in
theorem t_can1 (l : Launch) (htr : l.stackTraces = false) (Bd : Nat) (dC : Nat → ClassId) (dI : Nat → Nat → Nat) (cA : ClassId) (h0 a0 a1 a2 a3 : Nat) (w pr vo vf : Nat → Int32) (k : Int32) (x0 x1 : Int32) (hbad : (bb_out x0 (nI 31) || bb_out x1 (nI 10)) = true) : bb_MT l yX0_can wsX0_can ({ frames := 7, cells := 1, slots := 6, locals := 130 }) (bb_Pt [.ref h0, .int x0, .int x1] (dC, dI) vwCl (bb_C h0 a0 a1 a2 a3 cA w pr vo vf k) [(cA, .int)] Bd) NSE := by
  refine bb_MT_of (cc := cX0_can) (maxL := 3) (ret := some .boolean) (by decide) rfl ?_
  intro p e s m args below meth c s₁ B hml hv
  obtain ⟨rfl, ⟨hP, hK⟩, hZ⟩ := hv
  have hx := B.exec
  have hb := B.bytes
  have hts := atoms_spec (ws := wsX0_can) B.pre
  have hout : c.exceptionTable.toList = [] := bb_noH (B.noHandlers (hts _ List.mem_cons_self))
  have hown : s.vm.findClass RX0 = some m.cls := findClass_of_methodNamed B.named
  have hlocks := B.notSynchronized
  have hl := lv_entry ([.ref h0, .int x0, .int x1]) (n := 3) (Nat.le_of_ble_eq_true rfl)
  rw [lg_entry_eq]
  generalize (lg_sl ([.ref h0, .int x0, .int x1]) ++ List.replicate (3 - (lg_sl ([.ref h0, .int x0, .int x1])).length) Slot.unset).toArray = ls at hl ⊢
  have hl : lv_has ls 3 [(0, .ref h0), (1, .int x0), (2, .int x1)] := hl
  refine lv_iload_n hx hb dX0_can_0 rfl (lv_at hl 1 rfl) ?_
  rcases bb_out_or x0 (N := 31) (by decide) with ho | ⟨m0, hm0, rfl⟩
  · exact bb_cSt (As := [.int x0]) (rest := []) ⟨hx, hb, hml, hown, hts⟩ (t_requireBallot l htr Bd x0 ho) (cwS 1 hts gX0_can_X0_requireBallot rfl rfl rfl (by decide +kernel) ⟨Nat.le_of_ble_eq_true rfl, Nat.le_of_ble_eq_true rfl⟩) ⟨bb_TSb, fun U9 hU9 hW9 => ⟨rfl, hZ.mv hW9 (fun _ _ => by rw [hU9])⟩⟩ rfl hl.1 rfl (Nat.le_of_ble_eq_true rfl) dX0_can_1 (Nat.le_of_ble_eq_true rfl) (Nat.le_of_ble_eq_true rfl) (fun q9 H9 ce9 _ _ g1 g2 g3 => bb_leave hout hlocks g1 g2 g3 (Nat.le_refl _) (Nat.le_refl _))
  refine bb_cSv (As := [.int (nI m0)]) (rest := []) ⟨hx, hb, hml, hown, hts⟩ (k_requireBallot l m0 hm0) (cwS 1 hts gX0_can_X0_requireBallot rfl rfl rfl (by decide +kernel) ⟨Nat.le_of_ble_eq_true rfl, Nat.le_of_ble_eq_true rfl⟩) rfl hl.1 rfl (Nat.le_of_ble_eq_true rfl) dX0_can_1 (Nat.zero_le _) (Nat.zero_le _) ?_
  refine lv_iload_n hx hb dX0_can_4 rfl (lv_at hl 2 rfl) ?_
  rcases bb_out_or x1 (N := 10) (by decide) with ho | ⟨m1, hm1, rfl⟩
  · exact bb_cSt (As := [.int x1]) (rest := []) ⟨hx, hb, hml, hown, hts⟩ (t_requireValue l htr Bd x1 ho) (cwS 1 hts gX0_can_X0_requireValue rfl rfl rfl (by decide +kernel) ⟨Nat.le_of_ble_eq_true rfl, Nat.le_of_ble_eq_true rfl⟩) ⟨bb_TSb, fun U9 hU9 hW9 => ⟨rfl, hZ.mv hW9 (fun _ _ => by rw [hU9])⟩⟩ rfl hl.1 rfl (Nat.le_of_ble_eq_true rfl) dX0_can_5 (Nat.le_of_ble_eq_true rfl) (Nat.le_of_ble_eq_true rfl) (fun q9 H9 ce9 _ _ g1 g2 g3 => bb_leave hout hlocks g1 g2 g3 (Nat.le_refl _) (Nat.le_refl _))
  exact absurd hbad (by rw [bb_out_no hm0 (by decide), bb_out_no hm1 (by decide)]; decide)

set_option maxHeartbeats 4000000 in
set_option maxRecDepth 100000 in
theorem t_safe1 (l : Launch) (htr : l.stackTraces = false) (Bd : Nat) (dC : Nat → ClassId) (dI : Nat → Nat → Nat) (cA : ClassId) (h0 a0 a1 a2 a3 : Nat) (w pr vo vf : Nat → Int32) (k : Int32) (x0 x1 : Int32) (hbad : (bb_out x0 (nI 31) || bb_out x1 (nI 10)) = true) : bb_MT l yX0_safe wsX0_safe ({ frames := 7, cells := 1, slots := 6, locals := 130 }) (bb_Pt [.ref h0, .int x0, .int x1] (dC, dI) vwCl (bb_C h0 a0 a1 a2 a3 cA w pr vo vf k) [(cA, .int)] Bd) NSE := by
  refine bb_MT_of (cc := cX0_safe) (maxL := 3) (ret := some .boolean) (by decide) rfl ?_
  intro p e s m args below meth c s₁ B hml hv
  obtain ⟨rfl, ⟨hP, hK⟩, hZ⟩ := hv
  have hx := B.exec
  have hb := B.bytes
  have hts := atoms_spec (ws := wsX0_safe) B.pre
  have hout : c.exceptionTable.toList = [] := bb_noH (B.noHandlers (hts _ List.mem_cons_self))
  have hown : s.vm.findClass RX0 = some m.cls := findClass_of_methodNamed B.named
  have hlocks := B.notSynchronized
  have hl := lv_entry ([.ref h0, .int x0, .int x1]) (n := 3) (Nat.le_of_ble_eq_true rfl)
  rw [lg_entry_eq]
  generalize (lg_sl ([.ref h0, .int x0, .int x1]) ++ List.replicate (3 - (lg_sl ([.ref h0, .int x0, .int x1])).length) Slot.unset).toArray = ls at hl ⊢
  have hl : lv_has ls 3 [(0, .ref h0), (1, .int x0), (2, .int x1)] := hl
  refine lv_iload_n hx hb dX0_safe_0 rfl (lv_at hl 1 rfl) ?_
  rcases bb_out_or x0 (N := 31) (by decide) with ho | ⟨m0, hm0, rfl⟩
  · exact bb_cSt (As := [.int x0]) (rest := []) ⟨hx, hb, hml, hown, hts⟩ (t_requireBallot l htr Bd x0 ho) (cwS 1 hts gX0_safe_X0_requireBallot rfl rfl rfl (by decide +kernel) ⟨Nat.le_of_ble_eq_true rfl, Nat.le_of_ble_eq_true rfl⟩) ⟨bb_TSb, fun U9 hU9 hW9 => ⟨rfl, hZ.mv hW9 (fun _ _ => by rw [hU9])⟩⟩ rfl hl.1 rfl (Nat.le_of_ble_eq_true rfl) dX0_safe_1 (Nat.le_of_ble_eq_true rfl) (Nat.le_of_ble_eq_true rfl) (fun q9 H9 ce9 _ _ g1 g2 g3 => bb_leave hout hlocks g1 g2 g3 (Nat.le_refl _) (Nat.le_refl _))
  refine bb_cSv (As := [.int (nI m0)]) (rest := []) ⟨hx, hb, hml, hown, hts⟩ (k_requireBallot l m0 hm0) (cwS 1 hts gX0_safe_X0_requireBallot rfl rfl rfl (by decide +kernel) ⟨Nat.le_of_ble_eq_true rfl, Nat.le_of_ble_eq_true rfl⟩) rfl hl.1 rfl (Nat.le_of_ble_eq_true rfl) dX0_safe_1 (Nat.zero_le _) (Nat.zero_le _) ?_
  refine lv_iload_n hx hb dX0_safe_4 rfl (lv_at hl 2 rfl) ?_
  rcases bb_out_or x1 (N := 10) (by decide) with ho | ⟨m1, hm1, rfl⟩
  · exact bb_cSt (As := [.int x1]) (rest := []) ⟨hx, hb, hml, hown, hts⟩ (t_requireValue l htr Bd x1 ho) (cwS 1 hts gX0_safe_X0_requireValue rfl rfl rfl (by decide +kernel) ⟨Nat.le_of_ble_eq_true rfl, Nat.le_of_ble_eq_true rfl⟩) ⟨bb_TSb, fun U9 hU9 hW9 => ⟨rfl, hZ.mv hW9 (fun _ _ => by rw [hU9])⟩⟩ rfl hl.1 rfl (Nat.le_of_ble_eq_true rfl) dX0_safe_5 (Nat.le_of_ble_eq_true rfl) (Nat.le_of_ble_eq_true rfl) (fun q9 H9 ce9 _ _ g1 g2 g3 => bb_leave hout hlocks g1 g2 g3 (Nat.le_refl _) (Nat.le_refl _))
  exact absurd hbad (by rw [bb_out_no hm0 (by decide), bb_out_no hm1 (by decide)]; decide)

set_option maxHeartbeats 4000000 in
set_option maxRecDepth 100000 in
theorem t_free1 (l : Launch) (htr : l.stackTraces = false) (Bd : Nat) (dC : Nat → ClassId) (dI : Nat → Nat → Nat) (cA : ClassId) (h0 a0 a1 a2 a3 : Nat) (w pr vo vf : Nat → Int32) (k : Int32) (x0 : Int32) (hbad : bb_out x0 (nI 31) = true) : bb_MT l yX0_free wsX0_free ({ frames := 7, cells := 1, slots := 6, locals := 130 }) (bb_Pt [.ref h0, .int x0] (dC, dI) vwCl (bb_C h0 a0 a1 a2 a3 cA w pr vo vf k) [(cA, .int)] Bd) NSE := by
  refine bb_MT_of (cc := cX0_free) (maxL := 4) (ret := some .int) (by decide) rfl ?_
  intro p e s m args below meth c s₁ B hml hv
  obtain ⟨rfl, ⟨hP, hK⟩, hZ⟩ := hv
  have hx := B.exec
  have hb := B.bytes
  have hts := atoms_spec (ws := wsX0_free) B.pre
  have hout : c.exceptionTable.toList = [] := bb_noH (B.noHandlers (hts _ List.mem_cons_self))
  have hown : s.vm.findClass RX0 = some m.cls := findClass_of_methodNamed B.named
  have hlocks := B.notSynchronized
  have hl := lv_entry ([.ref h0, .int x0]) (n := 4) (Nat.le_of_ble_eq_true rfl)
  rw [lg_entry_eq]
  generalize (lg_sl ([.ref h0, .int x0]) ++ List.replicate (4 - (lg_sl ([.ref h0, .int x0])).length) Slot.unset).toArray = ls at hl ⊢
  have hl : lv_has ls 4 [(0, .ref h0), (1, .int x0)] := hl
  refine lv_iload_n hx hb dX0_free_0 rfl (lv_at hl 1 rfl) ?_
  exact bb_cSt (As := [.int x0]) (rest := []) ⟨hx, hb, hml, hown, hts⟩ (t_requireBallot l htr Bd x0 hbad) (cwS 1 hts gX0_free_X0_requireBallot rfl rfl rfl (by decide +kernel) ⟨Nat.le_of_ble_eq_true rfl, Nat.le_of_ble_eq_true rfl⟩) ⟨bb_TSb, fun U9 hU9 hW9 => ⟨rfl, hZ.mv hW9 (fun _ _ => by rw [hU9])⟩⟩ rfl hl.1 rfl (Nat.le_of_ble_eq_true rfl) dX0_free_1 (Nat.le_of_ble_eq_true rfl) (Nat.le_of_ble_eq_true rfl) (fun q9 H9 ce9 _ _ g1 g2 g3 => bb_leave hout hlocks g1 g2 g3 (Nat.le_refl _) (Nat.le_refl _))

set_option maxHeartbeats 4000000 in
set_option maxRecDepth 100000 in
theorem t_enough1 (l : Launch) (htr : l.stackTraces = false) (Bd : Nat) (dC : Nat → ClassId) (dI : Nat → Nat → Nat) (cA : ClassId) (h0 a0 a1 a2 a3 : Nat) (w pr vo vf : Nat → Int32) (k : Int32) (x0 : Int32) (hbad : bb_out x0 (nI 1024) = true) : bb_MT l yX0_enough wsX0_enough ({ frames := 7, cells := 1, slots := 6, locals := 130 }) (bb_Pt [.ref h0, .int x0] (dC, dI) vwCl (bb_C h0 a0 a1 a2 a3 cA w pr vo vf k) [(cA, .int)] Bd) NSE := by
  refine bb_MT_of (cc := cX0_enough) (maxL := 2) (ret := some .boolean) (by decide) rfl ?_
  intro p e s m args below meth c s₁ B hml hv
  obtain ⟨rfl, ⟨hP, hK⟩, hZ⟩ := hv
  have hx := B.exec
  have hb := B.bytes
  have hts := atoms_spec (ws := wsX0_enough) B.pre
  have hout : c.exceptionTable.toList = [] := bb_noH (B.noHandlers (hts _ List.mem_cons_self))
  have hown : s.vm.findClass RX0 = some m.cls := findClass_of_methodNamed B.named
  have hlocks := B.notSynchronized
  have hl := lv_entry ([.ref h0, .int x0]) (n := 2) (Nat.le_of_ble_eq_true rfl)
  rw [lg_entry_eq]
  generalize (lg_sl ([.ref h0, .int x0]) ++ List.replicate (2 - (lg_sl ([.ref h0, .int x0])).length) Slot.unset).toArray = ls at hl ⊢
  have hl : lv_has ls 2 [(0, .ref h0), (1, .int x0)] := hl
  refine lv_iload_n hx hb dX0_enough_0 rfl (lv_at hl 1 rfl) ?_
  exact bb_cSt (As := [.int x0]) (rest := []) ⟨hx, hb, hml, hown, hts⟩ (t_requireSet l htr Bd x0 hbad) (cwS 1 hts gX0_enough_X0_requireSet rfl rfl rfl (by decide +kernel) ⟨Nat.le_of_ble_eq_true rfl, Nat.le_of_ble_eq_true rfl⟩) ⟨bb_TSb, fun U9 hU9 hW9 => ⟨rfl, hZ.mv hW9 (fun _ _ => by rw [hU9])⟩⟩ rfl hl.1 rfl (Nat.le_of_ble_eq_true rfl) dX0_enough_1 (Nat.le_of_ble_eq_true rfl) (Nat.le_of_ble_eq_true rfl) (fun q9 H9 ce9 _ _ g1 g2 g3 => bb_leave hout hlocks g1 g2 g3 (Nat.le_refl _) (Nat.le_refl _))

set_option maxHeartbeats 4000000 in
set_option maxRecDepth 100000 in
theorem t_blocks1 (l : Launch) (htr : l.stackTraces = false) (Bd : Nat) (dC : Nat → ClassId) (dI : Nat → Nat → Nat) (cA : ClassId) (h0 a0 a1 a2 a3 : Nat) (w pr vo vf : Nat → Int32) (k : Int32) (x0 : Int32) (hbad : bb_out x0 (nI 1024) = true) : bb_MT l yX0_blocks wsX0_blocks ({ frames := 7, cells := 1, slots := 6, locals := 130 }) (bb_Pt [.ref h0, .int x0] (dC, dI) vwCl (bb_C h0 a0 a1 a2 a3 cA w pr vo vf k) [(cA, .int)] Bd) NSE := by
  refine bb_MT_of (cc := cX0_blocks) (maxL := 2) (ret := some .boolean) (by decide) rfl ?_
  intro p e s m args below meth c s₁ B hml hv
  obtain ⟨rfl, ⟨hP, hK⟩, hZ⟩ := hv
  have hx := B.exec
  have hb := B.bytes
  have hts := atoms_spec (ws := wsX0_blocks) B.pre
  have hout : c.exceptionTable.toList = [] := bb_noH (B.noHandlers (hts _ List.mem_cons_self))
  have hown : s.vm.findClass RX0 = some m.cls := findClass_of_methodNamed B.named
  have hlocks := B.notSynchronized
  have hl := lv_entry ([.ref h0, .int x0]) (n := 2) (Nat.le_of_ble_eq_true rfl)
  rw [lg_entry_eq]
  generalize (lg_sl ([.ref h0, .int x0]) ++ List.replicate (2 - (lg_sl ([.ref h0, .int x0])).length) Slot.unset).toArray = ls at hl ⊢
  have hl : lv_has ls 2 [(0, .ref h0), (1, .int x0)] := hl
  refine lv_iload_n hx hb dX0_blocks_0 rfl (lv_at hl 1 rfl) ?_
  exact bb_cSt (As := [.int x0]) (rest := []) ⟨hx, hb, hml, hown, hts⟩ (t_requireSet l htr Bd x0 hbad) (cwS 1 hts gX0_blocks_X0_requireSet rfl rfl rfl (by decide +kernel) ⟨Nat.le_of_ble_eq_true rfl, Nat.le_of_ble_eq_true rfl⟩) ⟨bb_TSb, fun U9 hU9 hW9 => ⟨rfl, hZ.mv hW9 (fun _ _ => by rw [hU9])⟩⟩ rfl hl.1 rfl (Nat.le_of_ble_eq_true rfl) dX0_blocks_1 (Nat.le_of_ble_eq_true rfl) (Nat.le_of_ble_eq_true rfl) (fun q9 H9 ce9 _ _ g1 g2 g3 => bb_leave hout hlocks g1 g2 g3 (Nat.le_refl _) (Nat.le_refl _))

set_option maxHeartbeats 4000000 in
set_option maxRecDepth 100000 in
theorem t_about1 (l : Launch) (htr : l.stackTraces = false) (Bd : Nat) (dC : Nat → ClassId) (dI : Nat → Nat → Nat) (cA : ClassId) (h0 a0 a1 a2 a3 : Nat) (w pr vo vf : Nat → Int32) (k : Int32) (x0 x1 : Int32) (hbad : bb_out x0 (nI 10) = true) : bb_MT l yX0_about wsX0_about ({ frames := 7, cells := 1, slots := 6, locals := 130 }) (bb_Pt [.ref h0, .int x0, .int x1] (dC, dI) vwCl (bb_C h0 a0 a1 a2 a3 cA w pr vo vf k) [(cA, .int)] Bd) NSE := by
  refine bb_MT_of (cc := cX0_about) (maxL := 3) (ret := some .int) (by decide) rfl ?_
  intro p e s m args below meth c s₁ B hml hv
  obtain ⟨rfl, ⟨hP, hK⟩, hZ⟩ := hv
  have hx := B.exec
  have hb := B.bytes
  have hts := atoms_spec (ws := wsX0_about) B.pre
  have hout : c.exceptionTable.toList = [] := bb_noH (B.noHandlers (hts _ List.mem_cons_self))
  have hown : s.vm.findClass RX0 = some m.cls := findClass_of_methodNamed B.named
  have hlocks := B.notSynchronized
  have hl := lv_entry ([.ref h0, .int x0, .int x1]) (n := 3) (Nat.le_of_ble_eq_true rfl)
  rw [lg_entry_eq]
  generalize (lg_sl ([.ref h0, .int x0, .int x1]) ++ List.replicate (3 - (lg_sl ([.ref h0, .int x0, .int x1])).length) Slot.unset).toArray = ls at hl ⊢
  have hl : lv_has ls 3 [(0, .ref h0), (1, .int x0), (2, .int x1)] := hl
  refine lv_iload_n hx hb dX0_about_0 rfl (lv_at hl 1 rfl) ?_
  exact bb_cSt (As := [.int x0]) (rest := []) ⟨hx, hb, hml, hown, hts⟩ (t_requireNode l htr Bd x0 hbad) (cwS 1 hts gX0_about_X0_requireNode rfl rfl rfl (by decide +kernel) ⟨Nat.le_of_ble_eq_true rfl, Nat.le_of_ble_eq_true rfl⟩) ⟨bb_TSb, fun U9 hU9 hW9 => ⟨rfl, hZ.mv hW9 (fun _ _ => by rw [hU9])⟩⟩ rfl hl.1 rfl (Nat.le_of_ble_eq_true rfl) dX0_about_1 (Nat.le_of_ble_eq_true rfl) (Nat.le_of_ble_eq_true rfl) (fun q9 H9 ce9 _ _ g1 g2 g3 => bb_leave hout hlocks g1 g2 g3 (Nat.le_refl _) (Nat.le_refl _))

set_option maxHeartbeats 4000000 in
set_option maxRecDepth 100000 in
theorem t_weight2 (l : Launch) (htr : l.stackTraces = false) (Bd : Nat) (dC : Nat → ClassId) (dI : Nat → Nat → Nat) (cA : ClassId) (h0 a0 a1 a2 a3 : Nat) (w pr vo vf : Nat → Int32) (k : Int32) (n : Nat) (hn0 : n < 10) (x1 : Int32) (hbad : x1 < 0 ∨ ¬ x1 ≤ nI 50) : bb_MT l yX0_weight wsX0_weight ({ frames := 7, cells := 1, slots := 6, locals := 130 }) (bb_Pt [.ref h0, .int (nI n), .int x1] (dC, dI) vwCl (bb_C h0 a0 a1 a2 a3 cA w pr vo vf k) [(cA, .int)] Bd) IAE := by
  refine bb_MT_of (cc := cX0_weight) (maxL := 4) (ret := some .int) (by decide) rfl ?_
  intro p e s m args below meth c s₁ B hml hv
  obtain ⟨rfl, ⟨hP, hK⟩, hZ⟩ := hv
  have hx := B.exec
  have hb := B.bytes
  have hts := atoms_spec (ws := wsX0_weight) B.pre
  have hout : c.exceptionTable.toList = [] := bb_noH (B.noHandlers (hts _ List.mem_cons_self))
  have hown : s.vm.findClass RX0 = some m.cls := findClass_of_methodNamed B.named
  have hlocks := B.notSynchronized
  have hl := lv_entry ([.ref h0, .int (nI n), .int x1]) (n := 4) (Nat.le_of_ble_eq_true rfl)
  rw [lg_entry_eq]
  generalize (lg_sl ([.ref h0, .int (nI n), .int x1]) ++ List.replicate (4 - (lg_sl ([.ref h0, .int (nI n), .int x1])).length) Slot.unset).toArray = ls at hl ⊢
  have hl : lv_has ls 4 [(0, .ref h0), (1, .int (nI n)), (2, .int x1)] := hl
  refine lv_iload_n hx hb dX0_weight_0 rfl (lv_at hl 1 rfl) ?_
  refine bb_cSv (As := [.int (nI n)]) (rest := []) ⟨hx, hb, hml, hown, hts⟩ (k_requireNode l n (by omega)) (cwS 1 hts gX0_weight_X0_requireNode rfl rfl rfl (by decide +kernel) ⟨Nat.le_of_ble_eq_true rfl, Nat.le_of_ble_eq_true rfl⟩) rfl hl.1 rfl (Nat.le_of_ble_eq_true rfl) dX0_weight_1 (Nat.zero_le _) (Nat.zero_le _) ?_
  refine lv_iload_n hx hb dX0_weight_4 rfl (lv_at hl 2 rfl) ?_
  refine lv_if_lt (tgt := 14) hx hb dX0_weight_5 rfl (fun h5 => ?_) (fun h5 => ?_)
  · skip
    exact bb_throwS (k := 38) (tx := "no such weight") bb_eA hx hb htr hown (fun w9 h9 => hts w9 (List.mem_cons_of_mem _ h9)) hZ (by decide +kernel) (hl.1.trans hml.symm) dX0_weight_14 dX0_weight_17 dX0_weight_18 dX0_weight_20 dX0_weight_23 hout hlocks (Nat.le_of_ble_eq_true rfl) (Nat.le_of_ble_eq_true rfl) (Nat.le_of_ble_eq_true rfl) (Nat.le_of_ble_eq_true rfl)
  · skip
    refine lv_iload_n hx hb dX0_weight_8 rfl (lv_at hl 2 rfl) ?_
    refine lv_bipush (v := nI 50) hx hb dX0_weight_9 (by decide) ?_
    refine lv_icmp_le (tgt := 24) hx hb dX0_weight_11 rfl (fun h11 => (hbad.elim h5 (fun q9 => q9 h11)).elim) (fun h11 => ?_)
    have q11 := bb_lt h11
    exact bb_throwS (k := 38) (tx := "no such weight") bb_eA hx hb htr hown (fun w9 h9 => hts w9 (List.mem_cons_of_mem _ h9)) hZ (by decide +kernel) (hl.1.trans hml.symm) dX0_weight_14 dX0_weight_17 dX0_weight_18 dX0_weight_20 dX0_weight_23 hout hlocks (Nat.le_of_ble_eq_true rfl) (Nat.le_of_ble_eq_true rfl) (Nat.le_of_ble_eq_true rfl) (Nat.le_of_ble_eq_true rfl)

set_option maxHeartbeats 4000000 in
set_option maxRecDepth 100000 in
theorem t_need1 (l : Launch) (htr : l.stackTraces = false) (Bd : Nat) (dC : Nat → ClassId) (dI : Nat → Nat → Nat) (cA : ClassId) (h0 a0 a1 a2 a3 : Nat) (w pr vo vf : Nat → Int32) (k : Int32) (x0 : Int32) (hbad : x0 < nI 1 ∨ ¬ x0 ≤ nI 500) : bb_MT l yX0_need wsX0_need ({ frames := 7, cells := 1, slots := 6, locals := 130 }) (bb_Pt [.ref h0, .int x0] (dC, dI) vwCl (bb_C h0 a0 a1 a2 a3 cA w pr vo vf k) [(cA, .int)] Bd) IAE := by
  refine bb_MT_of (cc := cX0_need) (maxL := 3) (ret := some .int) (by decide) rfl ?_
  intro p e s m args below meth c s₁ B hml hv
  obtain ⟨rfl, ⟨hP, hK⟩, hZ⟩ := hv
  have hx := B.exec
  have hb := B.bytes
  have hts := atoms_spec (ws := wsX0_need) B.pre
  have hout : c.exceptionTable.toList = [] := bb_noH (B.noHandlers (hts _ List.mem_cons_self))
  have hown : s.vm.findClass RX0 = some m.cls := findClass_of_methodNamed B.named
  have hlocks := B.notSynchronized
  have hl := lv_entry ([.ref h0, .int x0]) (n := 3) (Nat.le_of_ble_eq_true rfl)
  rw [lg_entry_eq]
  generalize (lg_sl ([.ref h0, .int x0]) ++ List.replicate (3 - (lg_sl ([.ref h0, .int x0])).length) Slot.unset).toArray = ls at hl ⊢
  have hl : lv_has ls 3 [(0, .ref h0), (1, .int x0)] := hl
  refine lv_iload_n hx hb dX0_need_0 rfl (lv_at hl 1 rfl) ?_
  refine lv_iconst (v := nI 1) hx hb dX0_need_1 (by decide) ?_
  refine lv_icmp_lt (tgt := 12) hx hb dX0_need_2 rfl (fun h2 => ?_) (fun h2 => ?_)
  · skip
    have q2 := bb_nle h2
    exact bb_throwS (k := 43) (tx := "no such need") bb_eA hx hb htr hown (fun w9 h9 => hts w9 (List.mem_cons_of_mem _ h9)) hZ (by decide +kernel) (hl.1.trans hml.symm) dX0_need_12 dX0_need_15 dX0_need_16 dX0_need_18 dX0_need_21 hout hlocks (Nat.le_of_ble_eq_true rfl) (Nat.le_of_ble_eq_true rfl) (Nat.le_of_ble_eq_true rfl) (Nat.le_of_ble_eq_true rfl)
  · skip
    have q2 := bb_le h2
    refine lv_iload_n hx hb dX0_need_5 rfl (lv_at hl 1 rfl) ?_
    refine lv_sipush (v := nI 500) hx hb dX0_need_6 (by decide) ?_
    refine lv_icmp_le (tgt := 22) hx hb dX0_need_9 rfl (fun h9 => (hbad.elim h2 (fun q9 => q9 h9)).elim) (fun h9 => ?_)
    have q9 := bb_lt h9
    exact bb_throwS (k := 43) (tx := "no such need") bb_eA hx hb htr hown (fun w9 h9 => hts w9 (List.mem_cons_of_mem _ h9)) hZ (by decide +kernel) (hl.1.trans hml.symm) dX0_need_12 dX0_need_15 dX0_need_16 dX0_need_18 dX0_need_21 hout hlocks (Nat.le_of_ble_eq_true rfl) (Nat.le_of_ble_eq_true rfl) (Nat.le_of_ble_eq_true rfl) (Nat.le_of_ble_eq_true rfl)

set_option maxHeartbeats 4000000 in
set_option maxRecDepth 100000 in
theorem t_promise2 (l : Launch) (htr : l.stackTraces = false) (Bd : Nat) (dC : Nat → ClassId) (dI : Nat → Nat → Nat) (cA : ClassId) (h0 a0 a1 a2 a3 : Nat) (w pr vo vf : Nat → Int32) (k : Int32) (n : Nat) (hn0 : n < 10) (b : Nat) (hb0 : b < 31) (hp : ¬ pr n ≤ nI b) : bb_MT l yX0_promise wsX0_promise ({ frames := 7, cells := 1, slots := 6, locals := 130 }) (bb_Pt [.ref h0, .int (nI n), .int (nI b)] (dC, dI) vwCl (bb_C h0 a0 a1 a2 a3 cA w pr vo vf k) [(cA, .int)] Bd) ISE := by
  refine bb_MT_of (cc := cX0_promise) (maxL := 4) (ret := some .int) (by decide) rfl ?_
  intro p e s m args below meth c s₁ B hml hv
  obtain ⟨rfl, ⟨hP, hK⟩, hZ⟩ := hv
  have hx := B.exec
  have hb := B.bytes
  have hts := atoms_spec (ws := wsX0_promise) B.pre
  have hout : c.exceptionTable.toList = [] := bb_noH (B.noHandlers (hts _ List.mem_cons_self))
  have hown : s.vm.findClass RX0 = some m.cls := findClass_of_methodNamed B.named
  have hlocks := B.notSynchronized
  have hin : ∀ w9 ∈ u_ws RX0 TX0 5, w9 ∈ wsX0_promise := fun w9 h9 => List.mem_cons_of_mem _ (bb_inX0 w9 h9)
  have hf13 := hts _ (List.mem_cons_of_mem _ bb_fX0_13)
  have hl := lv_entry ([.ref h0, .int (nI n), .int (nI b)]) (n := 4) (Nat.le_of_ble_eq_true rfl)
  rw [lg_entry_eq]
  generalize (lg_sl ([.ref h0, .int (nI n), .int (nI b)]) ++ List.replicate (4 - (lg_sl ([.ref h0, .int (nI n), .int (nI b)])).length) Slot.unset).toArray = ls at hl ⊢
  have hl : lv_has ls 4 [(0, .ref h0), (1, .int (nI n)), (2, .int (nI b))] := hl
  refine lv_iload_n hx hb dX0_promise_0 rfl (lv_at hl 1 rfl) ?_
  refine bb_cSv (As := [.int (nI n)]) (rest := []) ⟨hx, hb, hml, hown, hts⟩ (k_requireNode l n (by omega)) (cwS 1 hts gX0_promise_X0_requireNode rfl rfl rfl (by decide +kernel) ⟨Nat.le_of_ble_eq_true rfl, Nat.le_of_ble_eq_true rfl⟩) rfl hl.1 rfl (Nat.le_of_ble_eq_true rfl) dX0_promise_1 (Nat.zero_le _) (Nat.zero_le _) ?_
  refine lv_iload_n hx hb dX0_promise_4 rfl (lv_at hl 2 rfl) ?_
  refine bb_cSv (As := [.int (nI b)]) (rest := []) ⟨hx, hb, hml, hown, hts⟩ (k_requireBallot l b (by omega)) (cwS 1 hts gX0_promise_X0_requireBallot rfl rfl rfl (by decide +kernel) ⟨Nat.le_of_ble_eq_true rfl, Nat.le_of_ble_eq_true rfl⟩) rfl hl.1 rfl (Nat.le_of_ble_eq_true rfl) dX0_promise_5 (Nat.zero_le _) (Nat.zero_le _) ?_
  refine lv_aload_n hx hb dX0_promise_8 rfl (lv_at hl 0 rfl) ?_
  refine va_get (D := (dC, dI)) (ci := 0) (v := .ref a1) (C := RX0) (T := TX0) (N := 5) hx hb hts hin hown hK hP 0 rfl rfl 1 (by decide) hf13 (fun _ h9 => h9) rfl dX0_promise_9 ?_
  refine lv_iload_n hx hb dX0_promise_12 rfl (lv_at hl 1 rfl) ?_
  refine bb_ald hx hb hK hP 2 0 rfl rfl n (by omega) (by decide) dX0_promise_13 ?_
  refine lv_istore_n (lv' := [(3, .int (pr n)), (0, .ref h0), (1, .int (nI n)), (2, .int (nI b))]) hx hb dX0_promise_14 rfl hl (by decide) rfl (fun ls hl => ?_)
  refine lv_iload_n hx hb dX0_promise_15 rfl (lv_at hl 0 rfl) ?_
  refine lv_iload_n hx hb dX0_promise_16 rfl (lv_at hl 3 rfl) ?_
  refine lv_icmp_le (tgt := 30) hx hb dX0_promise_17 rfl (fun h17 => absurd h17 hp) (fun h17 => ?_)
  have q17 := bb_lt h17
  exact bb_throwS (k := 50) (tx := "a higher ballot is promised") bb_eI hx hb htr hown (fun w9 h9 => hts w9 (List.mem_cons_of_mem _ h9)) hZ (by decide +kernel) (hl.1.trans hml.symm) dX0_promise_20 dX0_promise_23 dX0_promise_24 dX0_promise_26 dX0_promise_29 hout hlocks (Nat.le_of_ble_eq_true rfl) (Nat.le_of_ble_eq_true rfl) (Nat.le_of_ble_eq_true rfl) (Nat.le_of_ble_eq_true rfl)

set_option maxHeartbeats 4000000 in
set_option maxRecDepth 100000 in
theorem t_vote2 (l : Launch) (htr : l.stackTraces = false) (Bd : Nat) (dC : Nat → ClassId) (dI : Nat → Nat → Nat) (cA : ClassId) (h0 a0 a1 a2 a3 : Nat) (w pr vo vf : Nat → Int32) (k : Int32) (n : Nat) (hn0 : n < 10) (b : Nat) (hb0 : b < 31) (v : Nat) (hv0 : v < 10) (hb2 : (!bb_op pr vo b n || !bb_only vf b (nI v)) = true) : bb_MT l yX0_vote wsX0_vote ({ frames := 7, cells := 1, slots := 6, locals := 130 }) (bb_Pt [.ref h0, .int (nI n), .int (nI b), .int (nI v)] (dC, dI) vwCl (bb_C h0 a0 a1 a2 a3 cA w pr vo vf k) [(cA, .int)] Bd) ISE := by
  refine bb_MT_of (cc := cX0_vote) (maxL := 4) (ret := some .int) (by decide) rfl ?_
  intro p e s m args below meth c s₁ B hml hv
  obtain ⟨rfl, ⟨hP, hK⟩, hZ⟩ := hv
  have hx := B.exec
  have hb := B.bytes
  have hts := atoms_spec (ws := wsX0_vote) B.pre
  have hout : c.exceptionTable.toList = [] := bb_noH (B.noHandlers (hts _ List.mem_cons_self))
  have hown : s.vm.findClass RX0 = some m.cls := findClass_of_methodNamed B.named
  have hlocks := B.notSynchronized
  have hl := lv_entry ([.ref h0, .int (nI n), .int (nI b), .int (nI v)]) (n := 4) (Nat.le_of_ble_eq_true rfl)
  rw [lg_entry_eq]
  generalize (lg_sl ([.ref h0, .int (nI n), .int (nI b), .int (nI v)]) ++ List.replicate (4 - (lg_sl ([.ref h0, .int (nI n), .int (nI b), .int (nI v)])).length) Slot.unset).toArray = ls at hl ⊢
  have hl : lv_has ls 4 [(0, .ref h0), (1, .int (nI n)), (2, .int (nI b)), (3, .int (nI v))] := hl
  refine lv_iload_n hx hb dX0_vote_0 rfl (lv_at hl 1 rfl) ?_
  refine bb_cSv (As := [.int (nI n)]) (rest := []) ⟨hx, hb, hml, hown, hts⟩ (k_requireNode l n (by omega)) (cwS 1 hts gX0_vote_X0_requireNode rfl rfl rfl (by decide +kernel) ⟨Nat.le_of_ble_eq_true rfl, Nat.le_of_ble_eq_true rfl⟩) rfl hl.1 rfl (Nat.le_of_ble_eq_true rfl) dX0_vote_1 (Nat.zero_le _) (Nat.zero_le _) ?_
  refine lv_iload_n hx hb dX0_vote_4 rfl (lv_at hl 2 rfl) ?_
  refine bb_cSv (As := [.int (nI b)]) (rest := []) ⟨hx, hb, hml, hown, hts⟩ (k_requireBallot l b (by omega)) (cwS 1 hts gX0_vote_X0_requireBallot rfl rfl rfl (by decide +kernel) ⟨Nat.le_of_ble_eq_true rfl, Nat.le_of_ble_eq_true rfl⟩) rfl hl.1 rfl (Nat.le_of_ble_eq_true rfl) dX0_vote_5 (Nat.zero_le _) (Nat.zero_le _) ?_
  refine lv_iload_n hx hb dX0_vote_8 rfl (lv_at hl 3 rfl) ?_
  refine bb_cSv (As := [.int (nI v)]) (rest := []) ⟨hx, hb, hml, hown, hts⟩ (k_requireValue l v (by omega)) (cwS 1 hts gX0_vote_X0_requireValue rfl rfl rfl (by decide +kernel) ⟨Nat.le_of_ble_eq_true rfl, Nat.le_of_ble_eq_true rfl⟩) rfl hl.1 rfl (Nat.le_of_ble_eq_true rfl) dX0_vote_9 (Nat.zero_le _) (Nat.zero_le _) ?_
  refine lv_aload_n hx hb dX0_vote_12 rfl (lv_at hl 0 rfl) ?_
  refine lv_iload_n hx hb dX0_vote_13 rfl (lv_at hl 1 rfl) ?_
  refine lv_iload_n hx hb dX0_vote_14 rfl (lv_at hl 2 rfl) ?_
  refine bb_cV (As := [.int (nI n), .int (nI b)]) (rest := []) (r := bb_I (bb_op pr vo b n)) 0 ⟨hx, hb, hml, hown, hts⟩ (k_isOpen l dC dI cA h0 a0 a1 a2 a3 w pr vo vf k n b (by omega) (by omega)) (cwV 2 hts gX0_vote_X0_isOpen rfl rfl rfl (by decide +kernel) ⟨Nat.le_of_ble_eq_true rfl, Nat.le_of_ble_eq_true rfl⟩) hP hK rfl rfl rfl hl.1 rfl (Nat.le_of_ble_eq_true rfl) dX0_vote_15 (Nat.zero_le _) (Nat.zero_le _) ?_
  refine lv_if_ne (tgt := 31) hx hb dX0_vote_18 rfl (fun h18 => ?_) (fun h18 => ?_)
  · skip
    have q18 := bb_nz h18
    refine lv_aload_n hx hb dX0_vote_31 rfl (lv_at hl 0 rfl) ?_
    refine lv_iload_n hx hb dX0_vote_32 rfl (lv_at hl 2 rfl) ?_
    refine lv_iload_n hx hb dX0_vote_33 rfl (lv_at hl 3 rfl) ?_
    refine bb_cV (As := [.int (nI b), .int (nI v)]) (rest := []) (r := bb_I (bb_only vf b (nI v))) 0 ⟨hx, hb, hml, hown, hts⟩ (k_isOnlyValue l dC dI cA h0 a0 a1 a2 a3 w pr vo vf k b (nI v) (by omega)) (cwV 2 hts gX0_vote_X0_isOnlyValue rfl rfl rfl (by decide +kernel) ⟨Nat.le_of_ble_eq_true rfl, Nat.le_of_ble_eq_true rfl⟩) hP hK rfl rfl rfl hl.1 rfl (Nat.le_of_ble_eq_true rfl) dX0_vote_34 (Nat.zero_le _) (Nat.zero_le _) ?_
    refine lv_if_ne (tgt := 50) hx hb dX0_vote_37 rfl (fun h37 => absurd hb2 (by rw [q18, bb_nz h37]; decide)) (fun h37 => ?_)
    have q37 := bb_I_0.mp h37
    exact bb_throwS (k := 65) (tx := "another value has a vote there") bb_eI hx hb htr hown (fun w9 h9 => hts w9 (List.mem_cons_of_mem _ h9)) hZ (by decide +kernel) (hl.1.trans hml.symm) dX0_vote_40 dX0_vote_43 dX0_vote_44 dX0_vote_46 dX0_vote_49 hout hlocks (Nat.le_of_ble_eq_true rfl) (Nat.le_of_ble_eq_true rfl) (Nat.le_of_ble_eq_true rfl) (Nat.le_of_ble_eq_true rfl)
  · skip
    have q18 := bb_I_0.mp h18
    exact bb_throwS (k := 60) (tx := "the node is not open there") bb_eI hx hb htr hown (fun w9 h9 => hts w9 (List.mem_cons_of_mem _ h9)) hZ (by decide +kernel) (hl.1.trans hml.symm) dX0_vote_21 dX0_vote_24 dX0_vote_25 dX0_vote_27 dX0_vote_30 hout hlocks (Nat.le_of_ble_eq_true rfl) (Nat.le_of_ble_eq_true rfl) (Nat.le_of_ble_eq_true rfl) (Nat.le_of_ble_eq_true rfl)

set_option maxHeartbeats 4000000 in
set_option maxRecDepth 100000 in
theorem t_ask2 (l : Launch) (htr : l.stackTraces = false) (Bd : Nat) (dC : Nat → ClassId) (dI : Nat → Nat → Nat) (cA : ClassId) (h0 a0 a1 a2 a3 : Nat) (w pr vo vf : Nat → Int32) (k : Int32) (a : Nat) (ha0 : a < 1024) (b : Nat) (hb0 : b < 31) (hb2 : (!bb_en w k (nI a) || !decide (bb_hm pr (nI a) 10 ≤ nI b)) = true) : bb_MT l yX0_ask wsX0_ask ({ frames := 7, cells := 1, slots := 6, locals := 130 }) (bb_Pt [.ref h0, .int (nI a), .int (nI b)] (dC, dI) vwCl (bb_C h0 a0 a1 a2 a3 cA w pr vo vf k) [(cA, .int)] Bd) ISE := by
  refine bb_MT_of (cc := cX0_ask) (maxL := 4) (ret := some .int) (by decide) rfl ?_
  intro p e s m args below meth c s₁ B hml hv
  obtain ⟨rfl, ⟨hP, hK⟩, hZ⟩ := hv
  have hx := B.exec
  have hb := B.bytes
  have hts := atoms_spec (ws := wsX0_ask) B.pre
  have hout : c.exceptionTable.toList = [] := bb_noH (B.noHandlers (hts _ List.mem_cons_self))
  have hown : s.vm.findClass RX0 = some m.cls := findClass_of_methodNamed B.named
  have hlocks := B.notSynchronized
  have hl := lv_entry ([.ref h0, .int (nI a), .int (nI b)]) (n := 4) (Nat.le_of_ble_eq_true rfl)
  rw [lg_entry_eq]
  generalize (lg_sl ([.ref h0, .int (nI a), .int (nI b)]) ++ List.replicate (4 - (lg_sl ([.ref h0, .int (nI a), .int (nI b)])).length) Slot.unset).toArray = ls at hl ⊢
  have hl : lv_has ls 4 [(0, .ref h0), (1, .int (nI a)), (2, .int (nI b))] := hl
  refine lv_iload_n hx hb dX0_ask_0 rfl (lv_at hl 1 rfl) ?_
  refine bb_cSv (As := [.int (nI a)]) (rest := []) ⟨hx, hb, hml, hown, hts⟩ (k_requireSet l a (by omega)) (cwS 1 hts gX0_ask_X0_requireSet rfl rfl rfl (by decide +kernel) ⟨Nat.le_of_ble_eq_true rfl, Nat.le_of_ble_eq_true rfl⟩) rfl hl.1 rfl (Nat.le_of_ble_eq_true rfl) dX0_ask_1 (Nat.zero_le _) (Nat.zero_le _) ?_
  refine lv_iload_n hx hb dX0_ask_4 rfl (lv_at hl 2 rfl) ?_
  refine bb_cSv (As := [.int (nI b)]) (rest := []) ⟨hx, hb, hml, hown, hts⟩ (k_requireBallot l b (by omega)) (cwS 1 hts gX0_ask_X0_requireBallot rfl rfl rfl (by decide +kernel) ⟨Nat.le_of_ble_eq_true rfl, Nat.le_of_ble_eq_true rfl⟩) rfl hl.1 rfl (Nat.le_of_ble_eq_true rfl) dX0_ask_5 (Nat.zero_le _) (Nat.zero_le _) ?_
  refine lv_aload_n hx hb dX0_ask_8 rfl (lv_at hl 0 rfl) ?_
  refine lv_iload_n hx hb dX0_ask_9 rfl (lv_at hl 1 rfl) ?_
  refine bb_cV (As := [.int (nI a)]) (rest := []) (r := bb_I (bb_en w k (nI a))) 0 ⟨hx, hb, hml, hown, hts⟩ (k_isEnough l dC dI cA h0 a0 a1 a2 a3 w pr vo vf k (nI a)) (cwV 1 hts gX0_ask_X0_isEnough rfl rfl rfl (by decide +kernel) ⟨Nat.le_of_ble_eq_true rfl, Nat.le_of_ble_eq_true rfl⟩) hP hK rfl rfl rfl hl.1 rfl (Nat.le_of_ble_eq_true rfl) dX0_ask_10 (Nat.zero_le _) (Nat.zero_le _) ?_
  refine lv_if_ne (tgt := 26) hx hb dX0_ask_13 rfl (fun h13 => ?_) (fun h13 => ?_)
  · skip
    have q13 := bb_nz h13
    refine lv_aload_n hx hb dX0_ask_26 rfl (lv_at hl 0 rfl) ?_
    refine lv_iload_n hx hb dX0_ask_27 rfl (lv_at hl 1 rfl) ?_
    refine bb_cV (As := [.int (nI a)]) (rest := []) (r := bb_hm pr (nI a) 10) 0 ⟨hx, hb, hml, hown, hts⟩ (k_highestPromise l dC dI cA h0 a0 a1 a2 a3 w pr vo vf k (nI a)) (cwV 1 hts gX0_ask_X0_highestPromise rfl rfl rfl (by decide +kernel) ⟨Nat.le_of_ble_eq_true rfl, Nat.le_of_ble_eq_true rfl⟩) hP hK rfl rfl rfl hl.1 rfl (Nat.le_of_ble_eq_true rfl) dX0_ask_28 (Nat.zero_le _) (Nat.zero_le _) ?_
    refine lv_iload_n hx hb dX0_ask_31 rfl (lv_at hl 2 rfl) ?_
    refine lv_icmp_le (tgt := 45) hx hb dX0_ask_32 rfl (fun h32 => absurd hb2 (by rw [q13, decide_eq_true h32]; decide)) (fun h32 => ?_)
    have q32 := bb_lt h32
    exact bb_throwS (k := 85) (tx := "one has promised a higher ballot") bb_eI hx hb htr hown (fun w9 h9 => hts w9 (List.mem_cons_of_mem _ h9)) hZ (by decide +kernel) (hl.1.trans hml.symm) dX0_ask_35 dX0_ask_38 dX0_ask_39 dX0_ask_41 dX0_ask_44 hout hlocks (Nat.le_of_ble_eq_true rfl) (Nat.le_of_ble_eq_true rfl) (Nat.le_of_ble_eq_true rfl) (Nat.le_of_ble_eq_true rfl)
  · skip
    have q13 := bb_I_0.mp h13
    exact bb_throwS (k := 80) (tx := "the set is not enough") bb_eI hx hb htr hown (fun w9 h9 => hts w9 (List.mem_cons_of_mem _ h9)) hZ (by decide +kernel) (hl.1.trans hml.symm) dX0_ask_16 dX0_ask_19 dX0_ask_20 dX0_ask_22 dX0_ask_25 hout hlocks (Nat.le_of_ble_eq_true rfl) (Nat.le_of_ble_eq_true rfl) (Nat.le_of_ble_eq_true rfl) (Nat.le_of_ble_eq_true rfl)

set_option maxHeartbeats 4000000 in
set_option maxRecDepth 100000 in
theorem t_about2 (l : Launch) (htr : l.stackTraces = false) (Bd : Nat) (dC : Nat → ClassId) (dI : Nat → Nat → Nat) (cA : ClassId) (h0 a0 a1 a2 a3 : Nat) (w pr vo vf : Nat → Int32) (k : Int32) (n : Nat) (hn0 : n < 10) (x1 : Int32) (hbad : x1.toInt < 0 ∨ 3 < x1.toInt) : bb_MT l yX0_about wsX0_about ({ frames := 7, cells := 1, slots := 6, locals := 130 }) (bb_Pt [.ref h0, .int (nI n), .int x1] (dC, dI) vwCl (bb_C h0 a0 a1 a2 a3 cA w pr vo vf k) [(cA, .int)] Bd) IAE := by
  refine bb_MT_of (cc := cX0_about) (maxL := 3) (ret := some .int) (by decide) rfl ?_
  intro p e s m args below meth c s₁ B hml hv
  obtain ⟨rfl, ⟨hP, hK⟩, hZ⟩ := hv
  have hx := B.exec
  have hb := B.bytes
  have hts := atoms_spec (ws := wsX0_about) B.pre
  have hout : c.exceptionTable.toList = [] := bb_noH (B.noHandlers (hts _ List.mem_cons_self))
  have hown : s.vm.findClass RX0 = some m.cls := findClass_of_methodNamed B.named
  have hlocks := B.notSynchronized
  have hl := lv_entry ([.ref h0, .int (nI n), .int x1]) (n := 3) (Nat.le_of_ble_eq_true rfl)
  rw [lg_entry_eq]
  generalize (lg_sl ([.ref h0, .int (nI n), .int x1]) ++ List.replicate (3 - (lg_sl ([.ref h0, .int (nI n), .int x1])).length) Slot.unset).toArray = ls at hl ⊢
  have hl : lv_has ls 3 [(0, .ref h0), (1, .int (nI n)), (2, .int x1)] := hl
  refine lv_iload_n hx hb dX0_about_0 rfl (lv_at hl 1 rfl) ?_
  refine bb_cSv (As := [.int (nI n)]) (rest := []) ⟨hx, hb, hml, hown, hts⟩ (k_requireNode l n (by omega)) (cwS 1 hts gX0_about_X0_requireNode rfl rfl rfl (by decide +kernel) ⟨Nat.le_of_ble_eq_true rfl, Nat.le_of_ble_eq_true rfl⟩) rfl hl.1 rfl (Nat.le_of_ble_eq_true rfl) dX0_about_1 (Nat.zero_le _) (Nat.zero_le _) ?_
  refine lv_iload_n hx hb dX0_about_4 rfl (lv_at hl 2 rfl) ?_
  refine lv_tableOut (tgt := 66) hx hb dX0_about_5 (hbad) rfl ?_
  exact bb_throwS (k := 110) (tx := "no such what") bb_eA hx hb htr hown (fun w9 h9 => hts w9 (List.mem_cons_of_mem _ h9)) hZ (by decide +kernel) (hl.1.trans hml.symm) dX0_about_66 dX0_about_69 dX0_about_70 dX0_about_72 dX0_about_75 hout hlocks (Nat.le_of_ble_eq_true rfl) (Nat.le_of_ble_eq_true rfl) (Nat.le_of_ble_eq_true rfl) (Nat.le_of_ble_eq_true rfl)
