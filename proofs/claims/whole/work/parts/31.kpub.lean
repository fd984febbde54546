set_option maxHeartbeats 4000000 in
set_option maxRecDepth 100000 in
theorem k_requireNode (l : Launch)  (n : Nat) (hn0 : n < 10) : Met l yX0_requireNode wsX0_requireNode ({ frames := 0, cells := 0, slots := 0, locals := 0 }) (va_Pc [.int (nI n)] (fun _ => True)) (bb_QV) 0 0 (fun _ => False) := by
  refine Met.ofW (cc := cX0_requireNode) (maxL := 1) (ret := none) (by decide) rfl ?_
  intro p e s m args below meth c s₁ B hml hv
  obtain ⟨rfl, -⟩ := hv
  have hx := B.exec
  have hb := B.bytes
  have hr := B.returns
  have hts := atoms_spec (ws := wsX0_requireNode) B.pre
  have hown : s.vm.findClass RX0 = some m.cls := findClass_of_methodNamed B.named
  have hlocks := B.notSynchronized
  have hl := lv_entry ([.int (nI n)]) (n := 1) (Nat.le_of_ble_eq_true rfl)
  rw [lg_entry_eq]
  generalize (lg_sl ([.int (nI n)]) ++ List.replicate (1 - (lg_sl ([.int (nI n)])).length) Slot.unset).toArray = ls at hl ⊢
  have hl : lv_has ls 1 [(0, .int (nI n))] := hl
  refine lv_iload_n hx hb dX0_requireNode_0 rfl (lv_at hl 0 rfl) ?_
  refine lv_if_lt (tgt := 10) hx hb dX0_requireNode_1 rfl (fun h1 => absurd h1 (nI_pos (by omega))) (fun h1 => ?_)
  refine lv_iload_n hx hb dX0_requireNode_4 rfl (lv_at hl 0 rfl) ?_
  refine lv_bipush (v := nI 10) hx hb dX0_requireNode_5 (by decide) ?_
  refine lv_icmp_lt (tgt := 20) hx hb dX0_requireNode_7 rfl (fun h7 => ?_) (fun h7 => absurd (nI_lt hn0 (by decide)) h7)
  have q7 := bb_nle h7
  exact W.vret hx hb hr (fun t ht _ => ⟨rfl, ht⟩) (fun _ h => nomatch h) dX0_requireNode_20

set_option maxHeartbeats 4000000 in
set_option maxRecDepth 100000 in
theorem k_requireSet (l : Launch)  (n : Nat) (hn0 : n < 1024) : Met l yX0_requireSet wsX0_requireSet ({ frames := 0, cells := 0, slots := 0, locals := 0 }) (va_Pc [.int (nI n)] (fun _ => True)) (bb_QV) 0 0 (fun _ => False) := by
  refine Met.ofW (cc := cX0_requireSet) (maxL := 1) (ret := none) (by decide) rfl ?_
  intro p e s m args below meth c s₁ B hml hv
  obtain ⟨rfl, -⟩ := hv
  have hx := B.exec
  have hb := B.bytes
  have hr := B.returns
  have hts := atoms_spec (ws := wsX0_requireSet) B.pre
  have hown : s.vm.findClass RX0 = some m.cls := findClass_of_methodNamed B.named
  have hlocks := B.notSynchronized
  have hl := lv_entry ([.int (nI n)]) (n := 1) (Nat.le_of_ble_eq_true rfl)
  rw [lg_entry_eq]
  generalize (lg_sl ([.int (nI n)]) ++ List.replicate (1 - (lg_sl ([.int (nI n)])).length) Slot.unset).toArray = ls at hl ⊢
  have hl : lv_has ls 1 [(0, .int (nI n))] := hl
  refine lv_iload_n hx hb dX0_requireSet_0 rfl (lv_at hl 0 rfl) ?_
  refine lv_if_lt (tgt := 11) hx hb dX0_requireSet_1 rfl (fun h1 => absurd h1 (nI_pos (by omega))) (fun h1 => ?_)
  refine lv_iload_n hx hb dX0_requireSet_4 rfl (lv_at hl 0 rfl) ?_
  refine lv_sipush (v := nI 1024) hx hb dX0_requireSet_5 (by decide) ?_
  refine lv_icmp_lt (tgt := 21) hx hb dX0_requireSet_8 rfl (fun h8 => ?_) (fun h8 => absurd (nI_lt hn0 (by decide)) h8)
  have q8 := bb_nle h8
  exact W.vret hx hb hr (fun t ht _ => ⟨rfl, ht⟩) (fun _ h => nomatch h) dX0_requireSet_21

set_option maxHeartbeats 4000000 in
set_option maxRecDepth 100000 in
theorem k_requireBallot (l : Launch)  (n : Nat) (hn0 : n < 31) : Met l yX0_requireBallot wsX0_requireBallot ({ frames := 0, cells := 0, slots := 0, locals := 0 }) (va_Pc [.int (nI n)] (fun _ => True)) (bb_QV) 0 0 (fun _ => False) := by
  refine Met.ofW (cc := cX0_requireBallot) (maxL := 1) (ret := none) (by decide) rfl ?_
  intro p e s m args below meth c s₁ B hml hv
  obtain ⟨rfl, -⟩ := hv
  have hx := B.exec
  have hb := B.bytes
  have hr := B.returns
  have hts := atoms_spec (ws := wsX0_requireBallot) B.pre
  have hown : s.vm.findClass RX0 = some m.cls := findClass_of_methodNamed B.named
  have hlocks := B.notSynchronized
  have hl := lv_entry ([.int (nI n)]) (n := 1) (Nat.le_of_ble_eq_true rfl)
  rw [lg_entry_eq]
  generalize (lg_sl ([.int (nI n)]) ++ List.replicate (1 - (lg_sl ([.int (nI n)])).length) Slot.unset).toArray = ls at hl ⊢
  have hl : lv_has ls 1 [(0, .int (nI n))] := hl
  refine lv_iload_n hx hb dX0_requireBallot_0 rfl (lv_at hl 0 rfl) ?_
  refine lv_if_lt (tgt := 10) hx hb dX0_requireBallot_1 rfl (fun h1 => absurd h1 (nI_pos (by omega))) (fun h1 => ?_)
  refine lv_iload_n hx hb dX0_requireBallot_4 rfl (lv_at hl 0 rfl) ?_
  refine lv_bipush (v := nI 31) hx hb dX0_requireBallot_5 (by decide) ?_
  refine lv_icmp_lt (tgt := 20) hx hb dX0_requireBallot_7 rfl (fun h7 => ?_) (fun h7 => absurd (nI_lt hn0 (by decide)) h7)
  have q7 := bb_nle h7
  exact W.vret hx hb hr (fun t ht _ => ⟨rfl, ht⟩) (fun _ h => nomatch h) dX0_requireBallot_20

set_option maxHeartbeats 4000000 in
set_option maxRecDepth 100000 in
theorem k_requireValue (l : Launch)  (n : Nat) (hn0 : n < 10) : Met l yX0_requireValue wsX0_requireValue ({ frames := 0, cells := 0, slots := 0, locals := 0 }) (va_Pc [.int (nI n)] (fun _ => True)) (bb_QV) 0 0 (fun _ => False) := by
  refine Met.ofW (cc := cX0_requireValue) (maxL := 1) (ret := none) (by decide) rfl ?_
  intro p e s m args below meth c s₁ B hml hv
  obtain ⟨rfl, -⟩ := hv
  have hx := B.exec
  have hb := B.bytes
  have hr := B.returns
  have hts := atoms_spec (ws := wsX0_requireValue) B.pre
  have hown : s.vm.findClass RX0 = some m.cls := findClass_of_methodNamed B.named
  have hlocks := B.notSynchronized
  have hl := lv_entry ([.int (nI n)]) (n := 1) (Nat.le_of_ble_eq_true rfl)
  rw [lg_entry_eq]
  generalize (lg_sl ([.int (nI n)]) ++ List.replicate (1 - (lg_sl ([.int (nI n)])).length) Slot.unset).toArray = ls at hl ⊢
  have hl : lv_has ls 1 [(0, .int (nI n))] := hl
  refine lv_iload_n hx hb dX0_requireValue_0 rfl (lv_at hl 0 rfl) ?_
  refine lv_if_lt (tgt := 10) hx hb dX0_requireValue_1 rfl (fun h1 => absurd h1 (nI_pos (by omega))) (fun h1 => ?_)
  refine lv_iload_n hx hb dX0_requireValue_4 rfl (lv_at hl 0 rfl) ?_
  refine lv_bipush (v := nI 10) hx hb dX0_requireValue_5 (by decide) ?_
  refine lv_icmp_lt (tgt := 20) hx hb dX0_requireValue_7 rfl (fun h7 => ?_) (fun h7 => absurd (nI_lt hn0 (by decide)) h7)
  have q7 := bb_nle h7
  exact W.vret hx hb hr (fun t ht _ => ⟨rfl, ht⟩) (fun _ h => nomatch h) dX0_requireValue_20

set_option maxHeartbeats 4000000 in
set_option maxRecDepth 100000 in
theorem k_chosen (l : Launch) (dC : Nat → ClassId) (dI : Nat → Nat → Nat) (cA : ClassId) (h0 a0 a1 a2 a3 : Nat) (w pr vo vf : Nat → Int32) (k : Int32) (b : Nat) (hb0 : b < 31) : Met l yX0_chosen wsX0_chosen ({ frames := 4, cells := 0, slots := 0, locals := 86 }) (va_Pc [.ref h0, .int (nI b)] (bb_B (dC, dI) vwCl (bb_C h0 a0 a1 a2 a3 cA w pr vo vf k) [(cA, .int)])) (QcRead (bb_cho w k vo vf b)) 0 0 (fun _ => False) := by
  refine Met.ofW (cc := cX0_chosen) (maxL := 2) (ret := some .int) (by decide) rfl ?_
  intro p e s m args below meth c s₁ B hml hv
  obtain ⟨rfl, hP, hK⟩ := hv
  have hx := B.exec
  have hb := B.bytes
  have hr := B.returns
  have hts := atoms_spec (ws := wsX0_chosen) B.pre
  have hown : s.vm.findClass RX0 = some m.cls := findClass_of_methodNamed B.named
  have hlocks := B.notSynchronized
  have hl := lv_entry ([.ref h0, .int (nI b)]) (n := 2) (Nat.le_of_ble_eq_true rfl)
  rw [lg_entry_eq]
  generalize (lg_sl ([.ref h0, .int (nI b)]) ++ List.replicate (2 - (lg_sl ([.ref h0, .int (nI b)])).length) Slot.unset).toArray = ls at hl ⊢
  have hl : lv_has ls 2 [(0, .ref h0), (1, .int (nI b))] := hl
  refine lv_iload_n hx hb dX0_chosen_0 rfl (lv_at hl 1 rfl) ?_
  refine bb_cSv (As := [.int (nI b)]) (rest := []) ⟨hx, hb, hml, hown, hts⟩ (k_requireBallot l b (by omega)) (cwS 1 hts gX0_chosen_X0_requireBallot rfl rfl rfl (by decide +kernel) ⟨Nat.le_of_ble_eq_true rfl, Nat.le_of_ble_eq_true rfl⟩) rfl hl.1 rfl (Nat.le_of_ble_eq_true rfl) dX0_chosen_1 (Nat.zero_le _) (Nat.zero_le _) ?_
  refine lv_aload_n hx hb dX0_chosen_4 rfl (lv_at hl 0 rfl) ?_
  refine lv_iload_n hx hb dX0_chosen_5 rfl (lv_at hl 1 rfl) ?_
  refine bb_cV (As := [.int (nI b)]) (rest := []) (r := bb_cho w k vo vf b) 0 ⟨hx, hb, hml, hown, hts⟩ (k_chosenValue l dC dI cA h0 a0 a1 a2 a3 w pr vo vf k b (by omega)) (cwV 1 hts gX0_chosen_X0_chosenValue rfl rfl rfl (by decide +kernel) ⟨Nat.le_of_ble_eq_true rfl, Nat.le_of_ble_eq_true rfl⟩) hP hK rfl rfl rfl hl.1 rfl (Nat.le_of_ble_eq_true rfl) dX0_chosen_6 (Nat.zero_le _) (Nat.zero_le _) ?_
  exact W.iret (v := bb_cho w k vo vf b) hx hb hr (fun t ht _ => ⟨rfl, ht⟩) (fun _ h => nomatch h) dX0_chosen_9

set_option maxHeartbeats 4000000 in
set_option maxRecDepth 100000 in
theorem k_can (l : Launch) (dC : Nat → ClassId) (dI : Nat → Nat → Nat) (cA : ClassId) (h0 a0 a1 a2 a3 : Nat) (w pr vo vf : Nat → Int32) (k : Int32) (b : Nat) (hb0 : b < 31) (v : Nat) (hv0 : v < 10) : Met l yX0_can wsX0_can ({ frames := 4, cells := 0, slots := 0, locals := 87 }) (va_Pc [.ref h0, .int (nI b), .int (nI v)] (bb_B (dC, dI) vwCl (bb_C h0 a0 a1 a2 a3 cA w pr vo vf k) [(cA, .int)])) (QcRead (bb_I (bb_only vf b (nI v) && bb_way w k pr vo b))) 0 0 (fun _ => False) := by
  refine Met.ofW (cc := cX0_can) (maxL := 3) (ret := some .boolean) (by decide) rfl ?_
  intro p e s m args below meth c s₁ B hml hv
  obtain ⟨rfl, hP, hK⟩ := hv
  have hx := B.exec
  have hb := B.bytes
  have hr := B.returns
  have hts := atoms_spec (ws := wsX0_can) B.pre
  have hown : s.vm.findClass RX0 = some m.cls := findClass_of_methodNamed B.named
  have hlocks := B.notSynchronized
  have hl := lv_entry ([.ref h0, .int (nI b), .int (nI v)]) (n := 3) (Nat.le_of_ble_eq_true rfl)
  rw [lg_entry_eq]
  generalize (lg_sl ([.ref h0, .int (nI b), .int (nI v)]) ++ List.replicate (3 - (lg_sl ([.ref h0, .int (nI b), .int (nI v)])).length) Slot.unset).toArray = ls at hl ⊢
  have hl : lv_has ls 3 [(0, .ref h0), (1, .int (nI b)), (2, .int (nI v))] := hl
  refine lv_iload_n hx hb dX0_can_0 rfl (lv_at hl 1 rfl) ?_
  refine bb_cSv (As := [.int (nI b)]) (rest := []) ⟨hx, hb, hml, hown, hts⟩ (k_requireBallot l b (by omega)) (cwS 1 hts gX0_can_X0_requireBallot rfl rfl rfl (by decide +kernel) ⟨Nat.le_of_ble_eq_true rfl, Nat.le_of_ble_eq_true rfl⟩) rfl hl.1 rfl (Nat.le_of_ble_eq_true rfl) dX0_can_1 (Nat.zero_le _) (Nat.zero_le _) ?_
  refine lv_iload_n hx hb dX0_can_4 rfl (lv_at hl 2 rfl) ?_
  refine bb_cSv (As := [.int (nI v)]) (rest := []) ⟨hx, hb, hml, hown, hts⟩ (k_requireValue l v (by omega)) (cwS 1 hts gX0_can_X0_requireValue rfl rfl rfl (by decide +kernel) ⟨Nat.le_of_ble_eq_true rfl, Nat.le_of_ble_eq_true rfl⟩) rfl hl.1 rfl (Nat.le_of_ble_eq_true rfl) dX0_can_5 (Nat.zero_le _) (Nat.zero_le _) ?_
  refine lv_aload_n hx hb dX0_can_8 rfl (lv_at hl 0 rfl) ?_
  refine lv_iload_n hx hb dX0_can_9 rfl (lv_at hl 1 rfl) ?_
  refine lv_iload_n hx hb dX0_can_10 rfl (lv_at hl 2 rfl) ?_
  refine bb_cV (As := [.int (nI b), .int (nI v)]) (rest := []) (r := bb_I (bb_only vf b (nI v))) 0 ⟨hx, hb, hml, hown, hts⟩ (k_isOnlyValue l dC dI cA h0 a0 a1 a2 a3 w pr vo vf k b (nI v) (by omega)) (cwV 2 hts gX0_can_X0_isOnlyValue rfl rfl rfl (by decide +kernel) ⟨Nat.le_of_ble_eq_true rfl, Nat.le_of_ble_eq_true rfl⟩) hP hK rfl rfl rfl hl.1 rfl (Nat.le_of_ble_eq_true rfl) dX0_can_11 (Nat.zero_le _) (Nat.zero_le _) ?_
  refine lv_if_eq (tgt := 29) hx hb dX0_can_14 rfl (fun h14 => ?_) (fun h14 => ?_)
  · skip
    have q14 := bb_I_0.mp h14
    refine lv_iconst (v := 0) hx hb dX0_can_29 (by decide) ?_
    have er : bb_I (bb_only vf b (nI v) && bb_way w k pr vo b) = 0 := by simp [bb_I, h14, q14]
    exact W.zret (v := 0) hx hb hr bb_z0 (fun t ht _ => ⟨by rw [er], ht⟩) (fun _ h => nomatch h) dX0_can_30
  · skip
    have q14 := bb_nz h14
    refine lv_aload_n hx hb dX0_can_17 rfl (lv_at hl 0 rfl) ?_
    refine lv_iload_n hx hb dX0_can_18 rfl (lv_at hl 1 rfl) ?_
    refine bb_cV (As := [.int (nI b)]) (rest := []) (r := bb_I (bb_way w k pr vo b)) 0 ⟨hx, hb, hml, hown, hts⟩ (k_hasWayToChoose l dC dI cA h0 a0 a1 a2 a3 w pr vo vf k b (by omega)) (cwV 1 hts gX0_can_X0_hasWayToChoose rfl rfl rfl (by decide +kernel) ⟨Nat.le_of_ble_eq_true rfl, Nat.le_of_ble_eq_true rfl⟩) hP hK rfl rfl rfl hl.1 rfl (Nat.le_of_ble_eq_true rfl) dX0_can_19 (Nat.zero_le _) (Nat.zero_le _) ?_
    refine lv_if_eq (tgt := 29) hx hb dX0_can_22 rfl (fun h22 => ?_) (fun h22 => ?_)
    · skip
      have q22 := bb_I_0.mp h22
      refine lv_iconst (v := 0) hx hb dX0_can_29 (by decide) ?_
      have er : bb_I (bb_only vf b (nI v) && bb_way w k pr vo b) = 0 := by simp [bb_I, h14, q14, h22, q22]
      exact W.zret (v := 0) hx hb hr bb_z0 (fun t ht _ => ⟨by rw [er], ht⟩) (fun _ h => nomatch h) dX0_can_30
    · skip
      have q22 := bb_nz h22
      refine lv_iconst (v := 1) hx hb dX0_can_25 (by decide) ?_
      refine lv_goto (tgt := 30) hx hb dX0_can_26 rfl ?_
      have er : bb_I (bb_only vf b (nI v) && bb_way w k pr vo b) = 1 := by simp [bb_I, h14, q14, h22, q22]
      exact W.zret (v := 1) hx hb hr bb_z1 (fun t ht _ => ⟨by rw [er], ht⟩) (fun _ h => nomatch h) dX0_can_30

set_option maxHeartbeats 4000000 in
set_option maxRecDepth 100000 in
theorem k_safe (l : Launch) (dC : Nat → ClassId) (dI : Nat → Nat → Nat) (cA : ClassId) (h0 a0 a1 a2 a3 : Nat) (w pr vo vf : Nat → Int32) (k : Int32) (b : Nat) (hb0 : b < 31) (v : Nat) (hv0 : v < 10) : Met l yX0_safe wsX0_safe ({ frames := 5, cells := 0, slots := 0, locals := 110 }) (va_Pc [.ref h0, .int (nI b), .int (nI v)] (bb_B (dC, dI) vwCl (bb_C h0 a0 a1 a2 a3 cA w pr vo vf k) [(cA, .int)])) (QcRead (bb_I (bb_saf w k pr vo vf b (nI v)))) 0 0 (fun _ => False) := by
  refine Met.ofW (cc := cX0_safe) (maxL := 3) (ret := some .boolean) (by decide) rfl ?_
  intro p e s m args below meth c s₁ B hml hv
  obtain ⟨rfl, hP, hK⟩ := hv
  have hx := B.exec
  have hb := B.bytes
  have hr := B.returns
  have hts := atoms_spec (ws := wsX0_safe) B.pre
  have hown : s.vm.findClass RX0 = some m.cls := findClass_of_methodNamed B.named
  have hlocks := B.notSynchronized
  have hl := lv_entry ([.ref h0, .int (nI b), .int (nI v)]) (n := 3) (Nat.le_of_ble_eq_true rfl)
  rw [lg_entry_eq]
  generalize (lg_sl ([.ref h0, .int (nI b), .int (nI v)]) ++ List.replicate (3 - (lg_sl ([.ref h0, .int (nI b), .int (nI v)])).length) Slot.unset).toArray = ls at hl ⊢
  have hl : lv_has ls 3 [(0, .ref h0), (1, .int (nI b)), (2, .int (nI v))] := hl
  refine lv_iload_n hx hb dX0_safe_0 rfl (lv_at hl 1 rfl) ?_
  refine bb_cSv (As := [.int (nI b)]) (rest := []) ⟨hx, hb, hml, hown, hts⟩ (k_requireBallot l b (by omega)) (cwS 1 hts gX0_safe_X0_requireBallot rfl rfl rfl (by decide +kernel) ⟨Nat.le_of_ble_eq_true rfl, Nat.le_of_ble_eq_true rfl⟩) rfl hl.1 rfl (Nat.le_of_ble_eq_true rfl) dX0_safe_1 (Nat.zero_le _) (Nat.zero_le _) ?_
  refine lv_iload_n hx hb dX0_safe_4 rfl (lv_at hl 2 rfl) ?_
  refine bb_cSv (As := [.int (nI v)]) (rest := []) ⟨hx, hb, hml, hown, hts⟩ (k_requireValue l v (by omega)) (cwS 1 hts gX0_safe_X0_requireValue rfl rfl rfl (by decide +kernel) ⟨Nat.le_of_ble_eq_true rfl, Nat.le_of_ble_eq_true rfl⟩) rfl hl.1 rfl (Nat.le_of_ble_eq_true rfl) dX0_safe_5 (Nat.zero_le _) (Nat.zero_le _) ?_
  refine lv_aload_n hx hb dX0_safe_8 rfl (lv_at hl 0 rfl) ?_
  refine lv_iload_n hx hb dX0_safe_9 rfl (lv_at hl 1 rfl) ?_
  refine lv_iload_n hx hb dX0_safe_10 rfl (lv_at hl 2 rfl) ?_
  refine bb_cV (As := [.int (nI b), .int (nI v)]) (rest := []) (r := bb_I (bb_saf w k pr vo vf b (nI v))) 0 ⟨hx, hb, hml, hown, hts⟩ (k_isSafe l dC dI cA h0 a0 a1 a2 a3 w pr vo vf k b (nI v) (by omega)) (cwV 2 hts gX0_safe_X0_isSafe rfl rfl rfl (by decide +kernel) ⟨Nat.le_of_ble_eq_true rfl, Nat.le_of_ble_eq_true rfl⟩) hP hK rfl rfl rfl hl.1 rfl (Nat.le_of_ble_eq_true rfl) dX0_safe_11 (Nat.zero_le _) (Nat.zero_le _) ?_
  exact W.zret (v := bb_I (bb_saf w k pr vo vf b (nI v))) hx hb hr (bb_zI _) (fun t ht _ => ⟨rfl, ht⟩) (fun _ h => nomatch h) dX0_safe_14

set_option maxHeartbeats 4000000 in
set_option maxRecDepth 100000 in
theorem k_free (l : Launch) (dC : Nat → ClassId) (dI : Nat → Nat → Nat) (cA : ClassId) (h0 a0 a1 a2 a3 : Nat) (w pr vo vf : Nat → Int32) (k : Int32) (b : Nat) (hb0 : b < 31) : Met l yX0_free wsX0_free ({ frames := 5, cells := 0, slots := 0, locals := 110 }) (va_Pc [.ref h0, .int (nI b)] (bb_B (dC, dI) vwCl (bb_C h0 a0 a1 a2 a3 cA w pr vo vf k) [(cA, .int)])) (QcRead (nI (bb_cn (fun v9 => bb_saf w k pr vo vf b (nI v9)) 10))) 0 0 (fun _ => False) := by
  refine Met.ofW (cc := cX0_free) (maxL := 4) (ret := some .int) (by decide) rfl ?_
  intro p e s m args below meth c s₁ B hml hv
  obtain ⟨rfl, hP, hK⟩ := hv
  have hx := B.exec
  have hb := B.bytes
  have hr := B.returns
  have hts := atoms_spec (ws := wsX0_free) B.pre
  have hown : s.vm.findClass RX0 = some m.cls := findClass_of_methodNamed B.named
  have hlocks := B.notSynchronized
  have hl := lv_entry ([.ref h0, .int (nI b)]) (n := 4) (Nat.le_of_ble_eq_true rfl)
  rw [lg_entry_eq]
  generalize (lg_sl ([.ref h0, .int (nI b)]) ++ List.replicate (4 - (lg_sl ([.ref h0, .int (nI b)])).length) Slot.unset).toArray = ls at hl ⊢
  have hl : lv_has ls 4 [(0, .ref h0), (1, .int (nI b))] := hl
  refine lv_iload_n hx hb dX0_free_0 rfl (lv_at hl 1 rfl) ?_
  refine bb_cSv (As := [.int (nI b)]) (rest := []) ⟨hx, hb, hml, hown, hts⟩ (k_requireBallot l b (by omega)) (cwS 1 hts gX0_free_X0_requireBallot rfl rfl rfl (by decide +kernel) ⟨Nat.le_of_ble_eq_true rfl, Nat.le_of_ble_eq_true rfl⟩) rfl hl.1 rfl (Nat.le_of_ble_eq_true rfl) dX0_free_1 (Nat.zero_le _) (Nat.zero_le _) ?_
  refine lv_iconst (v := 0) hx hb dX0_free_4 (by decide) ?_
  refine lv_istore_n (lv' := [(2, .int 0), (0, .ref h0), (1, .int (nI b))]) hx hb dX0_free_5 rfl hl (by decide) rfl (fun ls hl => ?_)
  refine lv_iconst (v := 0) hx hb dX0_free_6 (by decide) ?_
  refine lv_istore_n (lv' := [(3, .int 0), (2, .int 0), (0, .ref h0), (1, .int (nI b))]) hx hb dX0_free_7 rfl hl (by decide) rfl (fun ls hl => ?_)
  have hl : lv_has ls 4 [(0, .ref h0), (1, .int (nI b)), (2, .int 0), (3, .int 0)] := lv_sub hl [2, 3, 1, 0] rfl
  refine bb_forW (pc := 8) (I := fun j9 ls => lv_has ls 4 [(0, .ref h0), (1, .int (nI b)), (2, .int (nI (bb_cn (fun v9 => bb_saf w k pr vo vf b (nI v9)) j9))), (3, .int (nI j9))]) 10 ?_ ?_ 0 ls (Nat.zero_le _) hl
  · skip
    intro j ls hj hI ihj
    have hl := hI
    refine lv_iload_n hx hb dX0_free_8 rfl (lv_at hl 3 rfl) ?_
    refine lv_bipush (v := nI 10) hx hb dX0_free_9 (by decide) ?_
    refine lv_icmp_ge (tgt := 32) hx hb dX0_free_11 rfl (fun h11 => absurd h11 (nI_ge hj (by decide))) (fun h11 => ?_)
    have q11 := bb_lt h11
    refine lv_aload_n hx hb dX0_free_14 rfl (lv_at hl 0 rfl) ?_
    refine lv_iload_n hx hb dX0_free_15 rfl (lv_at hl 1 rfl) ?_
    refine lv_iload_n hx hb dX0_free_16 rfl (lv_at hl 3 rfl) ?_
    refine bb_cV (As := [.int (nI b), .int (nI j)]) (rest := []) (r := bb_I (bb_saf w k pr vo vf b (nI j))) 0 ⟨hx, hb, hml, hown, hts⟩ (k_isSafe l dC dI cA h0 a0 a1 a2 a3 w pr vo vf k b (nI j) (by omega)) (cwV 2 hts gX0_free_X0_isSafe rfl rfl rfl (by decide +kernel) ⟨Nat.le_of_ble_eq_true rfl, Nat.le_of_ble_eq_true rfl⟩) hP hK rfl rfl rfl hl.1 rfl (Nat.le_of_ble_eq_true rfl) dX0_free_17 (Nat.zero_le _) (Nat.zero_le _) ?_
    refine lv_if_eq (tgt := 26) hx hb dX0_free_20 rfl (fun h20 => ?_) (fun h20 => ?_)
    · skip
      have q20 := bb_I_0.mp h20
      refine lv_iinc (v := nI (j + 1)) (lv' := [(3, .int (nI (j + 1))), (0, .ref h0), (1, .int (nI b)), (2, .int (nI (bb_cn (fun v9 => bb_saf w k pr vo vf b (nI v9)) j)))]) hx hb dX0_free_26 hl (k := 3) rfl (bb_inc _) (by decide) rfl (fun ls hl => ?_)
      refine lv_goto (tgt := 8) hx hb dX0_free_29 rfl ?_
      have hl : lv_has ls 4 [(0, .ref h0), (1, .int (nI b)), (2, .int (nI (bb_cn (fun v9 => bb_saf w k pr vo vf b (nI v9)) j))), (3, .int (nI (j + 1)))] := lv_sub hl [1, 2, 3, 0] rfl
      have e1 : (nI (bb_cn (fun v9 => bb_saf w k pr vo vf b (nI v9)) j)) = nI (bb_cn (fun v9 => bb_saf w k pr vo vf b (nI v9)) (j + 1)) := by simp [bb_cn, h11, q11, h20, q20]
      have hl : lv_has ls 4 [(0, .ref h0), (1, .int (nI b)), (2, .int (nI (bb_cn (fun v9 => bb_saf w k pr vo vf b (nI v9)) (j + 1)))), (3, .int (nI (j + 1)))] := by rw [← e1]; exact hl
      exact ihj ls hl
    · skip
      have q20 := bb_nz h20
      refine lv_iinc (v := nI ((bb_cn (fun v9 => bb_saf w k pr vo vf b (nI v9)) j) + 1)) (lv' := [(2, .int (nI ((bb_cn (fun v9 => bb_saf w k pr vo vf b (nI v9)) j) + 1))), (0, .ref h0), (1, .int (nI b)), (3, .int (nI j))]) hx hb dX0_free_23 hl (k := 2) rfl (bb_inc _) (by decide) rfl (fun ls hl => ?_)
      refine lv_iinc (v := nI (j + 1)) (lv' := [(3, .int (nI (j + 1))), (2, .int (nI ((bb_cn (fun v9 => bb_saf w k pr vo vf b (nI v9)) j) + 1))), (0, .ref h0), (1, .int (nI b))]) hx hb dX0_free_26 hl (k := 3) rfl (bb_inc _) (by decide) rfl (fun ls hl => ?_)
      refine lv_goto (tgt := 8) hx hb dX0_free_29 rfl ?_
      have hl : lv_has ls 4 [(0, .ref h0), (1, .int (nI b)), (2, .int (nI ((bb_cn (fun v9 => bb_saf w k pr vo vf b (nI v9)) j) + 1))), (3, .int (nI (j + 1)))] := lv_sub hl [2, 3, 1, 0] rfl
      have e2 : (nI ((bb_cn (fun v9 => bb_saf w k pr vo vf b (nI v9)) j) + 1)) = nI (bb_cn (fun v9 => bb_saf w k pr vo vf b (nI v9)) (j + 1)) := by simp [bb_cn, h11, q11, h20, q20]
      have hl : lv_has ls 4 [(0, .ref h0), (1, .int (nI b)), (2, .int (nI (bb_cn (fun v9 => bb_saf w k pr vo vf b (nI v9)) (j + 1)))), (3, .int (nI (j + 1)))] := by rw [← e2]; exact hl
      exact ihj ls hl
  · skip
    intro ls hI
    have hl := hI
    refine lv_iload_n hx hb dX0_free_8 rfl (lv_at hl 3 rfl) ?_
    refine lv_bipush (v := nI 10) hx hb dX0_free_9 (by decide) ?_
    refine lv_icmp_ge (tgt := 32) hx hb dX0_free_11 rfl (fun h11 => ?_) (fun h11 => absurd (nI_le (Nat.le_refl _) (by decide)) h11)
    have q11 := bb_nlt h11
    refine lv_iload_n hx hb dX0_free_32 rfl (lv_at hl 2 rfl) ?_
    exact W.iret (v := nI (bb_cn (fun v9 => bb_saf w k pr vo vf b (nI v9)) 10)) hx hb hr (fun t ht _ => ⟨rfl, ht⟩) (fun _ h => nomatch h) dX0_free_33

set_option maxHeartbeats 4000000 in
set_option maxRecDepth 100000 in
theorem k_enough (l : Launch) (dC : Nat → ClassId) (dI : Nat → Nat → Nat) (cA : ClassId) (h0 a0 a1 a2 a3 : Nat) (w pr vo vf : Nat → Int32) (k : Int32) (a : Nat) (ha0 : a < 1024) : Met l yX0_enough wsX0_enough ({ frames := 3, cells := 0, slots := 0, locals := 65 }) (va_Pc [.ref h0, .int (nI a)] (bb_B (dC, dI) vwCl (bb_C h0 a0 a1 a2 a3 cA w pr vo vf k) [(cA, .int)])) (QcRead (bb_I (bb_en w k (nI a)))) 0 0 (fun _ => False) := by
  refine Met.ofW (cc := cX0_enough) (maxL := 2) (ret := some .boolean) (by decide) rfl ?_
  intro p e s m args below meth c s₁ B hml hv
  obtain ⟨rfl, hP, hK⟩ := hv
  have hx := B.exec
  have hb := B.bytes
  have hr := B.returns
  have hts := atoms_spec (ws := wsX0_enough) B.pre
  have hown : s.vm.findClass RX0 = some m.cls := findClass_of_methodNamed B.named
  have hlocks := B.notSynchronized
  have hl := lv_entry ([.ref h0, .int (nI a)]) (n := 2) (Nat.le_of_ble_eq_true rfl)
  rw [lg_entry_eq]
  generalize (lg_sl ([.ref h0, .int (nI a)]) ++ List.replicate (2 - (lg_sl ([.ref h0, .int (nI a)])).length) Slot.unset).toArray = ls at hl ⊢
  have hl : lv_has ls 2 [(0, .ref h0), (1, .int (nI a))] := hl
  refine lv_iload_n hx hb dX0_enough_0 rfl (lv_at hl 1 rfl) ?_
  refine bb_cSv (As := [.int (nI a)]) (rest := []) ⟨hx, hb, hml, hown, hts⟩ (k_requireSet l a (by omega)) (cwS 1 hts gX0_enough_X0_requireSet rfl rfl rfl (by decide +kernel) ⟨Nat.le_of_ble_eq_true rfl, Nat.le_of_ble_eq_true rfl⟩) rfl hl.1 rfl (Nat.le_of_ble_eq_true rfl) dX0_enough_1 (Nat.zero_le _) (Nat.zero_le _) ?_
  refine lv_aload_n hx hb dX0_enough_4 rfl (lv_at hl 0 rfl) ?_
  refine lv_iload_n hx hb dX0_enough_5 rfl (lv_at hl 1 rfl) ?_
  refine bb_cV (As := [.int (nI a)]) (rest := []) (r := bb_I (bb_en w k (nI a))) 0 ⟨hx, hb, hml, hown, hts⟩ (k_isEnough l dC dI cA h0 a0 a1 a2 a3 w pr vo vf k (nI a)) (cwV 1 hts gX0_enough_X0_isEnough rfl rfl rfl (by decide +kernel) ⟨Nat.le_of_ble_eq_true rfl, Nat.le_of_ble_eq_true rfl⟩) hP hK rfl rfl rfl hl.1 rfl (Nat.le_of_ble_eq_true rfl) dX0_enough_6 (Nat.zero_le _) (Nat.zero_le _) ?_
  exact W.zret (v := bb_I (bb_en w k (nI a))) hx hb hr (bb_zI _) (fun t ht _ => ⟨rfl, ht⟩) (fun _ h => nomatch h) dX0_enough_9

set_option maxHeartbeats 4000000 in
set_option maxRecDepth 100000 in
theorem k_blocks (l : Launch) (dC : Nat → ClassId) (dI : Nat → Nat → Nat) (cA : ClassId) (h0 a0 a1 a2 a3 : Nat) (w pr vo vf : Nat → Int32) (k : Int32) (a : Nat) (ha0 : a < 1024) : Met l yX0_blocks wsX0_blocks ({ frames := 3, cells := 0, slots := 0, locals := 65 }) (va_Pc [.ref h0, .int (nI a)] (bb_B (dC, dI) vwCl (bb_C h0 a0 a1 a2 a3 cA w pr vo vf k) [(cA, .int)])) (QcRead (bb_I (!bb_en w k (1023 &&& bb_not (nI a))))) 0 0 (fun _ => False) := by
  refine Met.ofW (cc := cX0_blocks) (maxL := 2) (ret := some .boolean) (by decide) rfl ?_
  intro p e s m args below meth c s₁ B hml hv
  obtain ⟨rfl, hP, hK⟩ := hv
  have hx := B.exec
  have hb := B.bytes
  have hr := B.returns
  have hts := atoms_spec (ws := wsX0_blocks) B.pre
  have hown : s.vm.findClass RX0 = some m.cls := findClass_of_methodNamed B.named
  have hlocks := B.notSynchronized
  have hl := lv_entry ([.ref h0, .int (nI a)]) (n := 2) (Nat.le_of_ble_eq_true rfl)
  rw [lg_entry_eq]
  generalize (lg_sl ([.ref h0, .int (nI a)]) ++ List.replicate (2 - (lg_sl ([.ref h0, .int (nI a)])).length) Slot.unset).toArray = ls at hl ⊢
  have hl : lv_has ls 2 [(0, .ref h0), (1, .int (nI a))] := hl
  refine lv_iload_n hx hb dX0_blocks_0 rfl (lv_at hl 1 rfl) ?_
  refine bb_cSv (As := [.int (nI a)]) (rest := []) ⟨hx, hb, hml, hown, hts⟩ (k_requireSet l a (by omega)) (cwS 1 hts gX0_blocks_X0_requireSet rfl rfl rfl (by decide +kernel) ⟨Nat.le_of_ble_eq_true rfl, Nat.le_of_ble_eq_true rfl⟩) rfl hl.1 rfl (Nat.le_of_ble_eq_true rfl) dX0_blocks_1 (Nat.zero_le _) (Nat.zero_le _) ?_
  refine lv_aload_n hx hb dX0_blocks_4 rfl (lv_at hl 0 rfl) ?_
  refine lv_sipush (v := 1023) hx hb dX0_blocks_5 (by decide) ?_
  refine lv_iload_n hx hb dX0_blocks_8 rfl (lv_at hl 1 rfl) ?_
  refine lv_iconst (v := (-1)) hx hb dX0_blocks_9 (by decide) ?_
  refine lv_ixor hx hb dX0_blocks_10 ?_
  refine bb_topi (y := bb_not (nI a)) rfl ?_
  refine lv_iand hx hb dX0_blocks_11 ?_
  refine bb_cV (As := [.int (1023 &&& (bb_not (nI a)))]) (rest := []) (r := bb_I (bb_en w k (1023 &&& (bb_not (nI a))))) 0 ⟨hx, hb, hml, hown, hts⟩ (k_isEnough l dC dI cA h0 a0 a1 a2 a3 w pr vo vf k (1023 &&& (bb_not (nI a)))) (cwV 1 hts gX0_blocks_X0_isEnough rfl rfl rfl (by decide +kernel) ⟨Nat.le_of_ble_eq_true rfl, Nat.le_of_ble_eq_true rfl⟩) hP hK rfl rfl rfl hl.1 rfl (Nat.le_of_ble_eq_true rfl) dX0_blocks_12 (Nat.zero_le _) (Nat.zero_le _) ?_
  refine lv_if_ne (tgt := 22) hx hb dX0_blocks_15 rfl (fun h15 => ?_) (fun h15 => ?_)
  · skip
    have q15 := bb_nz h15
    refine lv_iconst (v := 0) hx hb dX0_blocks_22 (by decide) ?_
    have er : bb_I (!bb_en w k (1023 &&& bb_not (nI a))) = 0 := by simp [bb_I, h15, q15]
    exact W.zret (v := 0) hx hb hr bb_z0 (fun t ht _ => ⟨by rw [er], ht⟩) (fun _ h => nomatch h) dX0_blocks_23
  · skip
    have q15 := bb_I_0.mp h15
    refine lv_iconst (v := 1) hx hb dX0_blocks_18 (by decide) ?_
    refine lv_goto (tgt := 23) hx hb dX0_blocks_19 rfl ?_
    have er : bb_I (!bb_en w k (1023 &&& bb_not (nI a))) = 1 := by simp [bb_I, h15, q15]
    exact W.zret (v := 1) hx hb hr bb_z1 (fun t ht _ => ⟨by rw [er], ht⟩) (fun _ h => nomatch h) dX0_blocks_23

set_option maxHeartbeats 4000000 in
set_option maxRecDepth 100000 in
theorem k_sets (l : Launch) (dC : Nat → ClassId) (dI : Nat → Nat → Nat) (cA : ClassId) (h0 a0 a1 a2 a3 : Nat) (w pr vo vf : Nat → Int32) (k : Int32)  : Met l yX0_sets wsX0_sets ({ frames := 3, cells := 0, slots := 0, locals := 65 }) (va_Pc [.ref h0] (bb_B (dC, dI) vwCl (bb_C h0 a0 a1 a2 a3 cA w pr vo vf k) [(cA, .int)])) (QcRead (nI (bb_cn (fun x9 => bb_en w k (nI x9)) 1024))) 0 0 (fun _ => False) := by
  refine Met.ofW (cc := cX0_sets) (maxL := 3) (ret := some .int) (by decide) rfl ?_
  intro p e s m args below meth c s₁ B hml hv
  obtain ⟨rfl, hP, hK⟩ := hv
  have hx := B.exec
  have hb := B.bytes
  have hr := B.returns
  have hts := atoms_spec (ws := wsX0_sets) B.pre
  have hown : s.vm.findClass RX0 = some m.cls := findClass_of_methodNamed B.named
  have hlocks := B.notSynchronized
  have hl := lv_entry ([.ref h0]) (n := 3) (Nat.le_of_ble_eq_true rfl)
  rw [lg_entry_eq]
  generalize (lg_sl ([.ref h0]) ++ List.replicate (3 - (lg_sl ([.ref h0])).length) Slot.unset).toArray = ls at hl ⊢
  have hl : lv_has ls 3 [(0, .ref h0)] := hl
  refine lv_iconst (v := 0) hx hb dX0_sets_0 (by decide) ?_
  refine lv_istore_n (lv' := [(1, .int 0), (0, .ref h0)]) hx hb dX0_sets_1 rfl hl (by decide) rfl (fun ls hl => ?_)
  refine lv_iconst (v := 0) hx hb dX0_sets_2 (by decide) ?_
  refine lv_istore_n (lv' := [(2, .int 0), (1, .int 0), (0, .ref h0)]) hx hb dX0_sets_3 rfl hl (by decide) rfl (fun ls hl => ?_)
  have hl : lv_has ls 3 [(0, .ref h0), (1, .int 0), (2, .int 0)] := lv_sub hl [2, 1, 0] rfl
  refine bb_forW (pc := 4) (I := fun j9 ls => lv_has ls 3 [(0, .ref h0), (1, .int (nI (bb_cn (fun x9 => bb_en w k (nI x9)) j9))), (2, .int (nI j9))]) 1024 ?_ ?_ 0 ls (Nat.zero_le _) hl
  · skip
    intro j ls hj hI ihj
    have hl := hI
    refine lv_iload_n hx hb dX0_sets_4 rfl (lv_at hl 2 rfl) ?_
    refine lv_sipush (v := nI 1024) hx hb dX0_sets_5 (by decide) ?_
    refine lv_icmp_ge (tgt := 28) hx hb dX0_sets_8 rfl (fun h8 => absurd h8 (nI_ge hj (by decide))) (fun h8 => ?_)
    have q8 := bb_lt h8
    refine lv_aload_n hx hb dX0_sets_11 rfl (lv_at hl 0 rfl) ?_
    refine lv_iload_n hx hb dX0_sets_12 rfl (lv_at hl 2 rfl) ?_
    refine bb_cV (As := [.int (nI j)]) (rest := []) (r := bb_I (bb_en w k (nI j))) 0 ⟨hx, hb, hml, hown, hts⟩ (k_isEnough l dC dI cA h0 a0 a1 a2 a3 w pr vo vf k (nI j)) (cwV 1 hts gX0_sets_X0_isEnough rfl rfl rfl (by decide +kernel) ⟨Nat.le_of_ble_eq_true rfl, Nat.le_of_ble_eq_true rfl⟩) hP hK rfl rfl rfl hl.1 rfl (Nat.le_of_ble_eq_true rfl) dX0_sets_13 (Nat.zero_le _) (Nat.zero_le _) ?_
    refine lv_if_eq (tgt := 22) hx hb dX0_sets_16 rfl (fun h16 => ?_) (fun h16 => ?_)
    · skip
      have q16 := bb_I_0.mp h16
      refine lv_iinc (v := nI (j + 1)) (lv' := [(2, .int (nI (j + 1))), (0, .ref h0), (1, .int (nI (bb_cn (fun x9 => bb_en w k (nI x9)) j)))]) hx hb dX0_sets_22 hl (k := 2) rfl (bb_inc _) (by decide) rfl (fun ls hl => ?_)
      refine lv_goto (tgt := 4) hx hb dX0_sets_25 rfl ?_
      have hl : lv_has ls 3 [(0, .ref h0), (1, .int (nI (bb_cn (fun x9 => bb_en w k (nI x9)) j))), (2, .int (nI (j + 1)))] := lv_sub hl [1, 2, 0] rfl
      have e1 : (nI (bb_cn (fun x9 => bb_en w k (nI x9)) j)) = nI (bb_cn (fun x9 => bb_en w k (nI x9)) (j + 1)) := by simp [bb_cn, h8, q8, h16, q16]
      have hl : lv_has ls 3 [(0, .ref h0), (1, .int (nI (bb_cn (fun x9 => bb_en w k (nI x9)) (j + 1)))), (2, .int (nI (j + 1)))] := by rw [← e1]; exact hl
      exact ihj ls hl
    · skip
      have q16 := bb_nz h16
      refine lv_iinc (v := nI ((bb_cn (fun x9 => bb_en w k (nI x9)) j) + 1)) (lv' := [(1, .int (nI ((bb_cn (fun x9 => bb_en w k (nI x9)) j) + 1))), (0, .ref h0), (2, .int (nI j))]) hx hb dX0_sets_19 hl (k := 1) rfl (bb_inc _) (by decide) rfl (fun ls hl => ?_)
      refine lv_iinc (v := nI (j + 1)) (lv' := [(2, .int (nI (j + 1))), (1, .int (nI ((bb_cn (fun x9 => bb_en w k (nI x9)) j) + 1))), (0, .ref h0)]) hx hb dX0_sets_22 hl (k := 2) rfl (bb_inc _) (by decide) rfl (fun ls hl => ?_)
      refine lv_goto (tgt := 4) hx hb dX0_sets_25 rfl ?_
      have hl : lv_has ls 3 [(0, .ref h0), (1, .int (nI ((bb_cn (fun x9 => bb_en w k (nI x9)) j) + 1))), (2, .int (nI (j + 1)))] := lv_sub hl [2, 1, 0] rfl
      have e2 : (nI ((bb_cn (fun x9 => bb_en w k (nI x9)) j) + 1)) = nI (bb_cn (fun x9 => bb_en w k (nI x9)) (j + 1)) := by simp [bb_cn, h8, q8, h16, q16]
      have hl : lv_has ls 3 [(0, .ref h0), (1, .int (nI (bb_cn (fun x9 => bb_en w k (nI x9)) (j + 1)))), (2, .int (nI (j + 1)))] := by rw [← e2]; exact hl
      exact ihj ls hl
  · skip
    intro ls hI
    have hl := hI
    refine lv_iload_n hx hb dX0_sets_4 rfl (lv_at hl 2 rfl) ?_
    refine lv_sipush (v := nI 1024) hx hb dX0_sets_5 (by decide) ?_
    refine lv_icmp_ge (tgt := 28) hx hb dX0_sets_8 rfl (fun h8 => ?_) (fun h8 => absurd (nI_le (Nat.le_refl _) (by decide)) h8)
    have q8 := bb_nlt h8
    refine lv_iload_n hx hb dX0_sets_28 rfl (lv_at hl 1 rfl) ?_
    exact W.iret (v := nI (bb_cn (fun x9 => bb_en w k (nI x9)) 1024)) hx hb hr (fun t ht _ => ⟨rfl, ht⟩) (fun _ h => nomatch h) dX0_sets_29

set_option maxHeartbeats 4000000 in
set_option maxRecDepth 100000 in
theorem k_least (l : Launch) (dC : Nat → ClassId) (dI : Nat → Nat → Nat) (cA : ClassId) (h0 a0 a1 a2 a3 : Nat) (w pr vo vf : Nat → Int32) (k : Int32)  : Met l yX0_least wsX0_least ({ frames := 3, cells := 0, slots := 0, locals := 65 }) (va_Pc [.ref h0] (bb_B (dC, dI) vwCl (bb_C h0 a0 a1 a2 a3 cA w pr vo vf k) [(cA, .int)])) (QcRead (bb_lc w k 1024)) 0 0 (fun _ => False) := by
  refine Met.ofW (cc := cX0_least) (maxL := 4) (ret := some .int) (by decide) rfl ?_
  intro p e s m args below meth c s₁ B hml hv
  obtain ⟨rfl, hP, hK⟩ := hv
  have hx := B.exec
  have hb := B.bytes
  have hr := B.returns
  have hts := atoms_spec (ws := wsX0_least) B.pre
  have hown : s.vm.findClass RX0 = some m.cls := findClass_of_methodNamed B.named
  have hlocks := B.notSynchronized
  have hl := lv_entry ([.ref h0]) (n := 4) (Nat.le_of_ble_eq_true rfl)
  rw [lg_entry_eq]
  generalize (lg_sl ([.ref h0]) ++ List.replicate (4 - (lg_sl ([.ref h0])).length) Slot.unset).toArray = ls at hl ⊢
  have hl : lv_has ls 4 [(0, .ref h0)] := hl
  refine lv_iconst (v := (-1)) hx hb dX0_least_0 (by decide) ?_
  refine lv_istore_n (lv' := [(1, .int (-1)), (0, .ref h0)]) hx hb dX0_least_1 rfl hl (by decide) rfl (fun ls hl => ?_)
  refine lv_iconst (v := 0) hx hb dX0_least_2 (by decide) ?_
  refine lv_istore_n (lv' := [(2, .int 0), (1, .int (-1)), (0, .ref h0)]) hx hb dX0_least_3 rfl hl (by decide) rfl (fun ls hl => ?_)
  have hl : lv_has ls 4 [(0, .ref h0), (1, .int (-1)), (2, .int 0)] := lv_sub hl [2, 1, 0] rfl
  refine bb_forW (pc := 4) (I := fun j9 ls => lv_has ls 4 [(0, .ref h0), (1, .int (bb_lc w k j9)), (2, .int (nI j9))]) 1024 ?_ ?_ 0 ls (Nat.zero_le _) hl
  · skip
    intro j ls hj hI ihj
    have hl := hI
    refine lv_iload_n hx hb dX0_least_4 rfl (lv_at hl 2 rfl) ?_
    refine lv_sipush (v := nI 1024) hx hb dX0_least_5 (by decide) ?_
    refine lv_icmp_ge (tgt := 42) hx hb dX0_least_8 rfl (fun h8 => absurd h8 (nI_ge hj (by decide))) (fun h8 => ?_)
    have q8 := bb_lt h8
    refine lv_iload_n hx hb dX0_least_11 rfl (lv_at hl 2 rfl) ?_
    refine bb_cS (As := [.int (nI j)]) (rest := []) (r := bb_bc (nI j)) ⟨hx, hb, hml, hown, hts⟩ (k_bitCount l (nI j)) (va_cwS 1 hts gX0_least_J_bitCount rfl rfl rfl (by decide +kernel) ⟨Nat.le_of_ble_eq_true rfl, Nat.le_of_ble_eq_true rfl⟩) rfl hl.1 rfl (Nat.le_of_ble_eq_true rfl) dX0_least_12 (Nat.zero_le _) (Nat.zero_le _) ?_
    refine lv_istore_n (lv' := [(3, .int (bb_bc (nI j))), (0, .ref h0), (1, .int (bb_lc w k j)), (2, .int (nI j))]) hx hb dX0_least_15 rfl hl (by decide) rfl (fun ls hl => ?_)
    refine lv_iload_n hx hb dX0_least_16 rfl (lv_at hl 2 rfl) ?_
    refine lv_iconst (v := (-1)) hx hb dX0_least_17 (by decide) ?_
    refine lv_icmp_eq (tgt := 26) hx hb dX0_least_18 rfl (fun h18 => ?_) (fun h18 => ?_)
    · skip
      refine lv_aload_n hx hb dX0_least_26 rfl (lv_at hl 1 rfl) ?_
      refine lv_iload_n hx hb dX0_least_27 rfl (lv_at hl 3 rfl) ?_
      refine bb_cV (As := [.int (nI j)]) (rest := []) (r := bb_I (bb_en w k (nI j))) 0 ⟨hx, hb, hml, hown, hts⟩ (k_isEnough l dC dI cA h0 a0 a1 a2 a3 w pr vo vf k (nI j)) (cwV 1 hts gX0_least_X0_isEnough rfl rfl rfl (by decide +kernel) ⟨Nat.le_of_ble_eq_true rfl, Nat.le_of_ble_eq_true rfl⟩) hP hK rfl rfl rfl hl.1 rfl (Nat.le_of_ble_eq_true rfl) dX0_least_28 (Nat.zero_le _) (Nat.zero_le _) ?_
      refine lv_if_eq (tgt := 36) hx hb dX0_least_31 rfl (fun h31 => ?_) (fun h31 => ?_)
      · skip
        have q31 := bb_I_0.mp h31
        refine lv_iinc (v := nI (j + 1)) (lv' := [(2, .int (nI (j + 1))), (3, .int (bb_bc (nI j))), (0, .ref h0), (1, .int (bb_lc w k j))]) hx hb dX0_least_36 hl (k := 3) rfl (bb_inc _) (by decide) rfl (fun ls hl => ?_)
        refine lv_goto (tgt := 4) hx hb dX0_least_39 rfl ?_
        have hl : lv_has ls 4 [(0, .ref h0), (1, .int (bb_lc w k j)), (2, .int (nI (j + 1)))] := lv_sub hl [2, 3, 0] rfl
        have e1 : (bb_lc w k j) = bb_lc w k (j + 1) := by simp [bb_lc, h8, q8, h18, h31, q31]
        have hl : lv_has ls 4 [(0, .ref h0), (1, .int (bb_lc w k (j + 1))), (2, .int (nI (j + 1)))] := by rw [← e1]; exact hl
        exact ihj ls hl
      · skip
        have q31 := bb_nz h31
        refine lv_iload_n hx hb dX0_least_34 rfl (lv_at hl 0 rfl) ?_
        refine lv_istore_n (lv' := [(1, .int (bb_bc (nI j))), (3, .int (bb_bc (nI j))), (0, .ref h0), (2, .int (nI j))]) hx hb dX0_least_35 rfl hl (by decide) rfl (fun ls hl => ?_)
        refine lv_iinc (v := nI (j + 1)) (lv' := [(2, .int (nI (j + 1))), (1, .int (bb_bc (nI j))), (3, .int (bb_bc (nI j))), (0, .ref h0)]) hx hb dX0_least_36 hl (k := 3) rfl (bb_inc _) (by decide) rfl (fun ls hl => ?_)
        refine lv_goto (tgt := 4) hx hb dX0_least_39 rfl ?_
        have hl : lv_has ls 4 [(0, .ref h0), (1, .int (bb_bc (nI j))), (2, .int (nI (j + 1)))] := lv_sub hl [3, 1, 0] rfl
        have e2 : (bb_bc (nI j)) = bb_lc w k (j + 1) := by simp [bb_lc, h8, q8, h18, h31, q31]
        have hl : lv_has ls 4 [(0, .ref h0), (1, .int (bb_lc w k (j + 1))), (2, .int (nI (j + 1)))] := by rw [← e2]; exact hl
        exact ihj ls hl
    · skip
      refine lv_iload_n hx hb dX0_least_21 rfl (lv_at hl 0 rfl) ?_
      refine lv_iload_n hx hb dX0_least_22 rfl (lv_at hl 2 rfl) ?_
      refine lv_icmp_ge (tgt := 36) hx hb dX0_least_23 rfl (fun h23 => ?_) (fun h23 => ?_)
      · skip
        have q23 := bb_nlt h23
        refine lv_iinc (v := nI (j + 1)) (lv' := [(2, .int (nI (j + 1))), (3, .int (bb_bc (nI j))), (0, .ref h0), (1, .int (bb_lc w k j))]) hx hb dX0_least_36 hl (k := 3) rfl (bb_inc _) (by decide) rfl (fun ls hl => ?_)
        refine lv_goto (tgt := 4) hx hb dX0_least_39 rfl ?_
        have hl : lv_has ls 4 [(0, .ref h0), (1, .int (bb_lc w k j)), (2, .int (nI (j + 1)))] := lv_sub hl [2, 3, 0] rfl
        have e3 : (bb_lc w k j) = bb_lc w k (j + 1) := by simp [bb_lc, h8, q8, h18, h23, q23]
        have hl : lv_has ls 4 [(0, .ref h0), (1, .int (bb_lc w k (j + 1))), (2, .int (nI (j + 1)))] := by rw [← e3]; exact hl
        exact ihj ls hl
      · skip
        have q23 := bb_lt h23
        refine lv_aload_n hx hb dX0_least_26 rfl (lv_at hl 1 rfl) ?_
        refine lv_iload_n hx hb dX0_least_27 rfl (lv_at hl 3 rfl) ?_
        refine bb_cV (As := [.int (nI j)]) (rest := []) (r := bb_I (bb_en w k (nI j))) 0 ⟨hx, hb, hml, hown, hts⟩ (k_isEnough l dC dI cA h0 a0 a1 a2 a3 w pr vo vf k (nI j)) (cwV 1 hts gX0_least_X0_isEnough rfl rfl rfl (by decide +kernel) ⟨Nat.le_of_ble_eq_true rfl, Nat.le_of_ble_eq_true rfl⟩) hP hK rfl rfl rfl hl.1 rfl (Nat.le_of_ble_eq_true rfl) dX0_least_28 (Nat.zero_le _) (Nat.zero_le _) ?_
        refine lv_if_eq (tgt := 36) hx hb dX0_least_31 rfl (fun h31 => ?_) (fun h31 => ?_)
        · skip
          have q31 := bb_I_0.mp h31
          refine lv_iinc (v := nI (j + 1)) (lv' := [(2, .int (nI (j + 1))), (3, .int (bb_bc (nI j))), (0, .ref h0), (1, .int (bb_lc w k j))]) hx hb dX0_least_36 hl (k := 3) rfl (bb_inc _) (by decide) rfl (fun ls hl => ?_)
          refine lv_goto (tgt := 4) hx hb dX0_least_39 rfl ?_
          have hl : lv_has ls 4 [(0, .ref h0), (1, .int (bb_lc w k j)), (2, .int (nI (j + 1)))] := lv_sub hl [2, 3, 0] rfl
          have e4 : (bb_lc w k j) = bb_lc w k (j + 1) := by simp [bb_lc, h8, q8, h18, h23, q23, h31, q31]
          have hl : lv_has ls 4 [(0, .ref h0), (1, .int (bb_lc w k (j + 1))), (2, .int (nI (j + 1)))] := by rw [← e4]; exact hl
          exact ihj ls hl
        · skip
          have q31 := bb_nz h31
          refine lv_iload_n hx hb dX0_least_34 rfl (lv_at hl 0 rfl) ?_
          refine lv_istore_n (lv' := [(1, .int (bb_bc (nI j))), (3, .int (bb_bc (nI j))), (0, .ref h0), (2, .int (nI j))]) hx hb dX0_least_35 rfl hl (by decide) rfl (fun ls hl => ?_)
          refine lv_iinc (v := nI (j + 1)) (lv' := [(2, .int (nI (j + 1))), (1, .int (bb_bc (nI j))), (3, .int (bb_bc (nI j))), (0, .ref h0)]) hx hb dX0_least_36 hl (k := 3) rfl (bb_inc _) (by decide) rfl (fun ls hl => ?_)
          refine lv_goto (tgt := 4) hx hb dX0_least_39 rfl ?_
          have hl : lv_has ls 4 [(0, .ref h0), (1, .int (bb_bc (nI j))), (2, .int (nI (j + 1)))] := lv_sub hl [3, 1, 0] rfl
          have e5 : (bb_bc (nI j)) = bb_lc w k (j + 1) := by simp [bb_lc, h8, q8, h18, h23, q23, h31, q31]
          have hl : lv_has ls 4 [(0, .ref h0), (1, .int (bb_lc w k (j + 1))), (2, .int (nI (j + 1)))] := by rw [← e5]; exact hl
          exact ihj ls hl
  · skip
    intro ls hI
    have hl := hI
    refine lv_iload_n hx hb dX0_least_4 rfl (lv_at hl 2 rfl) ?_
    refine lv_sipush (v := nI 1024) hx hb dX0_least_5 (by decide) ?_
    refine lv_icmp_ge (tgt := 42) hx hb dX0_least_8 rfl (fun h8 => ?_) (fun h8 => absurd (nI_le (Nat.le_refl _) (by decide)) h8)
    have q8 := bb_nlt h8
    refine lv_iload_n hx hb dX0_least_42 rfl (lv_at hl 1 rfl) ?_
    exact W.iret (v := bb_lc w k 1024) hx hb hr (fun t ht _ => ⟨rfl, ht⟩) (fun _ h => nomatch h) dX0_least_43

set_option maxHeartbeats 4000000 in
set_option maxRecDepth 100000 in
theorem k_meet (l : Launch) (dC : Nat → ClassId) (dI : Nat → Nat → Nat) (cA : ClassId) (h0 a0 a1 a2 a3 : Nat) (w pr vo vf : Nat → Int32) (k : Int32)  : Met l yX0_meet wsX0_meet ({ frames := 3, cells := 0, slots := 0, locals := 65 }) (va_Pc [.ref h0] (bb_B (dC, dI) vwCl (bb_C h0 a0 a1 a2 a3 cA w pr vo vf k) [(cA, .int)])) (QcRead (bb_I (bb_al (fun x9 => !(bb_en w k (nI x9) && bb_en w k (1023 &&& bb_not (nI x9)))) 1024))) 0 0 (fun _ => False) := by
  refine Met.ofW (cc := cX0_meet) (maxL := 2) (ret := some .boolean) (by decide) rfl ?_
  intro p e s m args below meth c s₁ B hml hv
  obtain ⟨rfl, hP, hK⟩ := hv
  have hx := B.exec
  have hb := B.bytes
  have hr := B.returns
  have hts := atoms_spec (ws := wsX0_meet) B.pre
  have hown : s.vm.findClass RX0 = some m.cls := findClass_of_methodNamed B.named
  have hlocks := B.notSynchronized
  have hl := lv_entry ([.ref h0]) (n := 2) (Nat.le_of_ble_eq_true rfl)
  rw [lg_entry_eq]
  generalize (lg_sl ([.ref h0]) ++ List.replicate (2 - (lg_sl ([.ref h0])).length) Slot.unset).toArray = ls at hl ⊢
  have hl : lv_has ls 2 [(0, .ref h0)] := hl
  refine lv_iconst (v := 0) hx hb dX0_meet_0 (by decide) ?_
  refine lv_istore_n (lv' := [(1, .int 0), (0, .ref h0)]) hx hb dX0_meet_1 rfl hl (by decide) rfl (fun ls hl => ?_)
  have hl : lv_has ls 2 [(0, .ref h0), (1, .int 0)] := lv_sub hl [1, 0] rfl
  refine bb_forW (pc := 2) (I := fun j9 ls => lv_has ls 2 [(0, .ref h0), (1, .int (nI j9))] ∧ bb_al (fun x9 => !(bb_en w k (nI x9) && bb_en w k (1023 &&& bb_not (nI x9)))) j9 = true) 1024 ?_ ?_ 0 ls (Nat.zero_le _) ⟨hl, rfl⟩
  · skip
    intro j ls hj hI ihj
    obtain ⟨hl, hno⟩ := hI
    refine lv_iload_n hx hb dX0_meet_2 rfl (lv_at hl 1 rfl) ?_
    refine lv_sipush (v := nI 1024) hx hb dX0_meet_3 (by decide) ?_
    refine lv_icmp_ge (tgt := 39) hx hb dX0_meet_6 rfl (fun h6 => absurd h6 (nI_ge hj (by decide))) (fun h6 => ?_)
    have q6 := bb_lt h6
    refine lv_aload_n hx hb dX0_meet_9 rfl (lv_at hl 0 rfl) ?_
    refine lv_iload_n hx hb dX0_meet_10 rfl (lv_at hl 1 rfl) ?_
    refine bb_cV (As := [.int (nI j)]) (rest := []) (r := bb_I (bb_en w k (nI j))) 0 ⟨hx, hb, hml, hown, hts⟩ (k_isEnough l dC dI cA h0 a0 a1 a2 a3 w pr vo vf k (nI j)) (cwV 1 hts gX0_meet_X0_isEnough rfl rfl rfl (by decide +kernel) ⟨Nat.le_of_ble_eq_true rfl, Nat.le_of_ble_eq_true rfl⟩) hP hK rfl rfl rfl hl.1 rfl (Nat.le_of_ble_eq_true rfl) dX0_meet_11 (Nat.zero_le _) (Nat.zero_le _) ?_
    refine lv_if_eq (tgt := 33) hx hb dX0_meet_14 rfl (fun h14 => ?_) (fun h14 => ?_)
    · skip
      have q14 := bb_I_0.mp h14
      refine lv_iinc (v := nI (j + 1)) (lv' := [(1, .int (nI (j + 1))), (0, .ref h0)]) hx hb dX0_meet_33 hl (k := 1) rfl (bb_inc _) (by decide) rfl (fun ls hl => ?_)
      refine lv_goto (tgt := 2) hx hb dX0_meet_36 rfl ?_
      have hl : lv_has ls 2 [(0, .ref h0), (1, .int (nI (j + 1)))] := lv_sub hl [1, 0] rfl
      exact ihj ls ⟨hl, by exact bb_al_step hno (by simp [h6, q6, h14, q14])⟩
    · skip
      have q14 := bb_nz h14
      refine lv_aload_n hx hb dX0_meet_17 rfl (lv_at hl 0 rfl) ?_
      refine lv_sipush (v := 1023) hx hb dX0_meet_18 (by decide) ?_
      refine lv_iload_n hx hb dX0_meet_21 rfl (lv_at hl 1 rfl) ?_
      refine lv_iconst (v := (-1)) hx hb dX0_meet_22 (by decide) ?_
      refine lv_ixor hx hb dX0_meet_23 ?_
      refine bb_topi (y := bb_not (nI j)) rfl ?_
      refine lv_iand hx hb dX0_meet_24 ?_
      refine bb_cV (As := [.int (1023 &&& (bb_not (nI j)))]) (rest := []) (r := bb_I (bb_en w k (1023 &&& (bb_not (nI j))))) 0 ⟨hx, hb, hml, hown, hts⟩ (k_isEnough l dC dI cA h0 a0 a1 a2 a3 w pr vo vf k (1023 &&& (bb_not (nI j)))) (cwV 1 hts gX0_meet_X0_isEnough rfl rfl rfl (by decide +kernel) ⟨Nat.le_of_ble_eq_true rfl, Nat.le_of_ble_eq_true rfl⟩) hP hK rfl rfl rfl hl.1 rfl (Nat.le_of_ble_eq_true rfl) dX0_meet_25 (Nat.zero_le _) (Nat.zero_le _) ?_
      refine lv_if_eq (tgt := 33) hx hb dX0_meet_28 rfl (fun h28 => ?_) (fun h28 => ?_)
      · skip
        have q28 := bb_I_0.mp h28
        refine lv_iinc (v := nI (j + 1)) (lv' := [(1, .int (nI (j + 1))), (0, .ref h0)]) hx hb dX0_meet_33 hl (k := 1) rfl (bb_inc _) (by decide) rfl (fun ls hl => ?_)
        refine lv_goto (tgt := 2) hx hb dX0_meet_36 rfl ?_
        have hl : lv_has ls 2 [(0, .ref h0), (1, .int (nI (j + 1)))] := lv_sub hl [1, 0] rfl
        exact ihj ls ⟨hl, by exact bb_al_step hno (by simp [h6, q6, h14, q14, h28, q28])⟩
      · skip
        have q28 := bb_nz h28
        refine lv_iconst (v := 0) hx hb dX0_meet_31 (by decide) ?_
        have er : bb_I (bb_al (fun x9 => !(bb_en w k (nI x9) && bb_en w k (1023 &&& bb_not (nI x9)))) 1024) = 0 := by rw [bb_al_no (j := j) (by simp [h6, q6, h14, q14, h28, q28]) hj]; rfl
        exact W.zret (v := 0) hx hb hr bb_z0 (fun t ht _ => ⟨by rw [er], ht⟩) (fun _ h => nomatch h) dX0_meet_32
  · skip
    intro ls hI
    obtain ⟨hl, hno⟩ := hI
    refine lv_iload_n hx hb dX0_meet_2 rfl (lv_at hl 1 rfl) ?_
    refine lv_sipush (v := nI 1024) hx hb dX0_meet_3 (by decide) ?_
    refine lv_icmp_ge (tgt := 39) hx hb dX0_meet_6 rfl (fun h6 => ?_) (fun h6 => absurd (nI_le (Nat.le_refl _) (by decide)) h6)
    have q6 := bb_nlt h6
    refine lv_iconst (v := 1) hx hb dX0_meet_39 (by decide) ?_
    have er : bb_I (bb_al (fun x9 => !(bb_en w k (nI x9) && bb_en w k (1023 &&& bb_not (nI x9)))) 1024) = 1 := by rw [hno]; rfl
    exact W.zret (v := 1) hx hb hr bb_z1 (fun t ht _ => ⟨by rw [er], ht⟩) (fun _ h => nomatch h) dX0_meet_40

set_option maxHeartbeats 4000000 in
set_option maxRecDepth 100000 in
theorem k_bare (l : Launch) (dC : Nat → ClassId) (dI : Nat → Nat → Nat) (cA : ClassId) (h0 a0 a1 a2 a3 : Nat) (w pr vo vf : Nat → Int32) (k : Int32)  : Met l yX0_bare wsX0_bare ({ frames := 3, cells := 0, slots := 0, locals := 66 }) (va_Pc [.ref h0] (bb_B (dC, dI) vwCl (bb_C h0 a0 a1 a2 a3 cA w pr vo vf k) [(cA, .int)])) (QcRead (nI (bb_cn (fun x9 => bb_bare w k (nI x9)) 1024))) 0 0 (fun _ => False) := by
  refine Met.ofW (cc := cX0_bare) (maxL := 3) (ret := some .int) (by decide) rfl ?_
  intro p e s m args below meth c s₁ B hml hv
  obtain ⟨rfl, hP, hK⟩ := hv
  have hx := B.exec
  have hb := B.bytes
  have hr := B.returns
  have hts := atoms_spec (ws := wsX0_bare) B.pre
  have hown : s.vm.findClass RX0 = some m.cls := findClass_of_methodNamed B.named
  have hlocks := B.notSynchronized
  have hl := lv_entry ([.ref h0]) (n := 3) (Nat.le_of_ble_eq_true rfl)
  rw [lg_entry_eq]
  generalize (lg_sl ([.ref h0]) ++ List.replicate (3 - (lg_sl ([.ref h0])).length) Slot.unset).toArray = ls at hl ⊢
  have hl : lv_has ls 3 [(0, .ref h0)] := hl
  refine lv_iconst (v := 0) hx hb dX0_bare_0 (by decide) ?_
  refine lv_istore_n (lv' := [(1, .int 0), (0, .ref h0)]) hx hb dX0_bare_1 rfl hl (by decide) rfl (fun ls hl => ?_)
  refine lv_iconst (v := 0) hx hb dX0_bare_2 (by decide) ?_
  refine lv_istore_n (lv' := [(2, .int 0), (1, .int 0), (0, .ref h0)]) hx hb dX0_bare_3 rfl hl (by decide) rfl (fun ls hl => ?_)
  have hl : lv_has ls 3 [(0, .ref h0), (1, .int 0), (2, .int 0)] := lv_sub hl [2, 1, 0] rfl
  refine bb_forW (pc := 4) (I := fun j9 ls => lv_has ls 3 [(0, .ref h0), (1, .int (nI (bb_cn (fun x9 => bb_bare w k (nI x9)) j9))), (2, .int (nI j9))]) 1024 ?_ ?_ 0 ls (Nat.zero_le _) hl
  · skip
    intro j ls hj hI ihj
    have hl := hI
    refine lv_iload_n hx hb dX0_bare_4 rfl (lv_at hl 2 rfl) ?_
    refine lv_sipush (v := nI 1024) hx hb dX0_bare_5 (by decide) ?_
    refine lv_icmp_ge (tgt := 28) hx hb dX0_bare_8 rfl (fun h8 => absurd h8 (nI_ge hj (by decide))) (fun h8 => ?_)
    have q8 := bb_lt h8
    refine lv_aload_n hx hb dX0_bare_11 rfl (lv_at hl 0 rfl) ?_
    refine lv_iload_n hx hb dX0_bare_12 rfl (lv_at hl 2 rfl) ?_
    refine bb_cV (As := [.int (nI j)]) (rest := []) (r := bb_I (bb_bare w k (nI j))) 0 ⟨hx, hb, hml, hown, hts⟩ (k_isBare l dC dI cA h0 a0 a1 a2 a3 w pr vo vf k (nI j)) (cwV 1 hts gX0_bare_X0_isBare rfl rfl rfl (by decide +kernel) ⟨Nat.le_of_ble_eq_true rfl, Nat.le_of_ble_eq_true rfl⟩) hP hK rfl rfl rfl hl.1 rfl (Nat.le_of_ble_eq_true rfl) dX0_bare_13 (Nat.zero_le _) (Nat.zero_le _) ?_
    refine lv_if_eq (tgt := 22) hx hb dX0_bare_16 rfl (fun h16 => ?_) (fun h16 => ?_)
    · skip
      have q16 := bb_I_0.mp h16
      refine lv_iinc (v := nI (j + 1)) (lv' := [(2, .int (nI (j + 1))), (0, .ref h0), (1, .int (nI (bb_cn (fun x9 => bb_bare w k (nI x9)) j)))]) hx hb dX0_bare_22 hl (k := 2) rfl (bb_inc _) (by decide) rfl (fun ls hl => ?_)
      refine lv_goto (tgt := 4) hx hb dX0_bare_25 rfl ?_
      have hl : lv_has ls 3 [(0, .ref h0), (1, .int (nI (bb_cn (fun x9 => bb_bare w k (nI x9)) j))), (2, .int (nI (j + 1)))] := lv_sub hl [1, 2, 0] rfl
      have e1 : (nI (bb_cn (fun x9 => bb_bare w k (nI x9)) j)) = nI (bb_cn (fun x9 => bb_bare w k (nI x9)) (j + 1)) := by simp [bb_cn, h8, q8, h16, q16]
      have hl : lv_has ls 3 [(0, .ref h0), (1, .int (nI (bb_cn (fun x9 => bb_bare w k (nI x9)) (j + 1)))), (2, .int (nI (j + 1)))] := by rw [← e1]; exact hl
      exact ihj ls hl
    · skip
      have q16 := bb_nz h16
      refine lv_iinc (v := nI ((bb_cn (fun x9 => bb_bare w k (nI x9)) j) + 1)) (lv' := [(1, .int (nI ((bb_cn (fun x9 => bb_bare w k (nI x9)) j) + 1))), (0, .ref h0), (2, .int (nI j))]) hx hb dX0_bare_19 hl (k := 1) rfl (bb_inc _) (by decide) rfl (fun ls hl => ?_)
      refine lv_iinc (v := nI (j + 1)) (lv' := [(2, .int (nI (j + 1))), (1, .int (nI ((bb_cn (fun x9 => bb_bare w k (nI x9)) j) + 1))), (0, .ref h0)]) hx hb dX0_bare_22 hl (k := 2) rfl (bb_inc _) (by decide) rfl (fun ls hl => ?_)
      refine lv_goto (tgt := 4) hx hb dX0_bare_25 rfl ?_
      have hl : lv_has ls 3 [(0, .ref h0), (1, .int (nI ((bb_cn (fun x9 => bb_bare w k (nI x9)) j) + 1))), (2, .int (nI (j + 1)))] := lv_sub hl [2, 1, 0] rfl
      have e2 : (nI ((bb_cn (fun x9 => bb_bare w k (nI x9)) j) + 1)) = nI (bb_cn (fun x9 => bb_bare w k (nI x9)) (j + 1)) := by simp [bb_cn, h8, q8, h16, q16]
      have hl : lv_has ls 3 [(0, .ref h0), (1, .int (nI (bb_cn (fun x9 => bb_bare w k (nI x9)) (j + 1)))), (2, .int (nI (j + 1)))] := by rw [← e2]; exact hl
      exact ihj ls hl
  · skip
    intro ls hI
    have hl := hI
    refine lv_iload_n hx hb dX0_bare_4 rfl (lv_at hl 2 rfl) ?_
    refine lv_sipush (v := nI 1024) hx hb dX0_bare_5 (by decide) ?_
    refine lv_icmp_ge (tgt := 28) hx hb dX0_bare_8 rfl (fun h8 => ?_) (fun h8 => absurd (nI_le (Nat.le_refl _) (by decide)) h8)
    have q8 := bb_nlt h8
    refine lv_iload_n hx hb dX0_bare_28 rfl (lv_at hl 1 rfl) ?_
    exact W.iret (v := nI (bb_cn (fun x9 => bb_bare w k (nI x9)) 1024)) hx hb hr (fun t ht _ => ⟨rfl, ht⟩) (fun _ h => nomatch h) dX0_bare_29

set_option maxHeartbeats 4000000 in
set_option maxRecDepth 100000 in
theorem k_about_0 (l : Launch) (dC : Nat → ClassId) (dI : Nat → Nat → Nat) (cA : ClassId) (h0 a0 a1 a2 a3 : Nat) (w pr vo vf : Nat → Int32) (k : Int32) (n : Nat) (hn0 : n < 10) : Met l yX0_about wsX0_about ({ frames := 2, cells := 0, slots := 0, locals := 44 }) (va_Pc [.ref h0, .int (nI n), .int 0] (bb_B (dC, dI) vwCl (bb_C h0 a0 a1 a2 a3 cA w pr vo vf k) [(cA, .int)])) (QcRead (w n)) 0 0 (fun _ => False) := by
  refine Met.ofW (cc := cX0_about) (maxL := 3) (ret := some .int) (by decide) rfl ?_
  intro p e s m args below meth c s₁ B hml hv
  obtain ⟨rfl, hP, hK⟩ := hv
  have hx := B.exec
  have hb := B.bytes
  have hr := B.returns
  have hts := atoms_spec (ws := wsX0_about) B.pre
  have hown : s.vm.findClass RX0 = some m.cls := findClass_of_methodNamed B.named
  have hlocks := B.notSynchronized
  have hin : ∀ w9 ∈ u_ws RX0 TX0 5, w9 ∈ wsX0_about := fun w9 h9 => List.mem_cons_of_mem _ (bb_inX0 w9 h9)
  have hf9 := hts _ (List.mem_cons_of_mem _ bb_fX0_9)
  have hf13 := hts _ (List.mem_cons_of_mem _ bb_fX0_13)
  have hl := lv_entry ([.ref h0, .int (nI n), .int 0]) (n := 3) (Nat.le_of_ble_eq_true rfl)
  rw [lg_entry_eq]
  generalize (lg_sl ([.ref h0, .int (nI n), .int 0]) ++ List.replicate (3 - (lg_sl ([.ref h0, .int (nI n), .int 0])).length) Slot.unset).toArray = ls at hl ⊢
  have hl : lv_has ls 3 [(0, .ref h0), (1, .int (nI n)), (2, .int 0)] := hl
  refine lv_iload_n hx hb dX0_about_0 rfl (lv_at hl 1 rfl) ?_
  refine bb_cSv (As := [.int (nI n)]) (rest := []) ⟨hx, hb, hml, hown, hts⟩ (k_requireNode l n (by omega)) (cwS 1 hts gX0_about_X0_requireNode rfl rfl rfl (by decide +kernel) ⟨Nat.le_of_ble_eq_true rfl, Nat.le_of_ble_eq_true rfl⟩) rfl hl.1 rfl (Nat.le_of_ble_eq_true rfl) dX0_about_1 (Nat.zero_le _) (Nat.zero_le _) ?_
  refine lv_iload_n hx hb dX0_about_4 rfl (lv_at hl 2 rfl) ?_
  refine lv_tableIn (off := 31) (tgt := 36) hx hb dX0_about_5 (by decide) (by decide) rfl rfl ?_
  refine lv_aload_n hx hb dX0_about_36 rfl (lv_at hl 0 rfl) ?_
  refine va_get (D := (dC, dI)) (ci := 0) (v := .ref a0) (C := RX0) (T := TX0) (N := 5) hx hb hts hin hown hK hP 0 rfl rfl 0 (by decide) hf9 (fun _ h9 => h9) rfl dX0_about_37 ?_
  refine lv_iload_n hx hb dX0_about_40 rfl (lv_at hl 1 rfl) ?_
  refine bb_ald hx hb hK hP 1 0 rfl rfl n (by omega) (by decide) dX0_about_41 ?_
  exact W.iret (v := w n) hx hb hr (fun t ht _ => ⟨rfl, ht⟩) (fun _ h => nomatch h) dX0_about_42

set_option maxHeartbeats 4000000 in
set_option maxRecDepth 100000 in
theorem k_about_1 (l : Launch) (dC : Nat → ClassId) (dI : Nat → Nat → Nat) (cA : ClassId) (h0 a0 a1 a2 a3 : Nat) (w pr vo vf : Nat → Int32) (k : Int32) (n : Nat) (hn0 : n < 10) : Met l yX0_about wsX0_about ({ frames := 2, cells := 0, slots := 0, locals := 44 }) (va_Pc [.ref h0, .int (nI n), .int 1] (bb_B (dC, dI) vwCl (bb_C h0 a0 a1 a2 a3 cA w pr vo vf k) [(cA, .int)])) (QcRead (pr n)) 0 0 (fun _ => False) := by
  refine Met.ofW (cc := cX0_about) (maxL := 3) (ret := some .int) (by decide) rfl ?_
  intro p e s m args below meth c s₁ B hml hv
  obtain ⟨rfl, hP, hK⟩ := hv
  have hx := B.exec
  have hb := B.bytes
  have hr := B.returns
  have hts := atoms_spec (ws := wsX0_about) B.pre
  have hown : s.vm.findClass RX0 = some m.cls := findClass_of_methodNamed B.named
  have hlocks := B.notSynchronized
  have hin : ∀ w9 ∈ u_ws RX0 TX0 5, w9 ∈ wsX0_about := fun w9 h9 => List.mem_cons_of_mem _ (bb_inX0 w9 h9)
  have hf9 := hts _ (List.mem_cons_of_mem _ bb_fX0_9)
  have hf13 := hts _ (List.mem_cons_of_mem _ bb_fX0_13)
  have hl := lv_entry ([.ref h0, .int (nI n), .int 1]) (n := 3) (Nat.le_of_ble_eq_true rfl)
  rw [lg_entry_eq]
  generalize (lg_sl ([.ref h0, .int (nI n), .int 1]) ++ List.replicate (3 - (lg_sl ([.ref h0, .int (nI n), .int 1])).length) Slot.unset).toArray = ls at hl ⊢
  have hl : lv_has ls 3 [(0, .ref h0), (1, .int (nI n)), (2, .int 1)] := hl
  refine lv_iload_n hx hb dX0_about_0 rfl (lv_at hl 1 rfl) ?_
  refine bb_cSv (As := [.int (nI n)]) (rest := []) ⟨hx, hb, hml, hown, hts⟩ (k_requireNode l n (by omega)) (cwS 1 hts gX0_about_X0_requireNode rfl rfl rfl (by decide +kernel) ⟨Nat.le_of_ble_eq_true rfl, Nat.le_of_ble_eq_true rfl⟩) rfl hl.1 rfl (Nat.le_of_ble_eq_true rfl) dX0_about_1 (Nat.zero_le _) (Nat.zero_le _) ?_
  refine lv_iload_n hx hb dX0_about_4 rfl (lv_at hl 2 rfl) ?_
  refine lv_tableIn (off := 38) (tgt := 43) hx hb dX0_about_5 (by decide) (by decide) rfl rfl ?_
  refine lv_aload_n hx hb dX0_about_43 rfl (lv_at hl 0 rfl) ?_
  refine va_get (D := (dC, dI)) (ci := 0) (v := .ref a1) (C := RX0) (T := TX0) (N := 5) hx hb hts hin hown hK hP 0 rfl rfl 1 (by decide) hf13 (fun _ h9 => h9) rfl dX0_about_44 ?_
  refine lv_iload_n hx hb dX0_about_47 rfl (lv_at hl 1 rfl) ?_
  refine bb_ald hx hb hK hP 2 0 rfl rfl n (by omega) (by decide) dX0_about_48 ?_
  exact W.iret (v := pr n) hx hb hr (fun t ht _ => ⟨rfl, ht⟩) (fun _ h => nomatch h) dX0_about_49

set_option maxHeartbeats 4000000 in
set_option maxRecDepth 100000 in
theorem k_about_2 (l : Launch) (dC : Nat → ClassId) (dI : Nat → Nat → Nat) (cA : ClassId) (h0 a0 a1 a2 a3 : Nat) (w pr vo vf : Nat → Int32) (k : Int32) (n : Nat) (hn0 : n < 10) : Met l yX0_about wsX0_about ({ frames := 2, cells := 0, slots := 0, locals := 44 }) (va_Pc [.ref h0, .int (nI n), .int 2] (bb_B (dC, dI) vwCl (bb_C h0 a0 a1 a2 a3 cA w pr vo vf k) [(cA, .int)])) (QcRead (nI (bb_cn (fun b9 => bb_hb (vo b9) n) 31))) 0 0 (fun _ => False) := by
  refine Met.ofW (cc := cX0_about) (maxL := 3) (ret := some .int) (by decide) rfl ?_
  intro p e s m args below meth c s₁ B hml hv
  obtain ⟨rfl, hP, hK⟩ := hv
  have hx := B.exec
  have hb := B.bytes
  have hr := B.returns
  have hts := atoms_spec (ws := wsX0_about) B.pre
  have hown : s.vm.findClass RX0 = some m.cls := findClass_of_methodNamed B.named
  have hlocks := B.notSynchronized
  have hin : ∀ w9 ∈ u_ws RX0 TX0 5, w9 ∈ wsX0_about := fun w9 h9 => List.mem_cons_of_mem _ (bb_inX0 w9 h9)
  have hf9 := hts _ (List.mem_cons_of_mem _ bb_fX0_9)
  have hf13 := hts _ (List.mem_cons_of_mem _ bb_fX0_13)
  have hl := lv_entry ([.ref h0, .int (nI n), .int 2]) (n := 3) (Nat.le_of_ble_eq_true rfl)
  rw [lg_entry_eq]
  generalize (lg_sl ([.ref h0, .int (nI n), .int 2]) ++ List.replicate (3 - (lg_sl ([.ref h0, .int (nI n), .int 2])).length) Slot.unset).toArray = ls at hl ⊢
  have hl : lv_has ls 3 [(0, .ref h0), (1, .int (nI n)), (2, .int 2)] := hl
  refine lv_iload_n hx hb dX0_about_0 rfl (lv_at hl 1 rfl) ?_
  refine bb_cSv (As := [.int (nI n)]) (rest := []) ⟨hx, hb, hml, hown, hts⟩ (k_requireNode l n (by omega)) (cwS 1 hts gX0_about_X0_requireNode rfl rfl rfl (by decide +kernel) ⟨Nat.le_of_ble_eq_true rfl, Nat.le_of_ble_eq_true rfl⟩) rfl hl.1 rfl (Nat.le_of_ble_eq_true rfl) dX0_about_1 (Nat.zero_le _) (Nat.zero_le _) ?_
  refine lv_iload_n hx hb dX0_about_4 rfl (lv_at hl 2 rfl) ?_
  refine lv_tableIn (off := 45) (tgt := 50) hx hb dX0_about_5 (by decide) (by decide) rfl rfl ?_
  refine lv_aload_n hx hb dX0_about_50 rfl (lv_at hl 0 rfl) ?_
  refine lv_iload_n hx hb dX0_about_51 rfl (lv_at hl 1 rfl) ?_
  refine bb_cV (As := [.int (nI n)]) (rest := []) (r := nI (bb_cn (fun b9 => bb_hb (vo b9) n) 31)) 0 ⟨hx, hb, hml, hown, hts⟩ (k_ballotsVotedIn l dC dI cA h0 a0 a1 a2 a3 w pr vo vf k n) (cwV 1 hts gX0_about_X0_ballotsVotedIn rfl rfl rfl (by decide +kernel) ⟨Nat.le_of_ble_eq_true rfl, Nat.le_of_ble_eq_true rfl⟩) hP hK rfl rfl rfl hl.1 rfl (Nat.le_of_ble_eq_true rfl) dX0_about_52 (Nat.zero_le _) (Nat.zero_le _) ?_
  exact W.iret (v := nI (bb_cn (fun b9 => bb_hb (vo b9) n) 31)) hx hb hr (fun t ht _ => ⟨rfl, ht⟩) (fun _ h => nomatch h) dX0_about_55

set_option maxHeartbeats 4000000 in
set_option maxRecDepth 100000 in
theorem k_about_3 (l : Launch) (dC : Nat → ClassId) (dI : Nat → Nat → Nat) (cA : ClassId) (h0 a0 a1 a2 a3 : Nat) (w pr vo vf : Nat → Int32) (k : Int32) (n : Nat) (hn0 : n < 10) : Met l yX0_about wsX0_about ({ frames := 2, cells := 0, slots := 0, locals := 44 }) (va_Pc [.ref h0, .int (nI n), .int 3] (bb_B (dC, dI) vwCl (bb_C h0 a0 a1 a2 a3 cA w pr vo vf k) [(cA, .int)])) (QcRead (bb_la (fun c9 => decide (vo c9 &&& (1 <<< (nI n &&& 31)) ≠ 0)) 31)) 0 0 (fun _ => False) := by
  refine Met.ofW (cc := cX0_about) (maxL := 3) (ret := some .int) (by decide) rfl ?_
  intro p e s m args below meth c s₁ B hml hv
  obtain ⟨rfl, hP, hK⟩ := hv
  have hx := B.exec
  have hb := B.bytes
  have hr := B.returns
  have hts := atoms_spec (ws := wsX0_about) B.pre
  have hown : s.vm.findClass RX0 = some m.cls := findClass_of_methodNamed B.named
  have hlocks := B.notSynchronized
  have hin : ∀ w9 ∈ u_ws RX0 TX0 5, w9 ∈ wsX0_about := fun w9 h9 => List.mem_cons_of_mem _ (bb_inX0 w9 h9)
  have hf9 := hts _ (List.mem_cons_of_mem _ bb_fX0_9)
  have hf13 := hts _ (List.mem_cons_of_mem _ bb_fX0_13)
  have hl := lv_entry ([.ref h0, .int (nI n), .int 3]) (n := 3) (Nat.le_of_ble_eq_true rfl)
  rw [lg_entry_eq]
  generalize (lg_sl ([.ref h0, .int (nI n), .int 3]) ++ List.replicate (3 - (lg_sl ([.ref h0, .int (nI n), .int 3])).length) Slot.unset).toArray = ls at hl ⊢
  have hl : lv_has ls 3 [(0, .ref h0), (1, .int (nI n)), (2, .int 3)] := hl
  refine lv_iload_n hx hb dX0_about_0 rfl (lv_at hl 1 rfl) ?_
  refine bb_cSv (As := [.int (nI n)]) (rest := []) ⟨hx, hb, hml, hown, hts⟩ (k_requireNode l n (by omega)) (cwS 1 hts gX0_about_X0_requireNode rfl rfl rfl (by decide +kernel) ⟨Nat.le_of_ble_eq_true rfl, Nat.le_of_ble_eq_true rfl⟩) rfl hl.1 rfl (Nat.le_of_ble_eq_true rfl) dX0_about_1 (Nat.zero_le _) (Nat.zero_le _) ?_
  refine lv_iload_n hx hb dX0_about_4 rfl (lv_at hl 2 rfl) ?_
  refine lv_tableIn (off := 51) (tgt := 56) hx hb dX0_about_5 (by decide) (by decide) rfl rfl ?_
  refine lv_aload_n hx hb dX0_about_56 rfl (lv_at hl 0 rfl) ?_
  refine lv_bipush (v := nI 31) hx hb dX0_about_57 (by decide) ?_
  refine lv_iconst (v := 1) hx hb dX0_about_59 (by decide) ?_
  refine lv_iload_n hx hb dX0_about_60 rfl (lv_at hl 1 rfl) ?_
  refine lv_ishl hx hb dX0_about_61 ?_
  refine bb_cV (As := [.int (nI 31), .int (1 <<< ((nI n) &&& 31))]) (rest := []) (r := bb_la (fun c9 => decide (vo c9 &&& (1 <<< ((nI n) &&& 31)) ≠ 0)) 31) 0 ⟨hx, hb, hml, hown, hts⟩ (k_lastBallotBelow l dC dI cA h0 a0 a1 a2 a3 w pr vo vf k 31 (1 <<< ((nI n) &&& 31)) (by omega)) (cwV 2 hts gX0_about_X0_lastBallotBelow rfl rfl rfl (by decide +kernel) ⟨Nat.le_of_ble_eq_true rfl, Nat.le_of_ble_eq_true rfl⟩) hP hK rfl rfl rfl hl.1 rfl (Nat.le_of_ble_eq_true rfl) dX0_about_62 (Nat.zero_le _) (Nat.zero_le _) ?_
  have er : bb_la (fun c9 => decide (vo c9 &&& (1 <<< (nI n &&& 31)) ≠ 0)) 31 = bb_la (fun c9 => decide (vo c9 &&& (1 <<< ((nI n) &&& 31)) ≠ 0)) 31 := by simp []
  exact W.iret (v := bb_la (fun c9 => decide (vo c9 &&& (1 <<< ((nI n) &&& 31)) ≠ 0)) 31) hx hb hr (fun t ht _ => ⟨by rw [er], ht⟩) (fun _ h => nomatch h) dX0_about_65

set_option maxHeartbeats 4000000 in
set_option maxRecDepth 100000 in
theorem k_count_0 (l : Launch) (dC : Nat → ClassId) (dI : Nat → Nat → Nat) (cA : ClassId) (h0 a0 a1 a2 a3 : Nat) (w pr vo vf : Nat → Int32) (k : Int32)  : Met l yX0_count wsX0_count ({ frames := 5, cells := 0, slots := 0, locals := 109 }) (va_Pc [.ref h0, .int 0] (bb_B (dC, dI) vwCl (bb_C h0 a0 a1 a2 a3 cA w pr vo vf k) [(cA, .int)])) (QcRead (k)) 0 0 (fun _ => False) := by
  refine Met.ofW (cc := cX0_count) (maxL := 2) (ret := some .int) (by decide) rfl ?_
  intro p e s m args below meth c s₁ B hml hv
  obtain ⟨rfl, hP, hK⟩ := hv
  have hx := B.exec
  have hb := B.bytes
  have hr := B.returns
  have hts := atoms_spec (ws := wsX0_count) B.pre
  have hown : s.vm.findClass RX0 = some m.cls := findClass_of_methodNamed B.named
  have hlocks := B.notSynchronized
  have hin : ∀ w9 ∈ u_ws RX0 TX0 5, w9 ∈ wsX0_count := fun w9 h9 => List.mem_cons_of_mem _ (bb_inX0 w9 h9)
  have hf22 := hts _ (List.mem_cons_of_mem _ bb_fX0_22)
  have hl := lv_entry ([.ref h0, .int 0]) (n := 2) (Nat.le_of_ble_eq_true rfl)
  rw [lg_entry_eq]
  generalize (lg_sl ([.ref h0, .int 0]) ++ List.replicate (2 - (lg_sl ([.ref h0, .int 0])).length) Slot.unset).toArray = ls at hl ⊢
  have hl : lv_has ls 2 [(0, .ref h0), (1, .int 0)] := hl
  refine lv_iload_n hx hb dX0_count_0 rfl (lv_at hl 1 rfl) ?_
  refine lv_tableIn (off := 35) (tgt := 36) hx hb dX0_count_1 (by decide) (by decide) rfl rfl ?_
  refine lv_aload_n hx hb dX0_count_36 rfl (lv_at hl 0 rfl) ?_
  refine va_get (D := (dC, dI)) (ci := 0) (v := .int k) (C := RX0) (T := TX0) (N := 5) hx hb hts hin hown hK hP 0 rfl rfl 4 (by decide) hf22 (fun _ h9 => h9) rfl dX0_count_37 ?_
  exact W.iret (v := k) hx hb hr (fun t ht _ => ⟨rfl, ht⟩) (fun _ h => nomatch h) dX0_count_40

set_option maxHeartbeats 4000000 in
set_option maxRecDepth 100000 in
theorem k_count_1 (l : Launch) (dC : Nat → ClassId) (dI : Nat → Nat → Nat) (cA : ClassId) (h0 a0 a1 a2 a3 : Nat) (w pr vo vf : Nat → Int32) (k : Int32)  : Met l yX0_count wsX0_count ({ frames := 5, cells := 0, slots := 0, locals := 109 }) (va_Pc [.ref h0, .int 1] (bb_B (dC, dI) vwCl (bb_C h0 a0 a1 a2 a3 cA w pr vo vf k) [(cA, .int)])) (QcRead (bb_ws w 1023 10)) 0 0 (fun _ => False) := by
  refine Met.ofW (cc := cX0_count) (maxL := 2) (ret := some .int) (by decide) rfl ?_
  intro p e s m args below meth c s₁ B hml hv
  obtain ⟨rfl, hP, hK⟩ := hv
  have hx := B.exec
  have hb := B.bytes
  have hr := B.returns
  have hts := atoms_spec (ws := wsX0_count) B.pre
  have hown : s.vm.findClass RX0 = some m.cls := findClass_of_methodNamed B.named
  have hlocks := B.notSynchronized
  have hin : ∀ w9 ∈ u_ws RX0 TX0 5, w9 ∈ wsX0_count := fun w9 h9 => List.mem_cons_of_mem _ (bb_inX0 w9 h9)
  have hf22 := hts _ (List.mem_cons_of_mem _ bb_fX0_22)
  have hl := lv_entry ([.ref h0, .int 1]) (n := 2) (Nat.le_of_ble_eq_true rfl)
  rw [lg_entry_eq]
  generalize (lg_sl ([.ref h0, .int 1]) ++ List.replicate (2 - (lg_sl ([.ref h0, .int 1])).length) Slot.unset).toArray = ls at hl ⊢
  have hl : lv_has ls 2 [(0, .ref h0), (1, .int 1)] := hl
  refine lv_iload_n hx hb dX0_count_0 rfl (lv_at hl 1 rfl) ?_
  refine lv_tableIn (off := 40) (tgt := 41) hx hb dX0_count_1 (by decide) (by decide) rfl rfl ?_
  refine lv_aload_n hx hb dX0_count_41 rfl (lv_at hl 0 rfl) ?_
  refine lv_sipush (v := 1023) hx hb dX0_count_42 (by decide) ?_
  refine bb_cV (As := [.int 1023]) (rest := []) (r := bb_ws w 1023 10) 0 ⟨hx, hb, hml, hown, hts⟩ (k_weightOf l dC dI cA h0 a0 a1 a2 a3 w pr vo vf k 1023) (cwV 1 hts gX0_count_X0_weightOf rfl rfl rfl (by decide +kernel) ⟨Nat.le_of_ble_eq_true rfl, Nat.le_of_ble_eq_true rfl⟩) hP hK rfl rfl rfl hl.1 rfl (Nat.le_of_ble_eq_true rfl) dX0_count_45 (Nat.zero_le _) (Nat.zero_le _) ?_
  exact W.iret (v := bb_ws w 1023 10) hx hb hr (fun t ht _ => ⟨rfl, ht⟩) (fun _ h => nomatch h) dX0_count_48

set_option maxHeartbeats 4000000 in
set_option maxRecDepth 100000 in
theorem k_count_2 (l : Launch) (dC : Nat → ClassId) (dI : Nat → Nat → Nat) (cA : ClassId) (h0 a0 a1 a2 a3 : Nat) (w pr vo vf : Nat → Int32) (k : Int32)  : Met l yX0_count wsX0_count ({ frames := 5, cells := 0, slots := 0, locals := 109 }) (va_Pc [.ref h0, .int 2] (bb_B (dC, dI) vwCl (bb_C h0 a0 a1 a2 a3 cA w pr vo vf k) [(cA, .int)])) (QcRead (bb_vs vo 31)) 0 0 (fun _ => False) := by
  refine Met.ofW (cc := cX0_count) (maxL := 2) (ret := some .int) (by decide) rfl ?_
  intro p e s m args below meth c s₁ B hml hv
  obtain ⟨rfl, hP, hK⟩ := hv
  have hx := B.exec
  have hb := B.bytes
  have hr := B.returns
  have hts := atoms_spec (ws := wsX0_count) B.pre
  have hown : s.vm.findClass RX0 = some m.cls := findClass_of_methodNamed B.named
  have hlocks := B.notSynchronized
  have hin : ∀ w9 ∈ u_ws RX0 TX0 5, w9 ∈ wsX0_count := fun w9 h9 => List.mem_cons_of_mem _ (bb_inX0 w9 h9)
  have hf22 := hts _ (List.mem_cons_of_mem _ bb_fX0_22)
  have hl := lv_entry ([.ref h0, .int 2]) (n := 2) (Nat.le_of_ble_eq_true rfl)
  rw [lg_entry_eq]
  generalize (lg_sl ([.ref h0, .int 2]) ++ List.replicate (2 - (lg_sl ([.ref h0, .int 2])).length) Slot.unset).toArray = ls at hl ⊢
  have hl : lv_has ls 2 [(0, .ref h0), (1, .int 2)] := hl
  refine lv_iload_n hx hb dX0_count_0 rfl (lv_at hl 1 rfl) ?_
  refine lv_tableIn (off := 48) (tgt := 49) hx hb dX0_count_1 (by decide) (by decide) rfl rfl ?_
  refine lv_aload_n hx hb dX0_count_49 rfl (lv_at hl 0 rfl) ?_
  refine bb_cV (As := []) (rest := []) (r := bb_vs vo 31) 0 ⟨hx, hb, hml, hown, hts⟩ (k_allVotes l dC dI cA h0 a0 a1 a2 a3 w pr vo vf k) (cwV 0 hts gX0_count_X0_allVotes rfl rfl rfl (by decide +kernel) ⟨Nat.le_of_ble_eq_true rfl, Nat.le_of_ble_eq_true rfl⟩) hP hK rfl rfl rfl hl.1 rfl (Nat.le_of_ble_eq_true rfl) dX0_count_50 (Nat.zero_le _) (Nat.zero_le _) ?_
  exact W.iret (v := bb_vs vo 31) hx hb hr (fun t ht _ => ⟨rfl, ht⟩) (fun _ h => nomatch h) dX0_count_53

set_option maxHeartbeats 4000000 in
set_option maxRecDepth 100000 in
theorem k_count_3 (l : Launch) (dC : Nat → ClassId) (dI : Nat → Nat → Nat) (cA : ClassId) (h0 a0 a1 a2 a3 : Nat) (w pr vo vf : Nat → Int32) (k : Int32)  : Met l yX0_count wsX0_count ({ frames := 5, cells := 0, slots := 0, locals := 109 }) (va_Pc [.ref h0, .int 3] (bb_B (dC, dI) vwCl (bb_C h0 a0 a1 a2 a3 cA w pr vo vf k) [(cA, .int)])) (QcRead (nI (bb_cn (fun b9 => decide (bb_cho w k vo vf b9 ≠ -1)) 31))) 0 0 (fun _ => False) := by
  refine Met.ofW (cc := cX0_count) (maxL := 2) (ret := some .int) (by decide) rfl ?_
  intro p e s m args below meth c s₁ B hml hv
  obtain ⟨rfl, hP, hK⟩ := hv
  have hx := B.exec
  have hb := B.bytes
  have hr := B.returns
  have hts := atoms_spec (ws := wsX0_count) B.pre
  have hown : s.vm.findClass RX0 = some m.cls := findClass_of_methodNamed B.named
  have hlocks := B.notSynchronized
  have hin : ∀ w9 ∈ u_ws RX0 TX0 5, w9 ∈ wsX0_count := fun w9 h9 => List.mem_cons_of_mem _ (bb_inX0 w9 h9)
  have hf22 := hts _ (List.mem_cons_of_mem _ bb_fX0_22)
  have hl := lv_entry ([.ref h0, .int 3]) (n := 2) (Nat.le_of_ble_eq_true rfl)
  rw [lg_entry_eq]
  generalize (lg_sl ([.ref h0, .int 3]) ++ List.replicate (2 - (lg_sl ([.ref h0, .int 3])).length) Slot.unset).toArray = ls at hl ⊢
  have hl : lv_has ls 2 [(0, .ref h0), (1, .int 3)] := hl
  refine lv_iload_n hx hb dX0_count_0 rfl (lv_at hl 1 rfl) ?_
  refine lv_tableIn (off := 53) (tgt := 54) hx hb dX0_count_1 (by decide) (by decide) rfl rfl ?_
  refine lv_aload_n hx hb dX0_count_54 rfl (lv_at hl 0 rfl) ?_
  refine bb_cV (As := []) (rest := []) (r := nI (bb_cn (fun b9 => decide (bb_cho w k vo vf b9 ≠ -1)) 31)) 0 ⟨hx, hb, hml, hown, hts⟩ (k_ballotsWithChosen l dC dI cA h0 a0 a1 a2 a3 w pr vo vf k) (cwV 0 hts gX0_count_X0_ballotsWithChosen rfl rfl rfl (by decide +kernel) ⟨Nat.le_of_ble_eq_true rfl, Nat.le_of_ble_eq_true rfl⟩) hP hK rfl rfl rfl hl.1 rfl (Nat.le_of_ble_eq_true rfl) dX0_count_55 (Nat.zero_le _) (Nat.zero_le _) ?_
  exact W.iret (v := nI (bb_cn (fun b9 => decide (bb_cho w k vo vf b9 ≠ -1)) 31)) hx hb hr (fun t ht _ => ⟨rfl, ht⟩) (fun _ h => nomatch h) dX0_count_58

set_option maxHeartbeats 4000000 in
set_option maxRecDepth 100000 in
theorem k_count_4 (l : Launch) (dC : Nat → ClassId) (dI : Nat → Nat → Nat) (cA : ClassId) (h0 a0 a1 a2 a3 : Nat) (w pr vo vf : Nat → Int32) (k : Int32)  : Met l yX0_count wsX0_count ({ frames := 5, cells := 0, slots := 0, locals := 109 }) (va_Pc [.ref h0, .int 4] (bb_B (dC, dI) vwCl (bb_C h0 a0 a1 a2 a3 cA w pr vo vf k) [(cA, .int)])) (QcRead (bb_bc (bb_se (bb_cho w k vo vf) 31))) 0 0 (fun _ => False) := by
  refine Met.ofW (cc := cX0_count) (maxL := 2) (ret := some .int) (by decide) rfl ?_
  intro p e s m args below meth c s₁ B hml hv
  obtain ⟨rfl, hP, hK⟩ := hv
  have hx := B.exec
  have hb := B.bytes
  have hr := B.returns
  have hts := atoms_spec (ws := wsX0_count) B.pre
  have hown : s.vm.findClass RX0 = some m.cls := findClass_of_methodNamed B.named
  have hlocks := B.notSynchronized
  have hin : ∀ w9 ∈ u_ws RX0 TX0 5, w9 ∈ wsX0_count := fun w9 h9 => List.mem_cons_of_mem _ (bb_inX0 w9 h9)
  have hf22 := hts _ (List.mem_cons_of_mem _ bb_fX0_22)
  have hl := lv_entry ([.ref h0, .int 4]) (n := 2) (Nat.le_of_ble_eq_true rfl)
  rw [lg_entry_eq]
  generalize (lg_sl ([.ref h0, .int 4]) ++ List.replicate (2 - (lg_sl ([.ref h0, .int 4])).length) Slot.unset).toArray = ls at hl ⊢
  have hl : lv_has ls 2 [(0, .ref h0), (1, .int 4)] := hl
  refine lv_iload_n hx hb dX0_count_0 rfl (lv_at hl 1 rfl) ?_
  refine lv_tableIn (off := 58) (tgt := 59) hx hb dX0_count_1 (by decide) (by decide) rfl rfl ?_
  refine lv_aload_n hx hb dX0_count_59 rfl (lv_at hl 0 rfl) ?_
  refine bb_cV (As := []) (rest := []) (r := bb_bc (bb_se (bb_cho w k vo vf) 31)) 0 ⟨hx, hb, hml, hown, hts⟩ (k_differentChosen l dC dI cA h0 a0 a1 a2 a3 w pr vo vf k) (cwV 0 hts gX0_count_X0_differentChosen rfl rfl rfl (by decide +kernel) ⟨Nat.le_of_ble_eq_true rfl, Nat.le_of_ble_eq_true rfl⟩) hP hK rfl rfl rfl hl.1 rfl (Nat.le_of_ble_eq_true rfl) dX0_count_60 (Nat.zero_le _) (Nat.zero_le _) ?_
  exact W.iret (v := bb_bc (bb_se (bb_cho w k vo vf) 31)) hx hb hr (fun t ht _ => ⟨rfl, ht⟩) (fun _ h => nomatch h) dX0_count_63

set_option maxHeartbeats 4000000 in
set_option maxRecDepth 100000 in
theorem k_count_x (l : Launch) (dC : Nat → ClassId) (dI : Nat → Nat → Nat) (cA : ClassId) (h0 a0 a1 a2 a3 : Nat) (w pr vo vf : Nat → Int32) (k : Int32) (x0 : Int32) (hbad : x0.toInt < 0 ∨ 4 < x0.toInt) : Met l yX0_count wsX0_count ({ frames := 5, cells := 0, slots := 0, locals := 109 }) (va_Pc [.ref h0, .int x0] (bb_B (dC, dI) vwCl (bb_C h0 a0 a1 a2 a3 cA w pr vo vf k) [(cA, .int)])) (QcRead ((-1))) 0 0 (fun _ => False) := by
  refine Met.ofW (cc := cX0_count) (maxL := 2) (ret := some .int) (by decide) rfl ?_
  intro p e s m args below meth c s₁ B hml hv
  obtain ⟨rfl, hP, hK⟩ := hv
  have hx := B.exec
  have hb := B.bytes
  have hr := B.returns
  have hts := atoms_spec (ws := wsX0_count) B.pre
  have hown : s.vm.findClass RX0 = some m.cls := findClass_of_methodNamed B.named
  have hlocks := B.notSynchronized
  have hin : ∀ w9 ∈ u_ws RX0 TX0 5, w9 ∈ wsX0_count := fun w9 h9 => List.mem_cons_of_mem _ (bb_inX0 w9 h9)
  have hf22 := hts _ (List.mem_cons_of_mem _ bb_fX0_22)
  have hl := lv_entry ([.ref h0, .int x0]) (n := 2) (Nat.le_of_ble_eq_true rfl)
  rw [lg_entry_eq]
  generalize (lg_sl ([.ref h0, .int x0]) ++ List.replicate (2 - (lg_sl ([.ref h0, .int x0])).length) Slot.unset).toArray = ls at hl ⊢
  have hl : lv_has ls 2 [(0, .ref h0), (1, .int x0)] := hl
  refine lv_iload_n hx hb dX0_count_0 rfl (lv_at hl 1 rfl) ?_
  refine lv_tableOut (tgt := 64) hx hb dX0_count_1 (hbad) rfl ?_
  refine lv_iconst (v := (-1)) hx hb dX0_count_64 (by decide) ?_
  exact W.iret (v := (-1)) hx hb hr (fun t ht _ => ⟨rfl, ht⟩) (fun _ h => nomatch h) dX0_count_65
