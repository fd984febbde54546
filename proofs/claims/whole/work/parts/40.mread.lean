abbrev bb_M (g0 b0 b1 b2 : Nat) (cA : ClassId) (w pr vt : Nat → Int32) (k th : Int32) : va_W := [(g0, .inr (1, [.ref b0, .ref b1, .ref b2, .int k, .int th])), (b0, .inl (cA, 10, .inl w)), (b1, .inl (cA, 10, .inl pr)), (b2, .inl (cA, 310, .inl vt))]

set_option maxHeartbeats 4000000 in
set_option maxRecDepth 100000 in
theorem m_out (l : Launch)  (x mo : Int32) : Met l yX1_out wsX1_out ({ frames := 0, cells := 0, slots := 0, locals := 0 }) (va_Pc [.int x, .int mo] (fun _ => True)) (QcRead (bb_I (bb_out x mo))) 0 0 (fun _ => False) := by
  refine Met.ofW (cc := cX1_out) (maxL := 2) (ret := some .boolean) (by decide) rfl ?_
  intro p e s m args below meth c s₁ B hml hv
  obtain ⟨rfl, -⟩ := hv
  have hx := B.exec
  have hb := B.bytes
  have hr := B.returns
  have hts := atoms_spec (ws := wsX1_out) B.pre
  have hown : s.vm.findClass RX1 = some m.cls := findClass_of_methodNamed B.named
  have hlocks := B.notSynchronized
  have hl := lv_entry ([.int x, .int mo]) (n := 2) (Nat.le_of_ble_eq_true rfl)
  rw [lg_entry_eq]
  generalize (lg_sl ([.int x, .int mo]) ++ List.replicate (2 - (lg_sl ([.int x, .int mo])).length) Slot.unset).toArray = ls at hl ⊢
  have hl : lv_has ls 2 [(0, .int x), (1, .int mo)] := hl
  refine lv_iload_n hx hb dX1_out_0 rfl (lv_at hl 0 rfl) ?_
  refine lv_if_lt (tgt := 9) hx hb dX1_out_1 rfl (fun h1 => ?_) (fun h1 => ?_)
  · skip
    refine lv_iconst (v := 1) hx hb dX1_out_9 (by decide) ?_
    refine lv_goto (tgt := 14) hx hb dX1_out_10 rfl ?_
    have er : bb_I (bb_out x mo) = 1 := by simp [bb_I, bb_out, h1]
    exact W.zret (v := 1) hx hb hr bb_z1 (fun t ht _ => ⟨by rw [er], ht⟩) (fun _ h => nomatch h) dX1_out_14
  · skip
    refine lv_iload_n hx hb dX1_out_4 rfl (lv_at hl 0 rfl) ?_
    refine lv_iload_n hx hb dX1_out_5 rfl (lv_at hl 1 rfl) ?_
    refine lv_icmp_lt (tgt := 13) hx hb dX1_out_6 rfl (fun h6 => ?_) (fun h6 => ?_)
    · skip
      have q6 := bb_nle h6
      refine lv_iconst (v := 0) hx hb dX1_out_13 (by decide) ?_
      have er : bb_I (bb_out x mo) = 0 := by simp [bb_I, bb_out, h1, h6, q6]
      exact W.zret (v := 0) hx hb hr bb_z0 (fun t ht _ => ⟨by rw [er], ht⟩) (fun _ h => nomatch h) dX1_out_14
    · skip
      have q6 := bb_le h6
      refine lv_iconst (v := 1) hx hb dX1_out_9 (by decide) ?_
      refine lv_goto (tgt := 14) hx hb dX1_out_10 rfl ?_
      have er : bb_I (bb_out x mo) = 1 := by simp [bb_I, bb_out, h1, h6, q6]
      exact W.zret (v := 1) hx hb hr bb_z1 (fun t ht _ => ⟨by rw [er], ht⟩) (fun _ h => nomatch h) dX1_out_14

set_option maxHeartbeats 4000000 in
set_option maxRecDepth 100000 in
theorem m_voteOf (l : Launch) (dC : Nat → ClassId) (dI : Nat → Nat → Nat) (cA : ClassId) (g0 b0 b1 b2 : Nat) (w pr vt : Nat → Int32) (k th : Int32) (n b : Nat) (hn0 : n < 10) (hb0 : b < 31) : Met l yX1_voteOf wsX1_voteOf ({ frames := 0, cells := 0, slots := 0, locals := 0 }) (va_Pc [.ref g0, .int (nI n), .int (nI b)] (bb_B (dC, dI) vwCl (bb_M g0 b0 b1 b2 cA w pr vt k th) [(cA, .int)])) (QcRead (vt (31 * n + b))) 0 0 (fun _ => False) := by
  refine Met.ofW (cc := cX1_voteOf) (maxL := 3) (ret := some .int) (by decide) rfl ?_
  intro p e s m args below meth c s₁ B hml hv
  obtain ⟨rfl, hP, hK⟩ := hv
  have hx := B.exec
  have hb := B.bytes
  have hr := B.returns
  have hts := atoms_spec (ws := wsX1_voteOf) B.pre
  have hown : s.vm.findClass RX1 = some m.cls := findClass_of_methodNamed B.named
  have hlocks := B.notSynchronized
  have hin : ∀ w9 ∈ u_ws RX1 TX1 5, w9 ∈ wsX1_voteOf := fun w9 h9 => List.mem_cons_of_mem _ (bb_inX1 w9 h9)
  have hf16 := hts _ (List.mem_cons_of_mem _ bb_fX1_16)
  have hl := lv_entry ([.ref g0, .int (nI n), .int (nI b)]) (n := 3) (Nat.le_of_ble_eq_true rfl)
  rw [lg_entry_eq]
  generalize (lg_sl ([.ref g0, .int (nI n), .int (nI b)]) ++ List.replicate (3 - (lg_sl ([.ref g0, .int (nI n), .int (nI b)])).length) Slot.unset).toArray = ls at hl ⊢
  have hl : lv_has ls 3 [(0, .ref g0), (1, .int (nI n)), (2, .int (nI b))] := hl
  refine lv_aload_n hx hb dX1_voteOf_0 rfl (lv_at hl 0 rfl) ?_
  refine va_get (D := (dC, dI)) (ci := 1) (v := .ref b2) (C := RX1) (T := TX1) (N := 5) hx hb hts hin hown hK hP 0 rfl rfl 2 (by decide) hf16 (fun _ h9 => h9) rfl dX1_voteOf_1 ?_
  refine lv_bipush (v := nI 31) hx hb dX1_voteOf_4 (by decide) ?_
  refine lv_iload_n hx hb dX1_voteOf_6 rfl (lv_at hl 1 rfl) ?_
  refine lv_imul hx hb dX1_voteOf_7 ?_
  refine lv_iload_n hx hb dX1_voteOf_8 rfl (lv_at hl 2 rfl) ?_
  refine lv_iadd hx hb dX1_voteOf_9 ?_
  refine bb_topi (y := nI (31 * n + b)) (by rw [pk_mul, nI_add]) ?_
  refine bb_ald hx hb hK hP 3 0 rfl rfl (31 * n + b) (by omega) (by decide) dX1_voteOf_10 ?_
  exact W.iret (v := vt (31 * n + b)) hx hb hr (fun t ht _ => ⟨rfl, ht⟩) (fun _ h => nomatch h) dX1_voteOf_11

set_option maxHeartbeats 4000000 in
set_option maxRecDepth 100000 in
theorem m_isOpen (l : Launch) (dC : Nat → ClassId) (dI : Nat → Nat → Nat) (cA : ClassId) (g0 b0 b1 b2 : Nat) (w pr vt : Nat → Int32) (k th : Int32) (n b : Nat) (hn0 : n < 10) (hb0 : b < 31) : Met l yX1_isOpen wsX1_isOpen ({ frames := 1, cells := 0, slots := 0, locals := 22 }) (va_Pc [.ref g0, .int (nI n), .int (nI b)] (bb_B (dC, dI) vwCl (bb_M g0 b0 b1 b2 cA w pr vt k th) [(cA, .int)])) (QcRead (bb_I (bb_rop pr vt b n))) 0 0 (fun _ => False) := by
  refine Met.ofW (cc := cX1_isOpen) (maxL := 3) (ret := some .boolean) (by decide) rfl ?_
  intro p e s m args below meth c s₁ B hml hv
  obtain ⟨rfl, hP, hK⟩ := hv
  have hx := B.exec
  have hb := B.bytes
  have hr := B.returns
  have hts := atoms_spec (ws := wsX1_isOpen) B.pre
  have hown : s.vm.findClass RX1 = some m.cls := findClass_of_methodNamed B.named
  have hlocks := B.notSynchronized
  have hin : ∀ w9 ∈ u_ws RX1 TX1 5, w9 ∈ wsX1_isOpen := fun w9 h9 => List.mem_cons_of_mem _ (bb_inX1 w9 h9)
  have hf13 := hts _ (List.mem_cons_of_mem _ bb_fX1_13)
  have hl := lv_entry ([.ref g0, .int (nI n), .int (nI b)]) (n := 3) (Nat.le_of_ble_eq_true rfl)
  rw [lg_entry_eq]
  generalize (lg_sl ([.ref g0, .int (nI n), .int (nI b)]) ++ List.replicate (3 - (lg_sl ([.ref g0, .int (nI n), .int (nI b)])).length) Slot.unset).toArray = ls at hl ⊢
  have hl : lv_has ls 3 [(0, .ref g0), (1, .int (nI n)), (2, .int (nI b))] := hl
  refine lv_aload_n hx hb dX1_isOpen_0 rfl (lv_at hl 0 rfl) ?_
  refine lv_iload_n hx hb dX1_isOpen_1 rfl (lv_at hl 1 rfl) ?_
  refine lv_iload_n hx hb dX1_isOpen_2 rfl (lv_at hl 2 rfl) ?_
  refine bb_cV (As := [.int (nI n), .int (nI b)]) (rest := []) (r := vt (31 * n + b)) 0 ⟨hx, hb, hml, hown, hts⟩ (m_voteOf l dC dI cA g0 b0 b1 b2 w pr vt k th n b (by omega) (by omega)) (cwV 2 hts gX1_isOpen_X1_voteOf rfl rfl rfl (by decide +kernel) ⟨Nat.le_of_ble_eq_true rfl, Nat.le_of_ble_eq_true rfl⟩) hP hK rfl rfl rfl hl.1 rfl (Nat.le_of_ble_eq_true rfl) dX1_isOpen_3 (Nat.zero_le _) (Nat.zero_le _) ?_
  refine lv_iconst (v := (-1)) hx hb dX1_isOpen_6 (by decide) ?_
  refine lv_icmp_ne (tgt := 24) hx hb dX1_isOpen_7 rfl (fun h7 => ?_) (fun h7 => ?_)
  · skip
    refine lv_iconst (v := 0) hx hb dX1_isOpen_24 (by decide) ?_
    have er : bb_I (bb_rop pr vt b n) = 0 := by simp [bb_I, bb_rop, h7]
    exact W.zret (v := 0) hx hb hr bb_z0 (fun t ht _ => ⟨by rw [er], ht⟩) (fun _ h => nomatch h) dX1_isOpen_25
  · skip
    refine lv_aload_n hx hb dX1_isOpen_10 rfl (lv_at hl 0 rfl) ?_
    refine va_get (D := (dC, dI)) (ci := 1) (v := .ref b1) (C := RX1) (T := TX1) (N := 5) hx hb hts hin hown hK hP 0 rfl rfl 1 (by decide) hf13 (fun _ h9 => h9) rfl dX1_isOpen_11 ?_
    refine lv_iload_n hx hb dX1_isOpen_14 rfl (lv_at hl 1 rfl) ?_
    refine bb_ald hx hb hK hP 2 0 rfl rfl n (by omega) (by decide) dX1_isOpen_15 ?_
    refine lv_iload_n hx hb dX1_isOpen_16 rfl (lv_at hl 2 rfl) ?_
    refine lv_icmp_gt (tgt := 24) hx hb dX1_isOpen_17 rfl (fun h17 => ?_) (fun h17 => ?_)
    · skip
      have q17 := bb_nle h17
      refine lv_iconst (v := 0) hx hb dX1_isOpen_24 (by decide) ?_
      have er : bb_I (bb_rop pr vt b n) = 0 := by simp [bb_I, bb_rop, h7, h17, q17]
      exact W.zret (v := 0) hx hb hr bb_z0 (fun t ht _ => ⟨by rw [er], ht⟩) (fun _ h => nomatch h) dX1_isOpen_25
    · skip
      have q17 := bb_le h17
      refine lv_iconst (v := 1) hx hb dX1_isOpen_20 (by decide) ?_
      refine lv_goto (tgt := 25) hx hb dX1_isOpen_21 rfl ?_
      have er : bb_I (bb_rop pr vt b n) = 1 := by simp [bb_I, bb_rop, h7, h17, q17]
      exact W.zret (v := 1) hx hb hr bb_z1 (fun t ht _ => ⟨by rw [er], ht⟩) (fun _ h => nomatch h) dX1_isOpen_25

set_option maxHeartbeats 4000000 in
set_option maxRecDepth 100000 in
theorem m_others (l : Launch) (dC : Nat → ClassId) (dI : Nat → Nat → Nat) (cA : ClassId) (g0 b0 b1 b2 : Nat) (w pr vt : Nat → Int32) (k th : Int32) (b : Nat) (v : Int32) (hb0 : b < 31) : Met l yX1_others wsX1_others ({ frames := 1, cells := 0, slots := 0, locals := 22 }) (va_Pc [.ref g0, .int (nI b), .int v] (bb_B (dC, dI) vwCl (bb_M g0 b0 b1 b2 cA w pr vt k th) [(cA, .int)])) (QcRead (bb_I (bb_rot vt b v))) 0 0 (fun _ => False) := by
  refine Met.ofW (cc := cX1_others) (maxL := 4) (ret := some .boolean) (by decide) rfl ?_
  intro p e s m args below meth c s₁ B hml hv
  obtain ⟨rfl, hP, hK⟩ := hv
  have hx := B.exec
  have hb := B.bytes
  have hr := B.returns
  have hts := atoms_spec (ws := wsX1_others) B.pre
  have hown : s.vm.findClass RX1 = some m.cls := findClass_of_methodNamed B.named
  have hlocks := B.notSynchronized
  have hl := lv_entry ([.ref g0, .int (nI b), .int v]) (n := 4) (Nat.le_of_ble_eq_true rfl)
  rw [lg_entry_eq]
  generalize (lg_sl ([.ref g0, .int (nI b), .int v]) ++ List.replicate (4 - (lg_sl ([.ref g0, .int (nI b), .int v])).length) Slot.unset).toArray = ls at hl ⊢
  have hl : lv_has ls 4 [(0, .ref g0), (1, .int (nI b)), (2, .int v)] := hl
  refine lv_iconst (v := 0) hx hb dX1_others_0 (by decide) ?_
  refine lv_istore_n (lv' := [(3, .int 0), (0, .ref g0), (1, .int (nI b)), (2, .int v)]) hx hb dX1_others_1 rfl hl (by decide) rfl (fun ls hl => ?_)
  have hl : lv_has ls 4 [(0, .ref g0), (1, .int (nI b)), (2, .int v), (3, .int 0)] := lv_sub hl [1, 2, 3, 0] rfl
  refine bb_forW (pc := 2) (I := fun j9 ls => lv_has ls 4 [(0, .ref g0), (1, .int (nI b)), (2, .int v), (3, .int (nI j9))] ∧ bb_ex (fun n9 => decide (vt (31 * n9 + b) ≠ -1) && decide (vt (31 * n9 + b) ≠ v)) j9 = false) 10 ?_ ?_ 0 ls (Nat.zero_le _) ⟨hl, rfl⟩
  · skip
    intro j ls hj hI ihj
    obtain ⟨hl, hno⟩ := hI
    refine lv_iload_n hx hb dX1_others_2 rfl (lv_at hl 3 rfl) ?_
    refine lv_bipush (v := nI 10) hx hb dX1_others_3 (by decide) ?_
    refine lv_icmp_ge (tgt := 36) hx hb dX1_others_5 rfl (fun h5 => absurd h5 (nI_ge hj (by decide))) (fun h5 => ?_)
    have q5 := bb_lt h5
    refine lv_aload_n hx hb dX1_others_8 rfl (lv_at hl 0 rfl) ?_
    refine lv_iload_n hx hb dX1_others_9 rfl (lv_at hl 3 rfl) ?_
    refine lv_iload_n hx hb dX1_others_10 rfl (lv_at hl 1 rfl) ?_
    refine bb_cV (As := [.int (nI j), .int (nI b)]) (rest := []) (r := vt (31 * j + b)) 0 ⟨hx, hb, hml, hown, hts⟩ (m_voteOf l dC dI cA g0 b0 b1 b2 w pr vt k th j b (by omega) (by omega)) (cwV 2 hts gX1_others_X1_voteOf rfl rfl rfl (by decide +kernel) ⟨Nat.le_of_ble_eq_true rfl, Nat.le_of_ble_eq_true rfl⟩) hP hK rfl rfl rfl hl.1 rfl (Nat.le_of_ble_eq_true rfl) dX1_others_11 (Nat.zero_le _) (Nat.zero_le _) ?_
    refine lv_iconst (v := (-1)) hx hb dX1_others_14 (by decide) ?_
    refine lv_icmp_eq (tgt := 30) hx hb dX1_others_15 rfl (fun h15 => ?_) (fun h15 => ?_)
    · skip
      refine lv_iinc (v := nI (j + 1)) (lv' := [(3, .int (nI (j + 1))), (0, .ref g0), (1, .int (nI b)), (2, .int v)]) hx hb dX1_others_30 hl (k := 3) rfl (bb_inc _) (by decide) rfl (fun ls hl => ?_)
      refine lv_goto (tgt := 2) hx hb dX1_others_33 rfl ?_
      have hl : lv_has ls 4 [(0, .ref g0), (1, .int (nI b)), (2, .int v), (3, .int (nI (j + 1)))] := lv_sub hl [1, 2, 3, 0] rfl
      exact ihj ls ⟨hl, by exact bb_ex_step hno (by simp [h5, q5, h15])⟩
    · skip
      refine lv_aload_n hx hb dX1_others_18 rfl (lv_at hl 0 rfl) ?_
      refine lv_iload_n hx hb dX1_others_19 rfl (lv_at hl 3 rfl) ?_
      refine lv_iload_n hx hb dX1_others_20 rfl (lv_at hl 1 rfl) ?_
      refine bb_cV (As := [.int (nI j), .int (nI b)]) (rest := []) (r := vt (31 * j + b)) 0 ⟨hx, hb, hml, hown, hts⟩ (m_voteOf l dC dI cA g0 b0 b1 b2 w pr vt k th j b (by omega) (by omega)) (cwV 2 hts gX1_others_X1_voteOf rfl rfl rfl (by decide +kernel) ⟨Nat.le_of_ble_eq_true rfl, Nat.le_of_ble_eq_true rfl⟩) hP hK rfl rfl rfl hl.1 rfl (Nat.le_of_ble_eq_true rfl) dX1_others_21 (Nat.zero_le _) (Nat.zero_le _) ?_
      refine lv_iload_n hx hb dX1_others_24 rfl (lv_at hl 2 rfl) ?_
      refine lv_icmp_eq (tgt := 30) hx hb dX1_others_25 rfl (fun h25 => ?_) (fun h25 => ?_)
      · skip
        refine lv_iinc (v := nI (j + 1)) (lv' := [(3, .int (nI (j + 1))), (0, .ref g0), (1, .int (nI b)), (2, .int v)]) hx hb dX1_others_30 hl (k := 3) rfl (bb_inc _) (by decide) rfl (fun ls hl => ?_)
        refine lv_goto (tgt := 2) hx hb dX1_others_33 rfl ?_
        have hl : lv_has ls 4 [(0, .ref g0), (1, .int (nI b)), (2, .int v), (3, .int (nI (j + 1)))] := lv_sub hl [1, 2, 3, 0] rfl
        exact ihj ls ⟨hl, by exact bb_ex_step hno (by simp [h5, q5, h15, h25])⟩
      · skip
        refine lv_iconst (v := 1) hx hb dX1_others_28 (by decide) ?_
        have er : bb_I (bb_rot vt b v) = 1 := by unfold bb_rot; rw [bb_ex_hit (j := j) (by simp [h5, q5, h15, h25]) hj]; rfl
        exact W.zret (v := 1) hx hb hr bb_z1 (fun t ht _ => ⟨by rw [er], ht⟩) (fun _ h => nomatch h) dX1_others_29
  · skip
    intro ls hI
    obtain ⟨hl, hno⟩ := hI
    refine lv_iload_n hx hb dX1_others_2 rfl (lv_at hl 3 rfl) ?_
    refine lv_bipush (v := nI 10) hx hb dX1_others_3 (by decide) ?_
    refine lv_icmp_ge (tgt := 36) hx hb dX1_others_5 rfl (fun h5 => ?_) (fun h5 => absurd (nI_le (Nat.le_refl _) (by decide)) h5)
    have q5 := bb_nlt h5
    refine lv_iconst (v := 0) hx hb dX1_others_36 (by decide) ?_
    have er : bb_I (bb_rot vt b v) = 0 := by unfold bb_rot; rw [hno]; rfl
    exact W.zret (v := 0) hx hb hr bb_z0 (fun t ht _ => ⟨by rw [er], ht⟩) (fun _ h => nomatch h) dX1_others_37

set_option maxHeartbeats 4000000 in
set_option maxRecDepth 100000 in
theorem m_isEnough (l : Launch) (dC : Nat → ClassId) (dI : Nat → Nat → Nat) (cA : ClassId) (g0 b0 b1 b2 : Nat) (w pr vt : Nat → Int32) (k th : Int32) (st : Int32) : Met l yX1_isEnough wsX1_isEnough ({ frames := 0, cells := 0, slots := 0, locals := 0 }) (va_Pc [.ref g0, .int st] (bb_B (dC, dI) vwCl (bb_M g0 b0 b1 b2 cA w pr vt k th) [(cA, .int)])) (QcRead (bb_I (bb_en w k st))) 0 0 (fun _ => False) := by
  refine Met.ofW (cc := cX1_isEnough) (maxL := 4) (ret := some .boolean) (by decide) rfl ?_
  intro p e s m args below meth c s₁ B hml hv
  obtain ⟨rfl, hP, hK⟩ := hv
  have hx := B.exec
  have hb := B.bytes
  have hr := B.returns
  have hts := atoms_spec (ws := wsX1_isEnough) B.pre
  have hown : s.vm.findClass RX1 = some m.cls := findClass_of_methodNamed B.named
  have hlocks := B.notSynchronized
  have hin : ∀ w9 ∈ u_ws RX1 TX1 5, w9 ∈ wsX1_isEnough := fun w9 h9 => List.mem_cons_of_mem _ (bb_inX1 w9 h9)
  have hf9 := hts _ (List.mem_cons_of_mem _ bb_fX1_9)
  have hf19 := hts _ (List.mem_cons_of_mem _ bb_fX1_19)
  have hl := lv_entry ([.ref g0, .int st]) (n := 4) (Nat.le_of_ble_eq_true rfl)
  rw [lg_entry_eq]
  generalize (lg_sl ([.ref g0, .int st]) ++ List.replicate (4 - (lg_sl ([.ref g0, .int st])).length) Slot.unset).toArray = ls at hl ⊢
  have hl : lv_has ls 4 [(0, .ref g0), (1, .int st)] := hl
  refine lv_iconst (v := 0) hx hb dX1_isEnough_0 (by decide) ?_
  refine lv_istore_n (lv' := [(2, .int 0), (0, .ref g0), (1, .int st)]) hx hb dX1_isEnough_1 rfl hl (by decide) rfl (fun ls hl => ?_)
  refine lv_iconst (v := 0) hx hb dX1_isEnough_2 (by decide) ?_
  refine lv_istore_n (lv' := [(3, .int 0), (2, .int 0), (0, .ref g0), (1, .int st)]) hx hb dX1_isEnough_3 rfl hl (by decide) rfl (fun ls hl => ?_)
  have hl : lv_has ls 4 [(0, .ref g0), (1, .int st), (2, .int 0), (3, .int 0)] := lv_sub hl [2, 3, 1, 0] rfl
  refine bb_forW (pc := 4) (I := fun j9 ls => lv_has ls 4 [(0, .ref g0), (1, .int st), (2, .int (bb_ws w st j9)), (3, .int (nI j9))]) 10 ?_ ?_ 0 ls (Nat.zero_le _) hl
  · skip
    intro j ls hj hI ihj
    have hl := hI
    refine lv_iload_n hx hb dX1_isEnough_4 rfl (lv_at hl 3 rfl) ?_
    refine lv_bipush (v := nI 10) hx hb dX1_isEnough_5 (by decide) ?_
    refine lv_icmp_ge (tgt := 34) hx hb dX1_isEnough_7 rfl (fun h7 => absurd h7 (nI_ge hj (by decide))) (fun h7 => ?_)
    have q7 := bb_lt h7
    refine lv_iload_n hx hb dX1_isEnough_10 rfl (lv_at hl 1 rfl) ?_
    refine lv_iload_n hx hb dX1_isEnough_11 rfl (lv_at hl 3 rfl) ?_
    refine lv_ishr hx hb dX1_isEnough_12 ?_
    refine lv_iconst (v := 1) hx hb dX1_isEnough_13 (by decide) ?_
    refine lv_iand hx hb dX1_isEnough_14 ?_
    refine lv_iconst (v := 1) hx hb dX1_isEnough_15 (by decide) ?_
    refine lv_icmp_ne (tgt := 28) hx hb dX1_isEnough_16 rfl (fun h16 => ?_) (fun h16 => ?_)
    · skip
      refine lv_iinc (v := nI (j + 1)) (lv' := [(3, .int (nI (j + 1))), (0, .ref g0), (1, .int st), (2, .int (bb_ws w st j))]) hx hb dX1_isEnough_28 hl (k := 3) rfl (bb_inc _) (by decide) rfl (fun ls hl => ?_)
      refine lv_goto (tgt := 4) hx hb dX1_isEnough_31 rfl ?_
      have hl : lv_has ls 4 [(0, .ref g0), (1, .int st), (2, .int (bb_ws w st j)), (3, .int (nI (j + 1)))] := lv_sub hl [1, 2, 3, 0] rfl
      have e1 : (bb_ws w st j) = bb_ws w st (j + 1) := by simp [bb_ws, bb_hb, h7, q7, h16]
      have hl : lv_has ls 4 [(0, .ref g0), (1, .int st), (2, .int (bb_ws w st (j + 1))), (3, .int (nI (j + 1)))] := by rw [← e1]; exact hl
      exact ihj ls hl
    · skip
      refine lv_iload_n hx hb dX1_isEnough_19 rfl (lv_at hl 2 rfl) ?_
      refine lv_aload_n hx hb dX1_isEnough_20 rfl (lv_at hl 0 rfl) ?_
      refine va_get (D := (dC, dI)) (ci := 1) (v := .ref b0) (C := RX1) (T := TX1) (N := 5) hx hb hts hin hown hK hP 0 rfl rfl 0 (by decide) hf9 (fun _ h9 => h9) rfl dX1_isEnough_21 ?_
      refine lv_iload_n hx hb dX1_isEnough_24 rfl (lv_at hl 3 rfl) ?_
      refine bb_ald hx hb hK hP 1 0 rfl rfl j (by omega) (by decide) dX1_isEnough_25 ?_
      refine lv_iadd hx hb dX1_isEnough_26 ?_
      refine lv_istore_n (lv' := [(2, .int ((bb_ws w st j) + (w j))), (0, .ref g0), (1, .int st), (3, .int (nI j))]) hx hb dX1_isEnough_27 rfl hl (by decide) rfl (fun ls hl => ?_)
      refine lv_iinc (v := nI (j + 1)) (lv' := [(3, .int (nI (j + 1))), (2, .int ((bb_ws w st j) + (w j))), (0, .ref g0), (1, .int st)]) hx hb dX1_isEnough_28 hl (k := 3) rfl (bb_inc _) (by decide) rfl (fun ls hl => ?_)
      refine lv_goto (tgt := 4) hx hb dX1_isEnough_31 rfl ?_
      have hl : lv_has ls 4 [(0, .ref g0), (1, .int st), (2, .int ((bb_ws w st j) + (w j))), (3, .int (nI (j + 1)))] := lv_sub hl [2, 3, 1, 0] rfl
      have e2 : ((bb_ws w st j) + (w j)) = bb_ws w st (j + 1) := by simp [bb_ws, bb_hb, h7, q7, h16]
      have hl : lv_has ls 4 [(0, .ref g0), (1, .int st), (2, .int (bb_ws w st (j + 1))), (3, .int (nI (j + 1)))] := by rw [← e2]; exact hl
      exact ihj ls hl
  · skip
    intro ls hI
    have hl := hI
    refine lv_iload_n hx hb dX1_isEnough_4 rfl (lv_at hl 3 rfl) ?_
    refine lv_bipush (v := nI 10) hx hb dX1_isEnough_5 (by decide) ?_
    refine lv_icmp_ge (tgt := 34) hx hb dX1_isEnough_7 rfl (fun h7 => ?_) (fun h7 => absurd (nI_le (Nat.le_refl _) (by decide)) h7)
    have q7 := bb_nlt h7
    refine lv_iload_n hx hb dX1_isEnough_34 rfl (lv_at hl 2 rfl) ?_
    refine lv_aload_n hx hb dX1_isEnough_35 rfl (lv_at hl 0 rfl) ?_
    refine va_get (D := (dC, dI)) (ci := 1) (v := .int k) (C := RX1) (T := TX1) (N := 5) hx hb hts hin hown hK hP 0 rfl rfl 3 (by decide) hf19 (fun _ h9 => h9) rfl dX1_isEnough_36 ?_
    refine lv_icmp_lt (tgt := 46) hx hb dX1_isEnough_39 rfl (fun h39 => ?_) (fun h39 => ?_)
    · skip
      have q39 := bb_nle h39
      refine lv_iconst (v := 0) hx hb dX1_isEnough_46 (by decide) ?_
      have er : bb_I (bb_en w k st) = 0 := by simp [bb_I, bb_en, h7, q7, h39, q39]
      exact W.zret (v := 0) hx hb hr bb_z0 (fun t ht _ => ⟨by rw [er], ht⟩) (fun _ h => nomatch h) dX1_isEnough_47
    · skip
      have q39 := bb_le h39
      refine lv_iconst (v := 1) hx hb dX1_isEnough_42 (by decide) ?_
      refine lv_goto (tgt := 47) hx hb dX1_isEnough_43 rfl ?_
      have er : bb_I (bb_en w k st) = 1 := by simp [bb_I, bb_en, h7, q7, h39, q39]
      exact W.zret (v := 1) hx hb hr bb_z1 (fun t ht _ => ⟨by rw [er], ht⟩) (fun _ h => nomatch h) dX1_isEnough_47

set_option maxHeartbeats 4000000 in
set_option maxRecDepth 100000 in
theorem m_isChosen (l : Launch) (dC : Nat → ClassId) (dI : Nat → Nat → Nat) (cA : ClassId) (g0 b0 b1 b2 : Nat) (w pr vt : Nat → Int32) (k th : Int32) (b : Nat) (hb0 : b < 31) : Met l yX1_isChosen wsX1_isChosen ({ frames := 1, cells := 0, slots := 0, locals := 23 }) (va_Pc [.ref g0, .int (nI b)] (bb_B (dC, dI) vwCl (bb_M g0 b0 b1 b2 cA w pr vt k th) [(cA, .int)])) (QcRead (bb_rch w k vt b)) 0 0 (fun _ => False) := by
  refine Met.ofW (cc := cX1_isChosen) (maxL := 5) (ret := some .int) (by decide) rfl ?_
  intro p e s m args below meth c s₁ B hml hv
  obtain ⟨rfl, hP, hK⟩ := hv
  have hx := B.exec
  have hb := B.bytes
  have hr := B.returns
  have hts := atoms_spec (ws := wsX1_isChosen) B.pre
  have hown : s.vm.findClass RX1 = some m.cls := findClass_of_methodNamed B.named
  have hlocks := B.notSynchronized
  have hl := lv_entry ([.ref g0, .int (nI b)]) (n := 5) (Nat.le_of_ble_eq_true rfl)
  rw [lg_entry_eq]
  generalize (lg_sl ([.ref g0, .int (nI b)]) ++ List.replicate (5 - (lg_sl ([.ref g0, .int (nI b)])).length) Slot.unset).toArray = ls at hl ⊢
  have hl : lv_has ls 5 [(0, .ref g0), (1, .int (nI b))] := hl
  refine lv_iconst (v := 0) hx hb dX1_isChosen_0 (by decide) ?_
  refine lv_istore_n (lv' := [(2, .int 0), (0, .ref g0), (1, .int (nI b))]) hx hb dX1_isChosen_1 rfl hl (by decide) rfl (fun ls hl => ?_)
  have hl : lv_has ls 5 [(0, .ref g0), (1, .int (nI b)), (2, .int 0)] := lv_sub hl [1, 2, 0] rfl
  refine bb_forW (pc := 2) (I := fun j9 ls => lv_has ls 5 [(0, .ref g0), (1, .int (nI b)), (2, .int (nI j9))] ∧ bb_al (fun i9 => !bb_en w k (bb_bl (fun n9 => decide (vt (31 * n9 + b) = nI i9)) 10)) j9 = true) 10 ?_ ?_ 0 ls (Nat.zero_le _) ⟨hl, rfl⟩
  · skip
    intro j ls hj hI ihj
    obtain ⟨hl, hno⟩ := hI
    refine lv_iload_n hx hb dX1_isChosen_2 rfl (lv_at hl 2 rfl) ?_
    refine lv_bipush (v := nI 10) hx hb dX1_isChosen_3 (by decide) ?_
    refine lv_icmp_ge (tgt := 60) hx hb dX1_isChosen_5 rfl (fun h5 => absurd h5 (nI_ge hj (by decide))) (fun h5 => ?_)
    have q5 := bb_lt h5
    refine lv_iconst (v := 0) hx hb dX1_isChosen_8 (by decide) ?_
    refine lv_istore_n (lv' := [(3, .int 0), (0, .ref g0), (1, .int (nI b)), (2, .int (nI j))]) hx hb dX1_isChosen_9 rfl hl (by decide) rfl (fun ls hl => ?_)
    refine lv_iconst (v := 0) hx hb dX1_isChosen_10 (by decide) ?_
    refine lv_istore (lv' := [(4, .int 0), (3, .int 0), (0, .ref g0), (1, .int (nI b)), (2, .int (nI j))]) hx hb dX1_isChosen_11 hl (by decide) rfl (fun ls hl => ?_)
    have hl : lv_has ls 5 [(0, .ref g0), (1, .int (nI b)), (2, .int (nI j)), (3, .int 0), (4, .int 0)] := lv_sub hl [2, 3, 4, 1, 0] rfl
    refine bb_forW (pc := 13) (I := fun j9 ls => lv_has ls 5 [(0, .ref g0), (1, .int (nI b)), (2, .int (nI j)), (3, .int (bb_bl (fun n9 => decide (vt (31 * n9 + b) = nI j)) j9)), (4, .int (nI j9))]) 10 ?_ ?_ 0 ls (Nat.zero_le _) hl
    · skip
      intro i ls hi hI ihi
      have hl := hI
      refine lv_iload hx hb dX1_isChosen_13 (lv_at hl 4 rfl) ?_
      refine lv_bipush (v := nI 10) hx hb dX1_isChosen_15 (by decide) ?_
      refine lv_icmp_ge (tgt := 44) hx hb dX1_isChosen_17 rfl (fun h17 => absurd h17 (nI_ge hi (by decide))) (fun h17 => ?_)
      have q17 := bb_lt h17
      refine lv_aload_n hx hb dX1_isChosen_20 rfl (lv_at hl 0 rfl) ?_
      refine lv_iload hx hb dX1_isChosen_21 (lv_at hl 4 rfl) ?_
      refine lv_iload_n hx hb dX1_isChosen_23 rfl (lv_at hl 1 rfl) ?_
      refine bb_cV (As := [.int (nI i), .int (nI b)]) (rest := []) (r := vt (31 * i + b)) 0 ⟨hx, hb, hml, hown, hts⟩ (m_voteOf l dC dI cA g0 b0 b1 b2 w pr vt k th i b (by omega) (by omega)) (cwV 2 hts gX1_isChosen_X1_voteOf rfl rfl rfl (by decide +kernel) ⟨Nat.le_of_ble_eq_true rfl, Nat.le_of_ble_eq_true rfl⟩) hP hK rfl rfl rfl hl.1 rfl (Nat.le_of_ble_eq_true rfl) dX1_isChosen_24 (Nat.zero_le _) (Nat.zero_le _) ?_
      refine lv_iload_n hx hb dX1_isChosen_27 rfl (lv_at hl 2 rfl) ?_
      refine lv_icmp_ne (tgt := 38) hx hb dX1_isChosen_28 rfl (fun h28 => ?_) (fun h28 => ?_)
      · skip
        refine lv_iinc (v := nI (i + 1)) (lv' := [(4, .int (nI (i + 1))), (0, .ref g0), (1, .int (nI b)), (2, .int (nI j)), (3, .int (bb_bl (fun n9 => decide (vt (31 * n9 + b) = nI j)) i))]) hx hb dX1_isChosen_38 hl (k := 4) rfl (bb_inc _) (by decide) rfl (fun ls hl => ?_)
        refine lv_goto (tgt := 13) hx hb dX1_isChosen_41 rfl ?_
        have hl : lv_has ls 5 [(0, .ref g0), (1, .int (nI b)), (2, .int (nI j)), (3, .int (bb_bl (fun n9 => decide (vt (31 * n9 + b) = nI j)) i)), (4, .int (nI (i + 1)))] := lv_sub hl [1, 2, 3, 4, 0] rfl
        have e1 : (bb_bl (fun n9 => decide (vt (31 * n9 + b) = nI j)) i) = bb_bl (fun n9 => decide (vt (31 * n9 + b) = nI j)) (i + 1) := by simp [bb_bl, h5, q5, h17, q17, h28]
        have hl : lv_has ls 5 [(0, .ref g0), (1, .int (nI b)), (2, .int (nI j)), (3, .int (bb_bl (fun n9 => decide (vt (31 * n9 + b) = nI j)) (i + 1))), (4, .int (nI (i + 1)))] := by rw [← e1]; exact hl
        exact ihi ls hl
      · skip
        refine lv_iload_n hx hb dX1_isChosen_31 rfl (lv_at hl 3 rfl) ?_
        refine lv_iconst (v := 1) hx hb dX1_isChosen_32 (by decide) ?_
        refine lv_iload hx hb dX1_isChosen_33 (lv_at hl 4 rfl) ?_
        refine lv_ishl hx hb dX1_isChosen_35 ?_
        refine lv_ior hx hb dX1_isChosen_36 ?_
        refine lv_istore_n (lv' := [(3, .int ((bb_bl (fun n9 => decide (vt (31 * n9 + b) = nI j)) i) ||| (1 <<< ((nI i) &&& 31)))), (0, .ref g0), (1, .int (nI b)), (2, .int (nI j)), (4, .int (nI i))]) hx hb dX1_isChosen_37 rfl hl (by decide) rfl (fun ls hl => ?_)
        refine lv_iinc (v := nI (i + 1)) (lv' := [(4, .int (nI (i + 1))), (3, .int ((bb_bl (fun n9 => decide (vt (31 * n9 + b) = nI j)) i) ||| (1 <<< ((nI i) &&& 31)))), (0, .ref g0), (1, .int (nI b)), (2, .int (nI j))]) hx hb dX1_isChosen_38 hl (k := 4) rfl (bb_inc _) (by decide) rfl (fun ls hl => ?_)
        refine lv_goto (tgt := 13) hx hb dX1_isChosen_41 rfl ?_
        have hl : lv_has ls 5 [(0, .ref g0), (1, .int (nI b)), (2, .int (nI j)), (3, .int ((bb_bl (fun n9 => decide (vt (31 * n9 + b) = nI j)) i) ||| (1 <<< ((nI i) &&& 31)))), (4, .int (nI (i + 1)))] := lv_sub hl [2, 3, 4, 1, 0] rfl
        have e2 : ((bb_bl (fun n9 => decide (vt (31 * n9 + b) = nI j)) i) ||| (1 <<< ((nI i) &&& 31))) = bb_bl (fun n9 => decide (vt (31 * n9 + b) = nI j)) (i + 1) := by simp [bb_bl, h5, q5, h17, q17, h28]
        have hl : lv_has ls 5 [(0, .ref g0), (1, .int (nI b)), (2, .int (nI j)), (3, .int (bb_bl (fun n9 => decide (vt (31 * n9 + b) = nI j)) (i + 1))), (4, .int (nI (i + 1)))] := by rw [← e2]; exact hl
        exact ihi ls hl
    · skip
      intro ls hI
      have hl := hI
      refine lv_iload hx hb dX1_isChosen_13 (lv_at hl 4 rfl) ?_
      refine lv_bipush (v := nI 10) hx hb dX1_isChosen_15 (by decide) ?_
      refine lv_icmp_ge (tgt := 44) hx hb dX1_isChosen_17 rfl (fun h17 => ?_) (fun h17 => absurd (nI_le (Nat.le_refl _) (by decide)) h17)
      have q17 := bb_nlt h17
      refine lv_aload_n hx hb dX1_isChosen_44 rfl (lv_at hl 0 rfl) ?_
      refine lv_iload_n hx hb dX1_isChosen_45 rfl (lv_at hl 3 rfl) ?_
      refine bb_cV (As := [.int (bb_bl (fun n9 => decide (vt (31 * n9 + b) = nI j)) 10)]) (rest := []) (r := bb_I (bb_en w k (bb_bl (fun n9 => decide (vt (31 * n9 + b) = nI j)) 10))) 0 ⟨hx, hb, hml, hown, hts⟩ (m_isEnough l dC dI cA g0 b0 b1 b2 w pr vt k th (bb_bl (fun n9 => decide (vt (31 * n9 + b) = nI j)) 10)) (cwV 1 hts gX1_isChosen_X1_isEnough rfl rfl rfl (by decide +kernel) ⟨Nat.le_of_ble_eq_true rfl, Nat.le_of_ble_eq_true rfl⟩) hP hK rfl rfl rfl hl.1 rfl (Nat.le_of_ble_eq_true rfl) dX1_isChosen_46 (Nat.zero_le _) (Nat.zero_le _) ?_
      refine lv_if_eq (tgt := 54) hx hb dX1_isChosen_49 rfl (fun h49 => ?_) (fun h49 => ?_)
      · skip
        have q49 := bb_I_0.mp h49
        refine lv_iinc (v := nI (j + 1)) (lv' := [(2, .int (nI (j + 1))), (0, .ref g0), (1, .int (nI b)), (3, .int (bb_bl (fun n9 => decide (vt (31 * n9 + b) = nI j)) 10)), (4, .int (nI 10))]) hx hb dX1_isChosen_54 hl (k := 2) rfl (bb_inc _) (by decide) rfl (fun ls hl => ?_)
        refine lv_goto (tgt := 2) hx hb dX1_isChosen_57 rfl ?_
        have hl : lv_has ls 5 [(0, .ref g0), (1, .int (nI b)), (2, .int (nI (j + 1)))] := lv_sub hl [1, 2, 0] rfl
        exact ihj ls ⟨hl, by exact bb_al_step hno (by simp [h5, q5, h17, q17, h49, q49])⟩
      · skip
        have q49 := bb_nz h49
        refine lv_iload_n hx hb dX1_isChosen_52 rfl (lv_at hl 2 rfl) ?_
        have er : bb_rch w k vt b = nI j := by exact bb_fi_hit (p := (fun v9 => bb_en w k (bb_bl (fun n9 => decide (vt (31 * n9 + b) = nI v9)) 10))) hno (by simp [h5, q5, h17, q17, h49, q49]) hj
        exact W.iret (v := nI j) hx hb hr (fun t ht _ => ⟨by rw [er], ht⟩) (fun _ h => nomatch h) dX1_isChosen_53
  · skip
    intro ls hI
    obtain ⟨hl, hno⟩ := hI
    refine lv_iload_n hx hb dX1_isChosen_2 rfl (lv_at hl 2 rfl) ?_
    refine lv_bipush (v := nI 10) hx hb dX1_isChosen_3 (by decide) ?_
    refine lv_icmp_ge (tgt := 60) hx hb dX1_isChosen_5 rfl (fun h5 => ?_) (fun h5 => absurd (nI_le (Nat.le_refl _) (by decide)) h5)
    have q5 := bb_nlt h5
    refine lv_iconst (v := (-1)) hx hb dX1_isChosen_60 (by decide) ?_
    have er : bb_rch w k vt b = (-1) := by exact bb_fi_none (p := (fun v9 => bb_en w k (bb_bl (fun n9 => decide (vt (31 * n9 + b) = nI v9)) 10))) hno
    exact W.iret (v := (-1)) hx hb hr (fun t ht _ => ⟨by rw [er], ht⟩) (fun _ h => nomatch h) dX1_isChosen_61

set_option maxHeartbeats 4000000 in
set_option maxRecDepth 100000 in
theorem m_canBe (l : Launch) (dC : Nat → ClassId) (dI : Nat → Nat → Nat) (cA : ClassId) (g0 b0 b1 b2 : Nat) (w pr vt : Nat → Int32) (k th : Int32) (b : Nat) (v : Int32) (hb0 : b < 31) : Met l yX1_canBe wsX1_canBe ({ frames := 2, cells := 0, slots := 0, locals := 45 }) (va_Pc [.ref g0, .int (nI b), .int v] (bb_B (dC, dI) vwCl (bb_M g0 b0 b1 b2 cA w pr vt k th) [(cA, .int)])) (QcRead (bb_I (bb_rcan w k pr vt b v))) 0 0 (fun _ => False) := by
  refine Met.ofW (cc := cX1_canBe) (maxL := 5) (ret := some .boolean) (by decide) rfl ?_
  intro p e s m args below meth c s₁ B hml hv
  obtain ⟨rfl, hP, hK⟩ := hv
  have hx := B.exec
  have hb := B.bytes
  have hr := B.returns
  have hts := atoms_spec (ws := wsX1_canBe) B.pre
  have hown : s.vm.findClass RX1 = some m.cls := findClass_of_methodNamed B.named
  have hlocks := B.notSynchronized
  have hl := lv_entry ([.ref g0, .int (nI b), .int v]) (n := 5) (Nat.le_of_ble_eq_true rfl)
  rw [lg_entry_eq]
  generalize (lg_sl ([.ref g0, .int (nI b), .int v]) ++ List.replicate (5 - (lg_sl ([.ref g0, .int (nI b), .int v])).length) Slot.unset).toArray = ls at hl ⊢
  have hl : lv_has ls 5 [(0, .ref g0), (1, .int (nI b)), (2, .int v)] := hl
  refine lv_iconst (v := 0) hx hb dX1_canBe_0 (by decide) ?_
  refine lv_istore_n (lv' := [(3, .int 0), (0, .ref g0), (1, .int (nI b)), (2, .int v)]) hx hb dX1_canBe_1 rfl hl (by decide) rfl (fun ls hl => ?_)
  refine lv_iconst (v := 0) hx hb dX1_canBe_2 (by decide) ?_
  refine lv_istore (lv' := [(4, .int 0), (3, .int 0), (0, .ref g0), (1, .int (nI b)), (2, .int v)]) hx hb dX1_canBe_3 hl (by decide) rfl (fun ls hl => ?_)
  have hl : lv_has ls 5 [(0, .ref g0), (1, .int (nI b)), (2, .int v), (3, .int 0), (4, .int 0)] := lv_sub hl [2, 3, 4, 1, 0] rfl
  refine bb_forW (pc := 5) (I := fun j9 ls => lv_has ls 5 [(0, .ref g0), (1, .int (nI b)), (2, .int v), (3, .int (bb_bl (fun n9 => decide (vt (31 * n9 + b) = v) || bb_rop pr vt b n9) j9)), (4, .int (nI j9))]) 10 ?_ ?_ 0 ls (Nat.zero_le _) hl
  · skip
    intro j ls hj hI ihj
    have hl := hI
    refine lv_iload hx hb dX1_canBe_5 (lv_at hl 4 rfl) ?_
    refine lv_bipush (v := nI 10) hx hb dX1_canBe_7 (by decide) ?_
    refine lv_icmp_ge (tgt := 46) hx hb dX1_canBe_9 rfl (fun h9 => absurd h9 (nI_ge hj (by decide))) (fun h9 => ?_)
    have q9 := bb_lt h9
    refine lv_aload_n hx hb dX1_canBe_12 rfl (lv_at hl 0 rfl) ?_
    refine lv_iload hx hb dX1_canBe_13 (lv_at hl 4 rfl) ?_
    refine lv_iload_n hx hb dX1_canBe_15 rfl (lv_at hl 1 rfl) ?_
    refine bb_cV (As := [.int (nI j), .int (nI b)]) (rest := []) (r := vt (31 * j + b)) 0 ⟨hx, hb, hml, hown, hts⟩ (m_voteOf l dC dI cA g0 b0 b1 b2 w pr vt k th j b (by omega) (by omega)) (cwV 2 hts gX1_canBe_X1_voteOf rfl rfl rfl (by decide +kernel) ⟨Nat.le_of_ble_eq_true rfl, Nat.le_of_ble_eq_true rfl⟩) hP hK rfl rfl rfl hl.1 rfl (Nat.le_of_ble_eq_true rfl) dX1_canBe_16 (Nat.zero_le _) (Nat.zero_le _) ?_
    refine lv_iload_n hx hb dX1_canBe_19 rfl (lv_at hl 2 rfl) ?_
    refine lv_icmp_eq (tgt := 33) hx hb dX1_canBe_20 rfl (fun h20 => ?_) (fun h20 => ?_)
    · skip
      refine lv_iload_n hx hb dX1_canBe_33 rfl (lv_at hl 3 rfl) ?_
      refine lv_iconst (v := 1) hx hb dX1_canBe_34 (by decide) ?_
      refine lv_iload hx hb dX1_canBe_35 (lv_at hl 4 rfl) ?_
      refine lv_ishl hx hb dX1_canBe_37 ?_
      refine lv_ior hx hb dX1_canBe_38 ?_
      refine lv_istore_n (lv' := [(3, .int ((bb_bl (fun n9 => decide (vt (31 * n9 + b) = v) || bb_rop pr vt b n9) j) ||| (1 <<< ((nI j) &&& 31)))), (0, .ref g0), (1, .int (nI b)), (2, .int v), (4, .int (nI j))]) hx hb dX1_canBe_39 rfl hl (by decide) rfl (fun ls hl => ?_)
      refine lv_iinc (v := nI (j + 1)) (lv' := [(4, .int (nI (j + 1))), (3, .int ((bb_bl (fun n9 => decide (vt (31 * n9 + b) = v) || bb_rop pr vt b n9) j) ||| (1 <<< ((nI j) &&& 31)))), (0, .ref g0), (1, .int (nI b)), (2, .int v)]) hx hb dX1_canBe_40 hl (k := 4) rfl (bb_inc _) (by decide) rfl (fun ls hl => ?_)
      refine lv_goto (tgt := 5) hx hb dX1_canBe_43 rfl ?_
      have hl : lv_has ls 5 [(0, .ref g0), (1, .int (nI b)), (2, .int v), (3, .int ((bb_bl (fun n9 => decide (vt (31 * n9 + b) = v) || bb_rop pr vt b n9) j) ||| (1 <<< ((nI j) &&& 31)))), (4, .int (nI (j + 1)))] := lv_sub hl [2, 3, 4, 1, 0] rfl
      have e1 : ((bb_bl (fun n9 => decide (vt (31 * n9 + b) = v) || bb_rop pr vt b n9) j) ||| (1 <<< ((nI j) &&& 31))) = bb_bl (fun n9 => decide (vt (31 * n9 + b) = v) || bb_rop pr vt b n9) (j + 1) := by simp [bb_bl, h9, q9, h20]
      have hl : lv_has ls 5 [(0, .ref g0), (1, .int (nI b)), (2, .int v), (3, .int (bb_bl (fun n9 => decide (vt (31 * n9 + b) = v) || bb_rop pr vt b n9) (j + 1))), (4, .int (nI (j + 1)))] := by rw [← e1]; exact hl
      exact ihj ls hl
    · skip
      refine lv_aload_n hx hb dX1_canBe_23 rfl (lv_at hl 0 rfl) ?_
      refine lv_iload hx hb dX1_canBe_24 (lv_at hl 4 rfl) ?_
      refine lv_iload_n hx hb dX1_canBe_26 rfl (lv_at hl 1 rfl) ?_
      refine bb_cV (As := [.int (nI j), .int (nI b)]) (rest := []) (r := bb_I (bb_rop pr vt b j)) 0 ⟨hx, hb, hml, hown, hts⟩ (m_isOpen l dC dI cA g0 b0 b1 b2 w pr vt k th j b (by omega) (by omega)) (cwV 2 hts gX1_canBe_X1_isOpen rfl rfl rfl (by decide +kernel) ⟨Nat.le_of_ble_eq_true rfl, Nat.le_of_ble_eq_true rfl⟩) hP hK rfl rfl rfl hl.1 rfl (Nat.le_of_ble_eq_true rfl) dX1_canBe_27 (Nat.zero_le _) (Nat.zero_le _) ?_
      refine lv_if_eq (tgt := 40) hx hb dX1_canBe_30 rfl (fun h30 => ?_) (fun h30 => ?_)
      · skip
        have q30 := bb_I_0.mp h30
        refine lv_iinc (v := nI (j + 1)) (lv' := [(4, .int (nI (j + 1))), (0, .ref g0), (1, .int (nI b)), (2, .int v), (3, .int (bb_bl (fun n9 => decide (vt (31 * n9 + b) = v) || bb_rop pr vt b n9) j))]) hx hb dX1_canBe_40 hl (k := 4) rfl (bb_inc _) (by decide) rfl (fun ls hl => ?_)
        refine lv_goto (tgt := 5) hx hb dX1_canBe_43 rfl ?_
        have hl : lv_has ls 5 [(0, .ref g0), (1, .int (nI b)), (2, .int v), (3, .int (bb_bl (fun n9 => decide (vt (31 * n9 + b) = v) || bb_rop pr vt b n9) j)), (4, .int (nI (j + 1)))] := lv_sub hl [1, 2, 3, 4, 0] rfl
        have e2 : (bb_bl (fun n9 => decide (vt (31 * n9 + b) = v) || bb_rop pr vt b n9) j) = bb_bl (fun n9 => decide (vt (31 * n9 + b) = v) || bb_rop pr vt b n9) (j + 1) := by simp [bb_bl, h9, q9, h20, h30, q30]
        have hl : lv_has ls 5 [(0, .ref g0), (1, .int (nI b)), (2, .int v), (3, .int (bb_bl (fun n9 => decide (vt (31 * n9 + b) = v) || bb_rop pr vt b n9) (j + 1))), (4, .int (nI (j + 1)))] := by rw [← e2]; exact hl
        exact ihj ls hl
      · skip
        have q30 := bb_nz h30
        refine lv_iload_n hx hb dX1_canBe_33 rfl (lv_at hl 3 rfl) ?_
        refine lv_iconst (v := 1) hx hb dX1_canBe_34 (by decide) ?_
        refine lv_iload hx hb dX1_canBe_35 (lv_at hl 4 rfl) ?_
        refine lv_ishl hx hb dX1_canBe_37 ?_
        refine lv_ior hx hb dX1_canBe_38 ?_
        refine lv_istore_n (lv' := [(3, .int ((bb_bl (fun n9 => decide (vt (31 * n9 + b) = v) || bb_rop pr vt b n9) j) ||| (1 <<< ((nI j) &&& 31)))), (0, .ref g0), (1, .int (nI b)), (2, .int v), (4, .int (nI j))]) hx hb dX1_canBe_39 rfl hl (by decide) rfl (fun ls hl => ?_)
        refine lv_iinc (v := nI (j + 1)) (lv' := [(4, .int (nI (j + 1))), (3, .int ((bb_bl (fun n9 => decide (vt (31 * n9 + b) = v) || bb_rop pr vt b n9) j) ||| (1 <<< ((nI j) &&& 31)))), (0, .ref g0), (1, .int (nI b)), (2, .int v)]) hx hb dX1_canBe_40 hl (k := 4) rfl (bb_inc _) (by decide) rfl (fun ls hl => ?_)
        refine lv_goto (tgt := 5) hx hb dX1_canBe_43 rfl ?_
        have hl : lv_has ls 5 [(0, .ref g0), (1, .int (nI b)), (2, .int v), (3, .int ((bb_bl (fun n9 => decide (vt (31 * n9 + b) = v) || bb_rop pr vt b n9) j) ||| (1 <<< ((nI j) &&& 31)))), (4, .int (nI (j + 1)))] := lv_sub hl [2, 3, 4, 1, 0] rfl
        have e3 : ((bb_bl (fun n9 => decide (vt (31 * n9 + b) = v) || bb_rop pr vt b n9) j) ||| (1 <<< ((nI j) &&& 31))) = bb_bl (fun n9 => decide (vt (31 * n9 + b) = v) || bb_rop pr vt b n9) (j + 1) := by simp [bb_bl, h9, q9, h20, h30, q30]
        have hl : lv_has ls 5 [(0, .ref g0), (1, .int (nI b)), (2, .int v), (3, .int (bb_bl (fun n9 => decide (vt (31 * n9 + b) = v) || bb_rop pr vt b n9) (j + 1))), (4, .int (nI (j + 1)))] := by rw [← e3]; exact hl
        exact ihj ls hl
  · skip
    intro ls hI
    have hl := hI
    refine lv_iload hx hb dX1_canBe_5 (lv_at hl 4 rfl) ?_
    refine lv_bipush (v := nI 10) hx hb dX1_canBe_7 (by decide) ?_
    refine lv_icmp_ge (tgt := 46) hx hb dX1_canBe_9 rfl (fun h9 => ?_) (fun h9 => absurd (nI_le (Nat.le_refl _) (by decide)) h9)
    have q9 := bb_nlt h9
    refine lv_aload_n hx hb dX1_canBe_46 rfl (lv_at hl 0 rfl) ?_
    refine lv_iload_n hx hb dX1_canBe_47 rfl (lv_at hl 1 rfl) ?_
    refine lv_iload_n hx hb dX1_canBe_48 rfl (lv_at hl 2 rfl) ?_
    refine bb_cV (As := [.int (nI b), .int v]) (rest := []) (r := bb_I (bb_rot vt b v)) 0 ⟨hx, hb, hml, hown, hts⟩ (m_others l dC dI cA g0 b0 b1 b2 w pr vt k th b v (by omega)) (cwV 2 hts gX1_canBe_X1_others rfl rfl rfl (by decide +kernel) ⟨Nat.le_of_ble_eq_true rfl, Nat.le_of_ble_eq_true rfl⟩) hP hK rfl rfl rfl hl.1 rfl (Nat.le_of_ble_eq_true rfl) dX1_canBe_49 (Nat.zero_le _) (Nat.zero_le _) ?_
    refine lv_if_ne (tgt := 67) hx hb dX1_canBe_52 rfl (fun h52 => ?_) (fun h52 => ?_)
    · skip
      have q52 := bb_nz h52
      refine lv_iconst (v := 0) hx hb dX1_canBe_67 (by decide) ?_
      have er : bb_I (bb_rcan w k pr vt b v) = 0 := by simp [bb_I, bb_rcan, h9, q9, h52, q52]
      exact W.zret (v := 0) hx hb hr bb_z0 (fun t ht _ => ⟨by rw [er], ht⟩) (fun _ h => nomatch h) dX1_canBe_68
    · skip
      have q52 := bb_I_0.mp h52
      refine lv_aload_n hx hb dX1_canBe_55 rfl (lv_at hl 0 rfl) ?_
      refine lv_iload_n hx hb dX1_canBe_56 rfl (lv_at hl 3 rfl) ?_
      refine bb_cV (As := [.int (bb_bl (fun n9 => decide (vt (31 * n9 + b) = v) || bb_rop pr vt b n9) 10)]) (rest := []) (r := bb_I (bb_en w k (bb_bl (fun n9 => decide (vt (31 * n9 + b) = v) || bb_rop pr vt b n9) 10))) 0 ⟨hx, hb, hml, hown, hts⟩ (m_isEnough l dC dI cA g0 b0 b1 b2 w pr vt k th (bb_bl (fun n9 => decide (vt (31 * n9 + b) = v) || bb_rop pr vt b n9) 10)) (cwV 1 hts gX1_canBe_X1_isEnough rfl rfl rfl (by decide +kernel) ⟨Nat.le_of_ble_eq_true rfl, Nat.le_of_ble_eq_true rfl⟩) hP hK rfl rfl rfl hl.1 rfl (Nat.le_of_ble_eq_true rfl) dX1_canBe_57 (Nat.zero_le _) (Nat.zero_le _) ?_
      refine lv_if_eq (tgt := 67) hx hb dX1_canBe_60 rfl (fun h60 => ?_) (fun h60 => ?_)
      · skip
        have q60 := bb_I_0.mp h60
        refine lv_iconst (v := 0) hx hb dX1_canBe_67 (by decide) ?_
        have er : bb_I (bb_rcan w k pr vt b v) = 0 := by simp [bb_I, bb_rcan, h9, q9, h52, q52, h60, q60]
        exact W.zret (v := 0) hx hb hr bb_z0 (fun t ht _ => ⟨by rw [er], ht⟩) (fun _ h => nomatch h) dX1_canBe_68
      · skip
        have q60 := bb_nz h60
        refine lv_iconst (v := 1) hx hb dX1_canBe_63 (by decide) ?_
        refine lv_goto (tgt := 68) hx hb dX1_canBe_64 rfl ?_
        have er : bb_I (bb_rcan w k pr vt b v) = 1 := by simp [bb_I, bb_rcan, h9, q9, h52, q52, h60, q60]
        exact W.zret (v := 1) hx hb hr bb_z1 (fun t ht _ => ⟨by rw [er], ht⟩) (fun _ h => nomatch h) dX1_canBe_68

set_option maxHeartbeats 4000000 in
set_option maxRecDepth 100000 in
theorem m_isSafe (l : Launch) (dC : Nat → ClassId) (dI : Nat → Nat → Nat) (cA : ClassId) (g0 b0 b1 b2 : Nat) (w pr vt : Nat → Int32) (k th : Int32) (b : Nat) (v : Int32) (hb0 : b ≤ 31) : Met l yX1_isSafe wsX1_isSafe ({ frames := 3, cells := 0, slots := 0, locals := 69 }) (va_Pc [.ref g0, .int (nI b), .int v] (bb_B (dC, dI) vwCl (bb_M g0 b0 b1 b2 cA w pr vt k th) [(cA, .int)])) (QcRead (bb_I (bb_rsaf w k pr vt b v))) 0 0 (fun _ => False) := by
  refine Met.ofW (cc := cX1_isSafe) (maxL := 5) (ret := some .boolean) (by decide) rfl ?_
  intro p e s m args below meth c s₁ B hml hv
  obtain ⟨rfl, hP, hK⟩ := hv
  have hx := B.exec
  have hb := B.bytes
  have hr := B.returns
  have hts := atoms_spec (ws := wsX1_isSafe) B.pre
  have hown : s.vm.findClass RX1 = some m.cls := findClass_of_methodNamed B.named
  have hlocks := B.notSynchronized
  have hl := lv_entry ([.ref g0, .int (nI b), .int v]) (n := 5) (Nat.le_of_ble_eq_true rfl)
  rw [lg_entry_eq]
  generalize (lg_sl ([.ref g0, .int (nI b), .int v]) ++ List.replicate (5 - (lg_sl ([.ref g0, .int (nI b), .int v])).length) Slot.unset).toArray = ls at hl ⊢
  have hl : lv_has ls 5 [(0, .ref g0), (1, .int (nI b)), (2, .int v)] := hl
  refine lv_iconst (v := 0) hx hb dX1_isSafe_0 (by decide) ?_
  refine lv_istore_n (lv' := [(3, .int 0), (0, .ref g0), (1, .int (nI b)), (2, .int v)]) hx hb dX1_isSafe_1 rfl hl (by decide) rfl (fun ls hl => ?_)
  have hl : lv_has ls 5 [(0, .ref g0), (1, .int (nI b)), (2, .int v), (3, .int 0)] := lv_sub hl [1, 2, 3, 0] rfl
  refine bb_forW (pc := 2) (I := fun j9 ls => lv_has ls 5 [(0, .ref g0), (1, .int (nI b)), (2, .int v), (3, .int (nI j9))] ∧ bb_al (fun c9 => bb_al (bb_rsafI w k pr vt v c9) 10) j9 = true) b ?_ ?_ 0 ls (Nat.zero_le _) ⟨hl, rfl⟩
  · skip
    intro j ls hj hI ihj
    obtain ⟨hl, hno⟩ := hI
    refine lv_iload_n hx hb dX1_isSafe_2 rfl (lv_at hl 3 rfl) ?_
    refine lv_iload_n hx hb dX1_isSafe_3 rfl (lv_at hl 1 rfl) ?_
    refine lv_icmp_ge (tgt := 47) hx hb dX1_isSafe_4 rfl (fun h4 => absurd h4 (nI_ge hj (by omega))) (fun h4 => ?_)
    have q4 := bb_lt h4
    refine lv_iconst (v := 0) hx hb dX1_isSafe_7 (by decide) ?_
    refine lv_istore (lv' := [(4, .int 0), (0, .ref g0), (1, .int (nI b)), (2, .int v), (3, .int (nI j))]) hx hb dX1_isSafe_8 hl (by decide) rfl (fun ls hl => ?_)
    have hl : lv_has ls 5 [(0, .ref g0), (1, .int (nI b)), (2, .int v), (3, .int (nI j)), (4, .int 0)] := lv_sub hl [1, 2, 3, 4, 0] rfl
    refine bb_forW (pc := 10) (I := fun j9 ls => lv_has ls 5 [(0, .ref g0), (1, .int (nI b)), (2, .int v), (3, .int (nI j)), (4, .int (nI j9))] ∧ bb_al (bb_rsafI w k pr vt v j) j9 = true) 10 ?_ ?_ 0 ls (Nat.zero_le _) ⟨hl, rfl⟩
    · skip
      intro i ls hi hI ihi
      obtain ⟨hl, hni⟩ := hI
      refine lv_iload hx hb dX1_isSafe_10 (lv_at hl 4 rfl) ?_
      refine lv_bipush (v := nI 10) hx hb dX1_isSafe_12 (by decide) ?_
      refine lv_icmp_ge (tgt := 41) hx hb dX1_isSafe_14 rfl (fun h14 => absurd h14 (nI_ge hi (by decide))) (fun h14 => ?_)
      have q14 := bb_lt h14
      refine lv_iload hx hb dX1_isSafe_17 (lv_at hl 4 rfl) ?_
      refine lv_iload_n hx hb dX1_isSafe_19 rfl (lv_at hl 2 rfl) ?_
      refine lv_icmp_eq (tgt := 35) hx hb dX1_isSafe_20 rfl (fun h20 => ?_) (fun h20 => ?_)
      · skip
        refine lv_iinc (v := nI (i + 1)) (lv' := [(4, .int (nI (i + 1))), (0, .ref g0), (1, .int (nI b)), (2, .int v), (3, .int (nI j))]) hx hb dX1_isSafe_35 hl (k := 4) rfl (bb_inc _) (by decide) rfl (fun ls hl => ?_)
        refine lv_goto (tgt := 10) hx hb dX1_isSafe_38 rfl ?_
        have hl : lv_has ls 5 [(0, .ref g0), (1, .int (nI b)), (2, .int v), (3, .int (nI j)), (4, .int (nI (i + 1)))] := lv_sub hl [1, 2, 3, 4, 0] rfl
        exact ihi ls ⟨hl, by exact bb_al_step hni (by simp [bb_rsafI, h4, q4, h14, q14, h20])⟩
      · skip
        refine lv_aload_n hx hb dX1_isSafe_23 rfl (lv_at hl 0 rfl) ?_
        refine lv_iload_n hx hb dX1_isSafe_24 rfl (lv_at hl 3 rfl) ?_
        refine lv_iload hx hb dX1_isSafe_25 (lv_at hl 4 rfl) ?_
        refine bb_cV (As := [.int (nI j), .int (nI i)]) (rest := []) (r := bb_I (bb_rcan w k pr vt j (nI i))) 0 ⟨hx, hb, hml, hown, hts⟩ (m_canBe l dC dI cA g0 b0 b1 b2 w pr vt k th j (nI i) (by omega)) (cwV 2 hts gX1_isSafe_X1_canBe rfl rfl rfl (by decide +kernel) ⟨Nat.le_of_ble_eq_true rfl, Nat.le_of_ble_eq_true rfl⟩) hP hK rfl rfl rfl hl.1 rfl (Nat.le_of_ble_eq_true rfl) dX1_isSafe_27 (Nat.zero_le _) (Nat.zero_le _) ?_
        refine lv_if_eq (tgt := 35) hx hb dX1_isSafe_30 rfl (fun h30 => ?_) (fun h30 => ?_)
        · skip
          have q30 := bb_I_0.mp h30
          refine lv_iinc (v := nI (i + 1)) (lv' := [(4, .int (nI (i + 1))), (0, .ref g0), (1, .int (nI b)), (2, .int v), (3, .int (nI j))]) hx hb dX1_isSafe_35 hl (k := 4) rfl (bb_inc _) (by decide) rfl (fun ls hl => ?_)
          refine lv_goto (tgt := 10) hx hb dX1_isSafe_38 rfl ?_
          have hl : lv_has ls 5 [(0, .ref g0), (1, .int (nI b)), (2, .int v), (3, .int (nI j)), (4, .int (nI (i + 1)))] := lv_sub hl [1, 2, 3, 4, 0] rfl
          exact ihi ls ⟨hl, by exact bb_al_step hni (by simp [bb_rsafI, h4, q4, h14, q14, h20, h30, q30])⟩
        · skip
          have q30 := bb_nz h30
          refine lv_iconst (v := 0) hx hb dX1_isSafe_33 (by decide) ?_
          have er : bb_I (bb_rsaf w k pr vt b v) = 0 := by unfold bb_rsaf; rw [bb_al_no (p := fun c9 => bb_al (bb_rsafI w k pr vt v c9) 10) (j := j) (bb_al_no (p := bb_rsafI w k pr vt v j) (n := 10) (j := i) (by simp [bb_rsafI, h4, q4, h14, q14, h20, h30, q30]) hi) hj]; rfl
          exact W.zret (v := 0) hx hb hr bb_z0 (fun t ht _ => ⟨by rw [er], ht⟩) (fun _ h => nomatch h) dX1_isSafe_34
    · skip
      intro ls hI
      obtain ⟨hl, hni⟩ := hI
      refine lv_iload hx hb dX1_isSafe_10 (lv_at hl 4 rfl) ?_
      refine lv_bipush (v := nI 10) hx hb dX1_isSafe_12 (by decide) ?_
      refine lv_icmp_ge (tgt := 41) hx hb dX1_isSafe_14 rfl (fun h14 => ?_) (fun h14 => absurd (nI_le (Nat.le_refl _) (by decide)) h14)
      have q14 := bb_nlt h14
      refine lv_iinc (v := nI (j + 1)) (lv' := [(3, .int (nI (j + 1))), (0, .ref g0), (1, .int (nI b)), (2, .int v), (4, .int (nI 10))]) hx hb dX1_isSafe_41 hl (k := 3) rfl (bb_inc _) (by decide) rfl (fun ls hl => ?_)
      refine lv_goto (tgt := 2) hx hb dX1_isSafe_44 rfl ?_
      have hl : lv_has ls 5 [(0, .ref g0), (1, .int (nI b)), (2, .int v), (3, .int (nI (j + 1)))] := lv_sub hl [1, 2, 3, 0] rfl
      exact ihj ls ⟨hl, by exact bb_al_step hno hni⟩
  · skip
    intro ls hI
    obtain ⟨hl, hno⟩ := hI
    refine lv_iload_n hx hb dX1_isSafe_2 rfl (lv_at hl 3 rfl) ?_
    refine lv_iload_n hx hb dX1_isSafe_3 rfl (lv_at hl 1 rfl) ?_
    refine lv_icmp_ge (tgt := 47) hx hb dX1_isSafe_4 rfl (fun h4 => ?_) (fun h4 => absurd (nI_le (Nat.le_refl _) (by omega)) h4)
    have q4 := bb_nlt h4
    refine lv_iconst (v := 1) hx hb dX1_isSafe_47 (by decide) ?_
    have er : bb_I (bb_rsaf w k pr vt b v) = 1 := by unfold bb_rsaf; rw [hno]; rfl
    exact W.zret (v := 1) hx hb hr bb_z1 (fun t ht _ => ⟨by rw [er], ht⟩) (fun _ h => nomatch h) dX1_isSafe_48

set_option maxHeartbeats 4000000 in
set_option maxRecDepth 100000 in
theorem m_size (l : Launch)  (st : Int32) : Met l yX1_size wsX1_size ({ frames := 0, cells := 0, slots := 0, locals := 0 }) (va_Pc [.int st] (fun _ => True)) (QcRead (bb_sz st 10)) 0 0 (fun _ => False) := by
  refine Met.ofW (cc := cX1_size) (maxL := 3) (ret := some .int) (by decide) rfl ?_
  intro p e s m args below meth c s₁ B hml hv
  obtain ⟨rfl, -⟩ := hv
  have hx := B.exec
  have hb := B.bytes
  have hr := B.returns
  have hts := atoms_spec (ws := wsX1_size) B.pre
  have hown : s.vm.findClass RX1 = some m.cls := findClass_of_methodNamed B.named
  have hlocks := B.notSynchronized
  have hl := lv_entry ([.int st]) (n := 3) (Nat.le_of_ble_eq_true rfl)
  rw [lg_entry_eq]
  generalize (lg_sl ([.int st]) ++ List.replicate (3 - (lg_sl ([.int st])).length) Slot.unset).toArray = ls at hl ⊢
  have hl : lv_has ls 3 [(0, .int st)] := hl
  refine lv_iconst (v := 0) hx hb dX1_size_0 (by decide) ?_
  refine lv_istore_n (lv' := [(1, .int 0), (0, .int st)]) hx hb dX1_size_1 rfl hl (by decide) rfl (fun ls hl => ?_)
  refine lv_iconst (v := 0) hx hb dX1_size_2 (by decide) ?_
  refine lv_istore_n (lv' := [(2, .int 0), (1, .int 0), (0, .int st)]) hx hb dX1_size_3 rfl hl (by decide) rfl (fun ls hl => ?_)
  have hl : lv_has ls 3 [(0, .int st), (1, .int 0), (2, .int 0)] := lv_sub hl [2, 1, 0] rfl
  refine bb_forW (pc := 4) (I := fun j9 ls => lv_has ls 3 [(0, .int st), (1, .int (bb_sz st j9)), (2, .int (nI j9))]) 10 ?_ ?_ 0 ls (Nat.zero_le _) hl
  · skip
    intro j ls hj hI ihj
    have hl := hI
    refine lv_iload_n hx hb dX1_size_4 rfl (lv_at hl 2 rfl) ?_
    refine lv_bipush (v := nI 10) hx hb dX1_size_5 (by decide) ?_
    refine lv_icmp_ge (tgt := 24) hx hb dX1_size_7 rfl (fun h7 => absurd h7 (nI_ge hj (by decide))) (fun h7 => ?_)
    have q7 := bb_lt h7
    refine lv_iload_n hx hb dX1_size_10 rfl (lv_at hl 1 rfl) ?_
    refine lv_iload_n hx hb dX1_size_11 rfl (lv_at hl 0 rfl) ?_
    refine lv_iload_n hx hb dX1_size_12 rfl (lv_at hl 2 rfl) ?_
    refine lv_ishr hx hb dX1_size_13 ?_
    refine lv_iconst (v := 1) hx hb dX1_size_14 (by decide) ?_
    refine lv_iand hx hb dX1_size_15 ?_
    refine lv_iadd hx hb dX1_size_16 ?_
    refine lv_istore_n (lv' := [(1, .int ((bb_sz st j) + ((st >>> ((nI j) &&& 31)) &&& 1))), (0, .int st), (2, .int (nI j))]) hx hb dX1_size_17 rfl hl (by decide) rfl (fun ls hl => ?_)
    refine lv_iinc (v := nI (j + 1)) (lv' := [(2, .int (nI (j + 1))), (1, .int ((bb_sz st j) + ((st >>> ((nI j) &&& 31)) &&& 1))), (0, .int st)]) hx hb dX1_size_18 hl (k := 2) rfl (bb_inc _) (by decide) rfl (fun ls hl => ?_)
    refine lv_goto (tgt := 4) hx hb dX1_size_21 rfl ?_
    have hl : lv_has ls 3 [(0, .int st), (1, .int ((bb_sz st j) + ((st >>> ((nI j) &&& 31)) &&& 1))), (2, .int (nI (j + 1)))] := lv_sub hl [2, 1, 0] rfl
    have e1 : ((bb_sz st j) + ((st >>> ((nI j) &&& 31)) &&& 1)) = bb_sz st (j + 1) := by simp [bb_sz, h7, q7]
    have hl : lv_has ls 3 [(0, .int st), (1, .int (bb_sz st (j + 1))), (2, .int (nI (j + 1)))] := by rw [← e1]; exact hl
    exact ihj ls hl
  · skip
    intro ls hI
    have hl := hI
    refine lv_iload_n hx hb dX1_size_4 rfl (lv_at hl 2 rfl) ?_
    refine lv_bipush (v := nI 10) hx hb dX1_size_5 (by decide) ?_
    refine lv_icmp_ge (tgt := 24) hx hb dX1_size_7 rfl (fun h7 => ?_) (fun h7 => absurd (nI_le (Nat.le_refl _) (by decide)) h7)
    have q7 := bb_nlt h7
    refine lv_iload_n hx hb dX1_size_24 rfl (lv_at hl 1 rfl) ?_
    exact W.iret (v := bb_sz st 10) hx hb hr (fun t ht _ => ⟨rfl, ht⟩) (fun _ h => nomatch h) dX1_size_25

set_option maxHeartbeats 4000000 in
set_option maxRecDepth 100000 in
theorem m_thrown (l : Launch) (dC : Nat → ClassId) (dI : Nat → Nat → Nat) (cA : ClassId) (g0 b0 b1 b2 : Nat) (w pr vt : Nat → Int32) (k th : Int32)  : Met l yX1_thrown wsX1_thrown ({ frames := 0, cells := 0, slots := 0, locals := 0 }) (va_Pc [.ref g0] (bb_B (dC, dI) vwCl (bb_M g0 b0 b1 b2 cA w pr vt k th) [(cA, .int)])) (QcRead (th)) 0 0 (fun _ => False) := by
  refine Met.ofW (cc := cX1_thrown) (maxL := 1) (ret := some .int) (by decide) rfl ?_
  intro p e s m args below meth c s₁ B hml hv
  obtain ⟨rfl, hP, hK⟩ := hv
  have hx := B.exec
  have hb := B.bytes
  have hr := B.returns
  have hts := atoms_spec (ws := wsX1_thrown) B.pre
  have hown : s.vm.findClass RX1 = some m.cls := findClass_of_methodNamed B.named
  have hlocks := B.notSynchronized
  have hin : ∀ w9 ∈ u_ws RX1 TX1 5, w9 ∈ wsX1_thrown := fun w9 h9 => List.mem_cons_of_mem _ (bb_inX1 w9 h9)
  have hf23 := hts _ (List.mem_cons_of_mem _ bb_fX1_23)
  have hl := lv_entry ([.ref g0]) (n := 1) (Nat.le_of_ble_eq_true rfl)
  rw [lg_entry_eq]
  generalize (lg_sl ([.ref g0]) ++ List.replicate (1 - (lg_sl ([.ref g0])).length) Slot.unset).toArray = ls at hl ⊢
  have hl : lv_has ls 1 [(0, .ref g0)] := hl
  refine lv_aload_n hx hb dX1_thrown_0 rfl (lv_at hl 0 rfl) ?_
  refine va_get (D := (dC, dI)) (ci := 1) (v := .int th) (C := RX1) (T := TX1) (N := 5) hx hb hts hin hown hK hP 0 rfl rfl 4 (by decide) hf23 (fun _ h9 => h9) rfl dX1_thrown_1 ?_
  exact W.iret (v := th) hx hb hr (fun t ht _ => ⟨rfl, ht⟩) (fun _ h => nomatch h) dX1_thrown_4
