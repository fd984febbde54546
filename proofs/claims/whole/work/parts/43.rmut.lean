set_option maxHeartbeats 4000000 in
set_option maxRecDepth 100000 in
theorem r_least (l : Launch) (dC : Nat → ClassId) (dI : Nat → Nat → Nat) (cA : ClassId) (g0 b0 b1 b2 : Nat) (w pr vt : Nat → Int32) (k th : Int32) (sz : Nat)  : Met l yX1_least wsX1_least ({ frames := 1, cells := 0, slots := 0, locals := 23 }) (bb_Pm [.ref g0] (dC, dI) vwCl [(g0, .inr (1, [.ref b0, .ref b1, .ref b2, .int k, .int th])), (b0, .inl (cA, 10, .inl w)), (b1, .inl (cA, 10, .inl pr)), (b2, .inl (cA, 310, .inl vt))] [(cA, .int)] sz) (bb_Qm (bb_lr w k 1024) (dC, dI) vwCl [(g0, .inr (1, [.ref b0, .ref b1, .ref b2, .int k, .int 0])), (b0, .inl (cA, 10, .inl w)), (b1, .inl (cA, 10, .inl pr)), (b2, .inl (cA, 310, .inl vt))] (va_A [(g0, .inr (1, [.ref b0, .ref b1, .ref b2, .int k, .int th])), (b0, .inl (cA, 10, .inl w)), (b1, .inl (cA, 10, .inl pr)), (b2, .inl (cA, 310, .inl vt))] sz)) 0 0 (va_A [(g0, .inr (1, [.ref b0, .ref b1, .ref b2, .int k, .int th])), (b0, .inl (cA, 10, .inl w)), (b1, .inl (cA, 10, .inl pr)), (b2, .inl (cA, 310, .inl vt))] sz) := by
  refine Met.ofW (cc := cX1_least) (maxL := 3) (ret := some .int) (by decide) rfl ?_
  intro p e s m args below meth c s₁ B hml hv
  obtain ⟨rfl, hsz, hP, hK, hD0⟩ := hv
  have hx := B.exec
  have hb := B.bytes
  have hr := B.returns
  have hts := atoms_spec (ws := wsX1_least) B.pre
  have hown : s.vm.findClass RX1 = some m.cls := findClass_of_methodNamed B.named
  have hlocks := B.notSynchronized
  subst hsz
  have hD := hD0.self (sz := s.heap.size)
  generalize hAe : va_A [(g0, .inr (1, [.ref b0, .ref b1, .ref b2, .int k, .int th])), (b0, .inl (cA, 10, .inl w)), (b1, .inl (cA, 10, .inl pr)), (b2, .inl (cA, 310, .inl vt))] s.heap.size = A at hD ⊢
  have hA : ∀ q : Nat, s.heap.size ≤ q → A q := fun q h => by rw [← hAe]; exact Or.inr h
  have hin : ∀ w9 ∈ u_ws RX1 TX1 5, w9 ∈ wsX1_least := fun w9 h9 => List.mem_cons_of_mem _ (bb_inX1 w9 h9)
  have hf23 := hts _ (List.mem_cons_of_mem _ bb_fX1_23)
  have hl := lv_entry ([.ref g0]) (n := 3) (Nat.le_of_ble_eq_true rfl)
  rw [lg_entry_eq]
  generalize (lg_sl ([.ref g0]) ++ List.replicate (3 - (lg_sl ([.ref g0])).length) Slot.unset).toArray = ls at hl ⊢
  have hl : lv_has ls 3 [(0, .ref g0)] := hl
  refine bb_gen hP hD (fun H locs hP hD hS => ?_)
  refine lv_aload_n hx hb dX1_least_0 rfl (lv_at hl 0 rfl) ?_
  refine lv_iconst (v := 0) hx hb dX1_least_1 (by decide) ?_
  refine va_put (D := (dC, dI)) (ci := 1) (v := .int 0) (ty := .int) (C := RX1) (T := TX1) (N := 5) hx hb hts hin tyX1 tyX1_ok nX1 hown hK hP hD hS 0 rfl rfl 4 (by decide) hf23 (fun _ h9 => h9) rfl (by decide +kernel) rfl rfl (Nat.le_of_ble_eq_true rfl) dX1_least_2 (fun H locs hP hD hS => ?_)
  have hP : va_P (dC, dI) vwCl [(g0, .inr (1, [.ref b0, .ref b1, .ref b2, .int k, .int 0])), (b0, .inl (cA, 10, .inl w)), (b1, .inl (cA, 10, .inl pr)), (b2, .inl (cA, 310, .inl vt))] H := hP
  have hD : va_D A [(g0, .inr (1, [.ref b0, .ref b1, .ref b2, .int k, .int 0])), (b0, .inl (cA, 10, .inl w)), (b1, .inl (cA, 10, .inl pr)), (b2, .inl (cA, 310, .inl vt))] := hD
  refine lv_iconst (v := (-1)) hx hb dX1_least_5 (by decide) ?_
  refine lv_istore_n (lv' := [(1, .int (-1)), (0, .ref g0)]) hx hb dX1_least_6 rfl hl (by decide) rfl (fun ls hl => ?_)
  refine lv_iconst (v := 0) hx hb dX1_least_7 (by decide) ?_
  refine lv_istore_n (lv' := [(2, .int 0), (1, .int (-1)), (0, .ref g0)]) hx hb dX1_least_8 rfl hl (by decide) rfl (fun ls hl => ?_)
  have hl : lv_has ls 3 [(0, .ref g0), (1, .int (-1)), (2, .int 0)] := lv_sub hl [2, 1, 0] rfl
  refine bb_forW (pc := 9) (I := fun j9 ls => lv_has ls 3 [(0, .ref g0), (1, .int (bb_lr w k j9)), (2, .int (nI j9))]) 1024 ?_ ?_ 0 ls (Nat.zero_le _) hl
  · skip
    intro j ls hj hI ihj
    have hl := hI
    refine lv_iload_n hx hb dX1_least_9 rfl (lv_at hl 2 rfl) ?_
    refine lv_sipush (v := nI 1024) hx hb dX1_least_10 (by decide) ?_
    refine lv_icmp_ge (tgt := 48) hx hb dX1_least_13 rfl (fun h13 => absurd h13 (nI_ge hj (by decide))) (fun h13 => ?_)
    have q13 := bb_lt h13
    refine lv_aload_n hx hb dX1_least_16 rfl (lv_at hl 0 rfl) ?_
    refine lv_iload_n hx hb dX1_least_17 rfl (lv_at hl 2 rfl) ?_
    refine bb_cV (As := [.int (nI j)]) (rest := []) (r := bb_I (bb_en w k (nI j))) 0 ⟨hx, hb, hml, hown, hts⟩ (m_isEnough l dC dI cA g0 b0 b1 b2 w pr vt k 0 (nI j)) (cwV 1 hts gX1_least_X1_isEnough rfl rfl rfl (by decide +kernel) ⟨Nat.le_of_ble_eq_true rfl, Nat.le_of_ble_eq_true rfl⟩) hP hK rfl rfl rfl hl.1 rfl (Nat.le_of_ble_eq_true rfl) dX1_least_18 (Nat.zero_le _) (Nat.zero_le _) ?_
    refine lv_if_eq (tgt := 42) hx hb dX1_least_21 rfl (fun h21 => ?_) (fun h21 => ?_)
    · skip
      have q21 := bb_I_0.mp h21
      refine lv_iinc (v := nI (j + 1)) (lv' := [(2, .int (nI (j + 1))), (0, .ref g0), (1, .int (bb_lr w k j))]) hx hb dX1_least_42 hl (k := 2) rfl (bb_inc _) (by decide) rfl (fun ls hl => ?_)
      refine lv_goto (tgt := 9) hx hb dX1_least_45 rfl ?_
      have hl : lv_has ls 3 [(0, .ref g0), (1, .int (bb_lr w k j)), (2, .int (nI (j + 1)))] := lv_sub hl [1, 2, 0] rfl
      have e1 : (bb_lr w k j) = bb_lr w k (j + 1) := by simp [bb_lr, h13, q13, h21, q21]
      have hl : lv_has ls 3 [(0, .ref g0), (1, .int (bb_lr w k (j + 1))), (2, .int (nI (j + 1)))] := by rw [← e1]; exact hl
      exact ihj ls hl
    · skip
      have q21 := bb_nz h21
      refine lv_iload_n hx hb dX1_least_24 rfl (lv_at hl 1 rfl) ?_
      refine lv_iconst (v := (-1)) hx hb dX1_least_25 (by decide) ?_
      refine lv_icmp_eq (tgt := 37) hx hb dX1_least_26 rfl (fun h26 => ?_) (fun h26 => ?_)
      · skip
        refine lv_iload_n hx hb dX1_least_37 rfl (lv_at hl 2 rfl) ?_
        refine bb_cS (As := [.int (nI j)]) (rest := []) (r := bb_sz (nI j) 10) ⟨hx, hb, hml, hown, hts⟩ (m_size l (nI j)) (cwS 1 hts gX1_least_X1_size rfl rfl rfl (by decide +kernel) ⟨Nat.le_of_ble_eq_true rfl, Nat.le_of_ble_eq_true rfl⟩) rfl hl.1 rfl (Nat.le_of_ble_eq_true rfl) dX1_least_38 (Nat.zero_le _) (Nat.zero_le _) ?_
        refine lv_istore_n (lv' := [(1, .int (bb_sz (nI j) 10)), (0, .ref g0), (2, .int (nI j))]) hx hb dX1_least_41 rfl hl (by decide) rfl (fun ls hl => ?_)
        refine lv_iinc (v := nI (j + 1)) (lv' := [(2, .int (nI (j + 1))), (1, .int (bb_sz (nI j) 10)), (0, .ref g0)]) hx hb dX1_least_42 hl (k := 2) rfl (bb_inc _) (by decide) rfl (fun ls hl => ?_)
        refine lv_goto (tgt := 9) hx hb dX1_least_45 rfl ?_
        have hl : lv_has ls 3 [(0, .ref g0), (1, .int (bb_sz (nI j) 10)), (2, .int (nI (j + 1)))] := lv_sub hl [2, 1, 0] rfl
        have e2 : (bb_sz (nI j) 10) = bb_lr w k (j + 1) := by simp [bb_lr, h13, q13, h21, q21, h26]
        have hl : lv_has ls 3 [(0, .ref g0), (1, .int (bb_lr w k (j + 1))), (2, .int (nI (j + 1)))] := by rw [← e2]; exact hl
        exact ihj ls hl
      · skip
        refine lv_iload_n hx hb dX1_least_29 rfl (lv_at hl 2 rfl) ?_
        refine bb_cS (As := [.int (nI j)]) (rest := []) (r := bb_sz (nI j) 10) ⟨hx, hb, hml, hown, hts⟩ (m_size l (nI j)) (cwS 1 hts gX1_least_X1_size rfl rfl rfl (by decide +kernel) ⟨Nat.le_of_ble_eq_true rfl, Nat.le_of_ble_eq_true rfl⟩) rfl hl.1 rfl (Nat.le_of_ble_eq_true rfl) dX1_least_30 (Nat.zero_le _) (Nat.zero_le _) ?_
        refine lv_iload_n hx hb dX1_least_33 rfl (lv_at hl 1 rfl) ?_
        refine lv_icmp_ge (tgt := 42) hx hb dX1_least_34 rfl (fun h34 => ?_) (fun h34 => ?_)
        · skip
          have q34 := bb_nlt h34
          refine lv_iinc (v := nI (j + 1)) (lv' := [(2, .int (nI (j + 1))), (0, .ref g0), (1, .int (bb_lr w k j))]) hx hb dX1_least_42 hl (k := 2) rfl (bb_inc _) (by decide) rfl (fun ls hl => ?_)
          refine lv_goto (tgt := 9) hx hb dX1_least_45 rfl ?_
          have hl : lv_has ls 3 [(0, .ref g0), (1, .int (bb_lr w k j)), (2, .int (nI (j + 1)))] := lv_sub hl [1, 2, 0] rfl
          have e3 : (bb_lr w k j) = bb_lr w k (j + 1) := by simp [bb_lr, h13, q13, h21, q21, h26, h34, q34]
          have hl : lv_has ls 3 [(0, .ref g0), (1, .int (bb_lr w k (j + 1))), (2, .int (nI (j + 1)))] := by rw [← e3]; exact hl
          exact ihj ls hl
        · skip
          have q34 := bb_lt h34
          refine lv_iload_n hx hb dX1_least_37 rfl (lv_at hl 2 rfl) ?_
          refine bb_cS (As := [.int (nI j)]) (rest := []) (r := bb_sz (nI j) 10) ⟨hx, hb, hml, hown, hts⟩ (m_size l (nI j)) (cwS 1 hts gX1_least_X1_size rfl rfl rfl (by decide +kernel) ⟨Nat.le_of_ble_eq_true rfl, Nat.le_of_ble_eq_true rfl⟩) rfl hl.1 rfl (Nat.le_of_ble_eq_true rfl) dX1_least_38 (Nat.zero_le _) (Nat.zero_le _) ?_
          refine lv_istore_n (lv' := [(1, .int (bb_sz (nI j) 10)), (0, .ref g0), (2, .int (nI j))]) hx hb dX1_least_41 rfl hl (by decide) rfl (fun ls hl => ?_)
          refine lv_iinc (v := nI (j + 1)) (lv' := [(2, .int (nI (j + 1))), (1, .int (bb_sz (nI j) 10)), (0, .ref g0)]) hx hb dX1_least_42 hl (k := 2) rfl (bb_inc _) (by decide) rfl (fun ls hl => ?_)
          refine lv_goto (tgt := 9) hx hb dX1_least_45 rfl ?_
          have hl : lv_has ls 3 [(0, .ref g0), (1, .int (bb_sz (nI j) 10)), (2, .int (nI (j + 1)))] := lv_sub hl [2, 1, 0] rfl
          have e4 : (bb_sz (nI j) 10) = bb_lr w k (j + 1) := by simp [bb_lr, h13, q13, h21, q21, h26, h34, q34]
          have hl : lv_has ls 3 [(0, .ref g0), (1, .int (bb_lr w k (j + 1))), (2, .int (nI (j + 1)))] := by rw [← e4]; exact hl
          exact ihj ls hl
  · skip
    intro ls hI
    have hl := hI
    refine lv_iload_n hx hb dX1_least_9 rfl (lv_at hl 2 rfl) ?_
    refine lv_sipush (v := nI 1024) hx hb dX1_least_10 (by decide) ?_
    refine lv_icmp_ge (tgt := 48) hx hb dX1_least_13 rfl (fun h13 => ?_) (fun h13 => absurd (nI_le (Nat.le_refl _) (by decide)) h13)
    have q13 := bb_nlt h13
    refine lv_iload_n hx hb dX1_least_48 rfl (lv_at hl 1 rfl) ?_
    exact W.iret (v := bb_lr w k 1024) hx hb hr (fun t ht _ => ⟨⟨bb_lr w k 1024, (), rfl, rfl, by show va_P _ _ _ t.heap; rw [ht]; exact hP⟩, hS.F ht⟩) hS.2.2 dX1_least_49

set_option maxHeartbeats 4000000 in
set_option maxRecDepth 100000 in
theorem r_meet (l : Launch) (dC : Nat → ClassId) (dI : Nat → Nat → Nat) (cA : ClassId) (g0 b0 b1 b2 : Nat) (w pr vt : Nat → Int32) (k th : Int32) (sz : Nat)  : Met l yX1_meet wsX1_meet ({ frames := 1, cells := 0, slots := 0, locals := 23 }) (bb_Pm [.ref g0] (dC, dI) vwCl [(g0, .inr (1, [.ref b0, .ref b1, .ref b2, .int k, .int th])), (b0, .inl (cA, 10, .inl w)), (b1, .inl (cA, 10, .inl pr)), (b2, .inl (cA, 310, .inl vt))] [(cA, .int)] sz) (bb_Qm (bb_I (bb_al (fun x9 => !(bb_en w k (nI x9) && bb_en w k (bb_not (nI x9) &&& 1023))) 1024)) (dC, dI) vwCl [(g0, .inr (1, [.ref b0, .ref b1, .ref b2, .int k, .int 0])), (b0, .inl (cA, 10, .inl w)), (b1, .inl (cA, 10, .inl pr)), (b2, .inl (cA, 310, .inl vt))] (va_A [(g0, .inr (1, [.ref b0, .ref b1, .ref b2, .int k, .int th])), (b0, .inl (cA, 10, .inl w)), (b1, .inl (cA, 10, .inl pr)), (b2, .inl (cA, 310, .inl vt))] sz)) 0 0 (va_A [(g0, .inr (1, [.ref b0, .ref b1, .ref b2, .int k, .int th])), (b0, .inl (cA, 10, .inl w)), (b1, .inl (cA, 10, .inl pr)), (b2, .inl (cA, 310, .inl vt))] sz) := by
  refine Met.ofW (cc := cX1_meet) (maxL := 2) (ret := some .boolean) (by decide) rfl ?_
  intro p e s m args below meth c s₁ B hml hv
  obtain ⟨rfl, hsz, hP, hK, hD0⟩ := hv
  have hx := B.exec
  have hb := B.bytes
  have hr := B.returns
  have hts := atoms_spec (ws := wsX1_meet) B.pre
  have hown : s.vm.findClass RX1 = some m.cls := findClass_of_methodNamed B.named
  have hlocks := B.notSynchronized
  subst hsz
  have hD := hD0.self (sz := s.heap.size)
  generalize hAe : va_A [(g0, .inr (1, [.ref b0, .ref b1, .ref b2, .int k, .int th])), (b0, .inl (cA, 10, .inl w)), (b1, .inl (cA, 10, .inl pr)), (b2, .inl (cA, 310, .inl vt))] s.heap.size = A at hD ⊢
  have hA : ∀ q : Nat, s.heap.size ≤ q → A q := fun q h => by rw [← hAe]; exact Or.inr h
  have hin : ∀ w9 ∈ u_ws RX1 TX1 5, w9 ∈ wsX1_meet := fun w9 h9 => List.mem_cons_of_mem _ (bb_inX1 w9 h9)
  have hf23 := hts _ (List.mem_cons_of_mem _ bb_fX1_23)
  have hl := lv_entry ([.ref g0]) (n := 2) (Nat.le_of_ble_eq_true rfl)
  rw [lg_entry_eq]
  generalize (lg_sl ([.ref g0]) ++ List.replicate (2 - (lg_sl ([.ref g0])).length) Slot.unset).toArray = ls at hl ⊢
  have hl : lv_has ls 2 [(0, .ref g0)] := hl
  refine bb_gen hP hD (fun H locs hP hD hS => ?_)
  refine lv_aload_n hx hb dX1_meet_0 rfl (lv_at hl 0 rfl) ?_
  refine lv_iconst (v := 0) hx hb dX1_meet_1 (by decide) ?_
  refine va_put (D := (dC, dI)) (ci := 1) (v := .int 0) (ty := .int) (C := RX1) (T := TX1) (N := 5) hx hb hts hin tyX1 tyX1_ok nX1 hown hK hP hD hS 0 rfl rfl 4 (by decide) hf23 (fun _ h9 => h9) rfl (by decide +kernel) rfl rfl (Nat.le_of_ble_eq_true rfl) dX1_meet_2 (fun H locs hP hD hS => ?_)
  have hP : va_P (dC, dI) vwCl [(g0, .inr (1, [.ref b0, .ref b1, .ref b2, .int k, .int 0])), (b0, .inl (cA, 10, .inl w)), (b1, .inl (cA, 10, .inl pr)), (b2, .inl (cA, 310, .inl vt))] H := hP
  have hD : va_D A [(g0, .inr (1, [.ref b0, .ref b1, .ref b2, .int k, .int 0])), (b0, .inl (cA, 10, .inl w)), (b1, .inl (cA, 10, .inl pr)), (b2, .inl (cA, 310, .inl vt))] := hD
  refine lv_iconst (v := 0) hx hb dX1_meet_5 (by decide) ?_
  refine lv_istore_n (lv' := [(1, .int 0), (0, .ref g0)]) hx hb dX1_meet_6 rfl hl (by decide) rfl (fun ls hl => ?_)
  have hl : lv_has ls 2 [(0, .ref g0), (1, .int 0)] := lv_sub hl [1, 0] rfl
  refine bb_forW (pc := 7) (I := fun j9 ls => lv_has ls 2 [(0, .ref g0), (1, .int (nI j9))] ∧ bb_al (fun x9 => !(bb_en w k (nI x9) && bb_en w k (bb_not (nI x9) &&& 1023))) j9 = true) 1024 ?_ ?_ 0 ls (Nat.zero_le _) ⟨hl, rfl⟩
  · skip
    intro j ls hj hI ihj
    obtain ⟨hl, hno⟩ := hI
    refine lv_iload_n hx hb dX1_meet_7 rfl (lv_at hl 1 rfl) ?_
    refine lv_sipush (v := nI 1024) hx hb dX1_meet_8 (by decide) ?_
    refine lv_icmp_ge (tgt := 44) hx hb dX1_meet_11 rfl (fun h11 => absurd h11 (nI_ge hj (by decide))) (fun h11 => ?_)
    have q11 := bb_lt h11
    refine lv_aload_n hx hb dX1_meet_14 rfl (lv_at hl 0 rfl) ?_
    refine lv_iload_n hx hb dX1_meet_15 rfl (lv_at hl 1 rfl) ?_
    refine bb_cV (As := [.int (nI j)]) (rest := []) (r := bb_I (bb_en w k (nI j))) 0 ⟨hx, hb, hml, hown, hts⟩ (m_isEnough l dC dI cA g0 b0 b1 b2 w pr vt k 0 (nI j)) (cwV 1 hts gX1_meet_X1_isEnough rfl rfl rfl (by decide +kernel) ⟨Nat.le_of_ble_eq_true rfl, Nat.le_of_ble_eq_true rfl⟩) hP hK rfl rfl rfl hl.1 rfl (Nat.le_of_ble_eq_true rfl) dX1_meet_16 (Nat.zero_le _) (Nat.zero_le _) ?_
    refine lv_if_eq (tgt := 38) hx hb dX1_meet_19 rfl (fun h19 => ?_) (fun h19 => ?_)
    · skip
      have q19 := bb_I_0.mp h19
      refine lv_iinc (v := nI (j + 1)) (lv' := [(1, .int (nI (j + 1))), (0, .ref g0)]) hx hb dX1_meet_38 hl (k := 1) rfl (bb_inc _) (by decide) rfl (fun ls hl => ?_)
      refine lv_goto (tgt := 7) hx hb dX1_meet_41 rfl ?_
      have hl : lv_has ls 2 [(0, .ref g0), (1, .int (nI (j + 1)))] := lv_sub hl [1, 0] rfl
      exact ihj ls ⟨hl, by exact bb_al_step hno (by simp [h11, q11, h19, q19])⟩
    · skip
      have q19 := bb_nz h19
      refine lv_aload_n hx hb dX1_meet_22 rfl (lv_at hl 0 rfl) ?_
      refine lv_iload_n hx hb dX1_meet_23 rfl (lv_at hl 1 rfl) ?_
      refine lv_iconst (v := (-1)) hx hb dX1_meet_24 (by decide) ?_
      refine lv_ixor hx hb dX1_meet_25 ?_
      refine bb_topi (y := bb_not (nI j)) rfl ?_
      refine lv_sipush (v := 1023) hx hb dX1_meet_26 (by decide) ?_
      refine lv_iand hx hb dX1_meet_29 ?_
      refine bb_cV (As := [.int ((bb_not (nI j)) &&& 1023)]) (rest := []) (r := bb_I (bb_en w k ((bb_not (nI j)) &&& 1023))) 0 ⟨hx, hb, hml, hown, hts⟩ (m_isEnough l dC dI cA g0 b0 b1 b2 w pr vt k 0 ((bb_not (nI j)) &&& 1023)) (cwV 1 hts gX1_meet_X1_isEnough rfl rfl rfl (by decide +kernel) ⟨Nat.le_of_ble_eq_true rfl, Nat.le_of_ble_eq_true rfl⟩) hP hK rfl rfl rfl hl.1 rfl (Nat.le_of_ble_eq_true rfl) dX1_meet_30 (Nat.zero_le _) (Nat.zero_le _) ?_
      refine lv_if_eq (tgt := 38) hx hb dX1_meet_33 rfl (fun h33 => ?_) (fun h33 => ?_)
      · skip
        have q33 := bb_I_0.mp h33
        refine lv_iinc (v := nI (j + 1)) (lv' := [(1, .int (nI (j + 1))), (0, .ref g0)]) hx hb dX1_meet_38 hl (k := 1) rfl (bb_inc _) (by decide) rfl (fun ls hl => ?_)
        refine lv_goto (tgt := 7) hx hb dX1_meet_41 rfl ?_
        have hl : lv_has ls 2 [(0, .ref g0), (1, .int (nI (j + 1)))] := lv_sub hl [1, 0] rfl
        exact ihj ls ⟨hl, by exact bb_al_step hno (by simp [h11, q11, h19, q19, h33, q33])⟩
      · skip
        have q33 := bb_nz h33
        refine lv_iconst (v := 0) hx hb dX1_meet_36 (by decide) ?_
        have er : 0 = bb_I (bb_al (fun x9 => !(bb_en w k (nI x9) && bb_en w k (bb_not (nI x9) &&& 1023))) 1024) := by rw [bb_al_no (j := j) (by simp [h11, q11, h19, q19, h33, q33]) hj]; rfl
        exact W.zret (v := 0) hx hb hr bb_z0 (fun t ht _ => ⟨⟨0, (), rfl, er, by show va_P _ _ _ t.heap; rw [ht]; exact hP⟩, hS.F ht⟩) hS.2.2 dX1_meet_37
  · skip
    intro ls hI
    obtain ⟨hl, hno⟩ := hI
    refine lv_iload_n hx hb dX1_meet_7 rfl (lv_at hl 1 rfl) ?_
    refine lv_sipush (v := nI 1024) hx hb dX1_meet_8 (by decide) ?_
    refine lv_icmp_ge (tgt := 44) hx hb dX1_meet_11 rfl (fun h11 => ?_) (fun h11 => absurd (nI_le (Nat.le_refl _) (by decide)) h11)
    have q11 := bb_nlt h11
    refine lv_iconst (v := 1) hx hb dX1_meet_44 (by decide) ?_
    have er : 1 = bb_I (bb_al (fun x9 => !(bb_en w k (nI x9) && bb_en w k (bb_not (nI x9) &&& 1023))) 1024) := by rw [hno]; rfl
    exact W.zret (v := 1) hx hb hr bb_z1 (fun t ht _ => ⟨⟨1, (), rfl, er, by show va_P _ _ _ t.heap; rw [ht]; exact hP⟩, hS.F ht⟩) hS.2.2 dX1_meet_45

set_option maxHeartbeats 4000000 in
set_option maxRecDepth 100000 in
theorem r_bare (l : Launch) (dC : Nat → ClassId) (dI : Nat → Nat → Nat) (cA : ClassId) (g0 b0 b1 b2 : Nat) (w pr vt : Nat → Int32) (k th : Int32) (sz : Nat)  : Met l yX1_bare wsX1_bare ({ frames := 1, cells := 0, slots := 0, locals := 23 }) (bb_Pm [.ref g0] (dC, dI) vwCl [(g0, .inr (1, [.ref b0, .ref b1, .ref b2, .int k, .int th])), (b0, .inl (cA, 10, .inl w)), (b1, .inl (cA, 10, .inl pr)), (b2, .inl (cA, 310, .inl vt))] [(cA, .int)] sz) (bb_Qm (nI (bb_cn (fun x9 => bb_rbare w k (nI x9) 10) 1024)) (dC, dI) vwCl [(g0, .inr (1, [.ref b0, .ref b1, .ref b2, .int k, .int 0])), (b0, .inl (cA, 10, .inl w)), (b1, .inl (cA, 10, .inl pr)), (b2, .inl (cA, 310, .inl vt))] (va_A [(g0, .inr (1, [.ref b0, .ref b1, .ref b2, .int k, .int th])), (b0, .inl (cA, 10, .inl w)), (b1, .inl (cA, 10, .inl pr)), (b2, .inl (cA, 310, .inl vt))] sz)) 0 0 (va_A [(g0, .inr (1, [.ref b0, .ref b1, .ref b2, .int k, .int th])), (b0, .inl (cA, 10, .inl w)), (b1, .inl (cA, 10, .inl pr)), (b2, .inl (cA, 310, .inl vt))] sz) := by
  refine Met.ofW (cc := cX1_bare) (maxL := 5) (ret := some .int) (by decide) rfl ?_
  intro p e s m args below meth c s₁ B hml hv
  obtain ⟨rfl, hsz, hP, hK, hD0⟩ := hv
  have hx := B.exec
  have hb := B.bytes
  have hr := B.returns
  have hts := atoms_spec (ws := wsX1_bare) B.pre
  have hown : s.vm.findClass RX1 = some m.cls := findClass_of_methodNamed B.named
  have hlocks := B.notSynchronized
  subst hsz
  have hD := hD0.self (sz := s.heap.size)
  generalize hAe : va_A [(g0, .inr (1, [.ref b0, .ref b1, .ref b2, .int k, .int th])), (b0, .inl (cA, 10, .inl w)), (b1, .inl (cA, 10, .inl pr)), (b2, .inl (cA, 310, .inl vt))] s.heap.size = A at hD ⊢
  have hA : ∀ q : Nat, s.heap.size ≤ q → A q := fun q h => by rw [← hAe]; exact Or.inr h
  have hin : ∀ w9 ∈ u_ws RX1 TX1 5, w9 ∈ wsX1_bare := fun w9 h9 => List.mem_cons_of_mem _ (bb_inX1 w9 h9)
  have hf23 := hts _ (List.mem_cons_of_mem _ bb_fX1_23)
  have hl := lv_entry ([.ref g0]) (n := 5) (Nat.le_of_ble_eq_true rfl)
  rw [lg_entry_eq]
  generalize (lg_sl ([.ref g0]) ++ List.replicate (5 - (lg_sl ([.ref g0])).length) Slot.unset).toArray = ls at hl ⊢
  have hl : lv_has ls 5 [(0, .ref g0)] := hl
  refine bb_gen hP hD (fun H locs hP hD hS => ?_)
  refine lv_aload_n hx hb dX1_bare_0 rfl (lv_at hl 0 rfl) ?_
  refine lv_iconst (v := 0) hx hb dX1_bare_1 (by decide) ?_
  refine va_put (D := (dC, dI)) (ci := 1) (v := .int 0) (ty := .int) (C := RX1) (T := TX1) (N := 5) hx hb hts hin tyX1 tyX1_ok nX1 hown hK hP hD hS 0 rfl rfl 4 (by decide) hf23 (fun _ h9 => h9) rfl (by decide +kernel) rfl rfl (Nat.le_of_ble_eq_true rfl) dX1_bare_2 (fun H locs hP hD hS => ?_)
  have hP : va_P (dC, dI) vwCl [(g0, .inr (1, [.ref b0, .ref b1, .ref b2, .int k, .int 0])), (b0, .inl (cA, 10, .inl w)), (b1, .inl (cA, 10, .inl pr)), (b2, .inl (cA, 310, .inl vt))] H := hP
  have hD : va_D A [(g0, .inr (1, [.ref b0, .ref b1, .ref b2, .int k, .int 0])), (b0, .inl (cA, 10, .inl w)), (b1, .inl (cA, 10, .inl pr)), (b2, .inl (cA, 310, .inl vt))] := hD
  refine lv_iconst (v := 0) hx hb dX1_bare_5 (by decide) ?_
  refine lv_istore_n (lv' := [(1, .int 0), (0, .ref g0)]) hx hb dX1_bare_6 rfl hl (by decide) rfl (fun ls hl => ?_)
  refine lv_iconst (v := 0) hx hb dX1_bare_7 (by decide) ?_
  refine lv_istore_n (lv' := [(2, .int 0), (1, .int 0), (0, .ref g0)]) hx hb dX1_bare_8 rfl hl (by decide) rfl (fun ls hl => ?_)
  have hl : lv_has ls 5 [(0, .ref g0), (1, .int 0), (2, .int 0)] := lv_sub hl [2, 1, 0] rfl
  refine bb_forW (pc := 9) (I := fun j9 ls => lv_has ls 5 [(0, .ref g0), (1, .int (nI (bb_cn (fun x9 => bb_rbare w k (nI x9) 10) j9))), (2, .int (nI j9))]) 1024 ?_ ?_ 0 ls (Nat.zero_le _) hl
  · skip
    intro j ls hj hI ihj
    have hl := hI
    refine lv_iload_n hx hb dX1_bare_9 rfl (lv_at hl 2 rfl) ?_
    refine lv_sipush (v := nI 1024) hx hb dX1_bare_10 (by decide) ?_
    refine lv_icmp_ge (tgt := 85) hx hb dX1_bare_13 rfl (fun h13 => absurd h13 (nI_ge hj (by decide))) (fun h13 => ?_)
    have q13 := bb_lt h13
    refine lv_aload_n hx hb dX1_bare_16 rfl (lv_at hl 0 rfl) ?_
    refine lv_iload_n hx hb dX1_bare_17 rfl (lv_at hl 2 rfl) ?_
    refine bb_cV (As := [.int (nI j)]) (rest := []) (r := bb_I (bb_en w k (nI j))) 0 ⟨hx, hb, hml, hown, hts⟩ (m_isEnough l dC dI cA g0 b0 b1 b2 w pr vt k 0 (nI j)) (cwV 1 hts gX1_bare_X1_isEnough rfl rfl rfl (by decide +kernel) ⟨Nat.le_of_ble_eq_true rfl, Nat.le_of_ble_eq_true rfl⟩) hP hK rfl rfl rfl hl.1 rfl (Nat.le_of_ble_eq_true rfl) dX1_bare_18 (Nat.zero_le _) (Nat.zero_le _) ?_
    refine lv_istore_n (lv' := [(3, .int (bb_I (bb_en w k (nI j)))), (0, .ref g0), (1, .int (nI (bb_cn (fun x9 => bb_rbare w k (nI x9) 10) j))), (2, .int (nI j))]) hx hb dX1_bare_21 rfl hl (by decide) rfl (fun ls hl => ?_)
    refine lv_iconst (v := 0) hx hb dX1_bare_22 (by decide) ?_
    refine lv_istore (lv' := [(4, .int 0), (3, .int (bb_I (bb_en w k (nI j)))), (0, .ref g0), (1, .int (nI (bb_cn (fun x9 => bb_rbare w k (nI x9) 10) j))), (2, .int (nI j))]) hx hb dX1_bare_23 hl (by decide) rfl (fun ls hl => ?_)
    have hl : lv_has ls 5 [(0, .ref g0), (1, .int (nI (bb_cn (fun x9 => bb_rbare w k (nI x9) 10) j))), (2, .int (nI j)), (3, .int (bb_I (bb_en w k (nI j)))), (4, .int 0)] := lv_sub hl [2, 3, 4, 1, 0] rfl
    refine bb_forW (pc := 25) (I := fun j9 ls => lv_has ls 5 [(0, .ref g0), (1, .int (nI (bb_cn (fun x9 => bb_rbare w k (nI x9) 10) j))), (2, .int (nI j)), (3, .int (bb_I (bb_rbare w k (nI j) j9))), (4, .int (nI j9))]) 10 ?_ ?_ 0 ls (Nat.zero_le _) (by rw [bb_rbare_0]; exact hl)
    · skip
      intro i ls hi hI ihi
      have hl := hI
      refine lv_iload hx hb dX1_bare_25 (lv_at hl 4 rfl) ?_
      refine lv_bipush (v := nI 10) hx hb dX1_bare_27 (by decide) ?_
      refine lv_icmp_ge (tgt := 72) hx hb dX1_bare_29 rfl (fun h29 => absurd h29 (nI_ge hi (by decide))) (fun h29 => ?_)
      have q29 := bb_lt h29
      refine lv_iload_n hx hb dX1_bare_32 rfl (lv_at hl 3 rfl) ?_
      refine lv_if_eq (tgt := 72) hx hb dX1_bare_33 rfl (fun h33 => ?_) (fun h33 => ?_)
      · skip
        have q33 := bb_I_0.mp h33
        have hz33 := bb_rbare_mono (n := 10) q33 (Nat.le_of_lt hi)
        refine lv_iload_n hx hb dX1_bare_72 rfl (lv_at hl 3 rfl) ?_
        refine lv_if_eq (tgt := 79) hx hb dX1_bare_73 rfl (fun h73 => ?_) (fun h73 => absurd h33 h73)
        have q73 := bb_I_0.mp h73
        refine lv_iinc (v := nI (j + 1)) (lv' := [(2, .int (nI (j + 1))), (0, .ref g0), (1, .int (nI (bb_cn (fun x9 => bb_rbare w k (nI x9) 10) j))), (3, .int (bb_I (bb_rbare w k (nI j) i))), (4, .int (nI i))]) hx hb dX1_bare_79 hl (k := 2) rfl (bb_inc _) (by decide) rfl (fun ls hl => ?_)
        refine lv_goto (tgt := 9) hx hb dX1_bare_82 rfl ?_
        have hl : lv_has ls 5 [(0, .ref g0), (1, .int (nI (bb_cn (fun x9 => bb_rbare w k (nI x9) 10) j))), (2, .int (nI (j + 1)))] := lv_sub hl [1, 2, 0] rfl
        have e1 : (nI (bb_cn (fun x9 => bb_rbare w k (nI x9) 10) j)) = nI (bb_cn (fun x9 => bb_rbare w k (nI x9) 10) (j + 1)) := by simp [bb_cn, h13, q13, h29, q29, h33, q33, hz33, h73, q73]
        have hl : lv_has ls 5 [(0, .ref g0), (1, .int (nI (bb_cn (fun x9 => bb_rbare w k (nI x9) 10) (j + 1)))), (2, .int (nI (j + 1)))] := by rw [← e1]; exact hl
        exact ihj ls hl
      · skip
        have q33 := bb_nz h33
        refine lv_iload_n hx hb dX1_bare_36 rfl (lv_at hl 2 rfl) ?_
        refine lv_iload hx hb dX1_bare_37 (lv_at hl 4 rfl) ?_
        refine lv_ishr hx hb dX1_bare_39 ?_
        refine lv_iconst (v := 1) hx hb dX1_bare_40 (by decide) ?_
        refine lv_iand hx hb dX1_bare_41 ?_
        refine lv_if_eq (tgt := 60) hx hb dX1_bare_42 rfl (fun h42 => ?_) (fun h42 => ?_)
        · skip
          refine lv_iconst (v := 1) hx hb dX1_bare_60 (by decide) ?_
          refine lv_goto (tgt := 65) hx hb dX1_bare_61 rfl ?_
          refine lv_istore_n (lv' := [(3, .int 1), (0, .ref g0), (1, .int (nI (bb_cn (fun x9 => bb_rbare w k (nI x9) 10) j))), (2, .int (nI j)), (4, .int (nI i))]) hx hb dX1_bare_65 rfl hl (by decide) rfl (fun ls hl => ?_)
          refine lv_iinc (v := nI (i + 1)) (lv' := [(4, .int (nI (i + 1))), (3, .int 1), (0, .ref g0), (1, .int (nI (bb_cn (fun x9 => bb_rbare w k (nI x9) 10) j))), (2, .int (nI j))]) hx hb dX1_bare_66 hl (k := 4) rfl (bb_inc _) (by decide) rfl (fun ls hl => ?_)
          refine lv_goto (tgt := 25) hx hb dX1_bare_69 rfl ?_
          have hl : lv_has ls 5 [(0, .ref g0), (1, .int (nI (bb_cn (fun x9 => bb_rbare w k (nI x9) 10) j))), (2, .int (nI j)), (3, .int 1), (4, .int (nI (i + 1)))] := lv_sub hl [2, 3, 4, 1, 0] rfl
          have e2 : 1 = bb_I (bb_rbare w k (nI j) (i + 1)) := by simp [bb_rbare_succ, bb_I, h13, q13, h29, q29, h33, q33, h42]
          have hl : lv_has ls 5 [(0, .ref g0), (1, .int (nI (bb_cn (fun x9 => bb_rbare w k (nI x9) 10) j))), (2, .int (nI j)), (3, .int (bb_I (bb_rbare w k (nI j) (i + 1)))), (4, .int (nI (i + 1)))] := by rw [← e2]; exact hl
          exact ihi ls hl
        · skip
          refine lv_aload_n hx hb dX1_bare_45 rfl (lv_at hl 0 rfl) ?_
          refine lv_iload_n hx hb dX1_bare_46 rfl (lv_at hl 2 rfl) ?_
          refine lv_iconst (v := 1) hx hb dX1_bare_47 (by decide) ?_
          refine lv_iload hx hb dX1_bare_48 (lv_at hl 4 rfl) ?_
          refine lv_ishl hx hb dX1_bare_50 ?_
          refine lv_iconst (v := (-1)) hx hb dX1_bare_51 (by decide) ?_
          refine lv_ixor hx hb dX1_bare_52 ?_
          refine bb_topi (y := bb_not (1 <<< ((nI i) &&& 31))) rfl ?_
          refine lv_iand hx hb dX1_bare_53 ?_
          refine bb_cV (As := [.int ((nI j) &&& (bb_not (1 <<< ((nI i) &&& 31))))]) (rest := []) (r := bb_I (bb_en w k ((nI j) &&& (bb_not (1 <<< ((nI i) &&& 31)))))) 0 ⟨hx, hb, hml, hown, hts⟩ (m_isEnough l dC dI cA g0 b0 b1 b2 w pr vt k 0 ((nI j) &&& (bb_not (1 <<< ((nI i) &&& 31))))) (cwV 1 hts gX1_bare_X1_isEnough rfl rfl rfl (by decide +kernel) ⟨Nat.le_of_ble_eq_true rfl, Nat.le_of_ble_eq_true rfl⟩) hP hK rfl rfl rfl hl.1 rfl (Nat.le_of_ble_eq_true rfl) dX1_bare_54 (Nat.zero_le _) (Nat.zero_le _) ?_
          refine lv_if_ne (tgt := 64) hx hb dX1_bare_57 rfl (fun h57 => ?_) (fun h57 => ?_)
          · skip
            have q57 := bb_nz h57
            refine lv_iconst (v := 0) hx hb dX1_bare_64 (by decide) ?_
            refine lv_istore_n (lv' := [(3, .int 0), (0, .ref g0), (1, .int (nI (bb_cn (fun x9 => bb_rbare w k (nI x9) 10) j))), (2, .int (nI j)), (4, .int (nI i))]) hx hb dX1_bare_65 rfl hl (by decide) rfl (fun ls hl => ?_)
            refine lv_iinc (v := nI (i + 1)) (lv' := [(4, .int (nI (i + 1))), (3, .int 0), (0, .ref g0), (1, .int (nI (bb_cn (fun x9 => bb_rbare w k (nI x9) 10) j))), (2, .int (nI j))]) hx hb dX1_bare_66 hl (k := 4) rfl (bb_inc _) (by decide) rfl (fun ls hl => ?_)
            refine lv_goto (tgt := 25) hx hb dX1_bare_69 rfl ?_
            have hl : lv_has ls 5 [(0, .ref g0), (1, .int (nI (bb_cn (fun x9 => bb_rbare w k (nI x9) 10) j))), (2, .int (nI j)), (3, .int 0), (4, .int (nI (i + 1)))] := lv_sub hl [2, 3, 4, 1, 0] rfl
            have e3 : 0 = bb_I (bb_rbare w k (nI j) (i + 1)) := by simp [bb_rbare_succ, bb_I, h13, q13, h29, q29, h33, q33, h42, h57, q57]
            have hl : lv_has ls 5 [(0, .ref g0), (1, .int (nI (bb_cn (fun x9 => bb_rbare w k (nI x9) 10) j))), (2, .int (nI j)), (3, .int (bb_I (bb_rbare w k (nI j) (i + 1)))), (4, .int (nI (i + 1)))] := by rw [← e3]; exact hl
            exact ihi ls hl
          · skip
            have q57 := bb_I_0.mp h57
            refine lv_iconst (v := 1) hx hb dX1_bare_60 (by decide) ?_
            refine lv_goto (tgt := 65) hx hb dX1_bare_61 rfl ?_
            refine lv_istore_n (lv' := [(3, .int 1), (0, .ref g0), (1, .int (nI (bb_cn (fun x9 => bb_rbare w k (nI x9) 10) j))), (2, .int (nI j)), (4, .int (nI i))]) hx hb dX1_bare_65 rfl hl (by decide) rfl (fun ls hl => ?_)
            refine lv_iinc (v := nI (i + 1)) (lv' := [(4, .int (nI (i + 1))), (3, .int 1), (0, .ref g0), (1, .int (nI (bb_cn (fun x9 => bb_rbare w k (nI x9) 10) j))), (2, .int (nI j))]) hx hb dX1_bare_66 hl (k := 4) rfl (bb_inc _) (by decide) rfl (fun ls hl => ?_)
            refine lv_goto (tgt := 25) hx hb dX1_bare_69 rfl ?_
            have hl : lv_has ls 5 [(0, .ref g0), (1, .int (nI (bb_cn (fun x9 => bb_rbare w k (nI x9) 10) j))), (2, .int (nI j)), (3, .int 1), (4, .int (nI (i + 1)))] := lv_sub hl [2, 3, 4, 1, 0] rfl
            have e4 : 1 = bb_I (bb_rbare w k (nI j) (i + 1)) := by simp [bb_rbare_succ, bb_I, h13, q13, h29, q29, h33, q33, h42, h57, q57]
            have hl : lv_has ls 5 [(0, .ref g0), (1, .int (nI (bb_cn (fun x9 => bb_rbare w k (nI x9) 10) j))), (2, .int (nI j)), (3, .int (bb_I (bb_rbare w k (nI j) (i + 1)))), (4, .int (nI (i + 1)))] := by rw [← e4]; exact hl
            exact ihi ls hl
    · skip
      intro ls hI
      have hl := hI
      refine lv_iload hx hb dX1_bare_25 (lv_at hl 4 rfl) ?_
      refine lv_bipush (v := nI 10) hx hb dX1_bare_27 (by decide) ?_
      refine lv_icmp_ge (tgt := 72) hx hb dX1_bare_29 rfl (fun h29 => ?_) (fun h29 => absurd (nI_le (Nat.le_refl _) (by decide)) h29)
      have q29 := bb_nlt h29
      refine lv_iload_n hx hb dX1_bare_72 rfl (lv_at hl 3 rfl) ?_
      refine lv_if_eq (tgt := 79) hx hb dX1_bare_73 rfl (fun h73 => ?_) (fun h73 => ?_)
      · skip
        have q73 := bb_I_0.mp h73
        refine lv_iinc (v := nI (j + 1)) (lv' := [(2, .int (nI (j + 1))), (0, .ref g0), (1, .int (nI (bb_cn (fun x9 => bb_rbare w k (nI x9) 10) j))), (3, .int (bb_I (bb_rbare w k (nI j) 10))), (4, .int (nI 10))]) hx hb dX1_bare_79 hl (k := 2) rfl (bb_inc _) (by decide) rfl (fun ls hl => ?_)
        refine lv_goto (tgt := 9) hx hb dX1_bare_82 rfl ?_
        have hl : lv_has ls 5 [(0, .ref g0), (1, .int (nI (bb_cn (fun x9 => bb_rbare w k (nI x9) 10) j))), (2, .int (nI (j + 1)))] := lv_sub hl [1, 2, 0] rfl
        have e5 : (nI (bb_cn (fun x9 => bb_rbare w k (nI x9) 10) j)) = nI (bb_cn (fun x9 => bb_rbare w k (nI x9) 10) (j + 1)) := by simp [bb_cn, h13, q13, h29, q29, h73, q73]
        have hl : lv_has ls 5 [(0, .ref g0), (1, .int (nI (bb_cn (fun x9 => bb_rbare w k (nI x9) 10) (j + 1)))), (2, .int (nI (j + 1)))] := by rw [← e5]; exact hl
        exact ihj ls hl
      · skip
        have q73 := bb_nz h73
        refine lv_iinc (v := nI ((bb_cn (fun x9 => bb_rbare w k (nI x9) 10) j) + 1)) (lv' := [(1, .int (nI ((bb_cn (fun x9 => bb_rbare w k (nI x9) 10) j) + 1))), (0, .ref g0), (2, .int (nI j)), (3, .int (bb_I (bb_rbare w k (nI j) 10))), (4, .int (nI 10))]) hx hb dX1_bare_76 hl (k := 1) rfl (bb_inc _) (by decide) rfl (fun ls hl => ?_)
        refine lv_iinc (v := nI (j + 1)) (lv' := [(2, .int (nI (j + 1))), (1, .int (nI ((bb_cn (fun x9 => bb_rbare w k (nI x9) 10) j) + 1))), (0, .ref g0), (3, .int (bb_I (bb_rbare w k (nI j) 10))), (4, .int (nI 10))]) hx hb dX1_bare_79 hl (k := 2) rfl (bb_inc _) (by decide) rfl (fun ls hl => ?_)
        refine lv_goto (tgt := 9) hx hb dX1_bare_82 rfl ?_
        have hl : lv_has ls 5 [(0, .ref g0), (1, .int (nI ((bb_cn (fun x9 => bb_rbare w k (nI x9) 10) j) + 1))), (2, .int (nI (j + 1)))] := lv_sub hl [2, 1, 0] rfl
        have e6 : (nI ((bb_cn (fun x9 => bb_rbare w k (nI x9) 10) j) + 1)) = nI (bb_cn (fun x9 => bb_rbare w k (nI x9) 10) (j + 1)) := by simp [bb_cn, h13, q13, h29, q29, h73, q73]
        have hl : lv_has ls 5 [(0, .ref g0), (1, .int (nI (bb_cn (fun x9 => bb_rbare w k (nI x9) 10) (j + 1)))), (2, .int (nI (j + 1)))] := by rw [← e6]; exact hl
        exact ihj ls hl
  · skip
    intro ls hI
    have hl := hI
    refine lv_iload_n hx hb dX1_bare_9 rfl (lv_at hl 2 rfl) ?_
    refine lv_sipush (v := nI 1024) hx hb dX1_bare_10 (by decide) ?_
    refine lv_icmp_ge (tgt := 85) hx hb dX1_bare_13 rfl (fun h13 => ?_) (fun h13 => absurd (nI_le (Nat.le_refl _) (by decide)) h13)
    have q13 := bb_nlt h13
    refine lv_iload_n hx hb dX1_bare_85 rfl (lv_at hl 1 rfl) ?_
    exact W.iret (v := nI (bb_cn (fun x9 => bb_rbare w k (nI x9) 10) 1024)) hx hb hr (fun t ht _ => ⟨⟨nI (bb_cn (fun x9 => bb_rbare w k (nI x9) 10) 1024), (), rfl, rfl, by show va_P _ _ _ t.heap; rw [ht]; exact hP⟩, hS.F ht⟩) hS.2.2 dX1_bare_86

set_option maxHeartbeats 4000000 in
set_option maxRecDepth 100000 in
theorem r_about_0 (l : Launch) (dC : Nat → ClassId) (dI : Nat → Nat → Nat) (cA : ClassId) (g0 b0 b1 b2 : Nat) (w pr vt : Nat → Int32) (k th : Int32) (sz : Nat) (n : Nat) (hn0 : n < 10) : Met l yX1_about wsX1_about ({ frames := 1, cells := 0, slots := 0, locals := 22 }) (bb_Pm [.ref g0, .int (nI n), .int 0] (dC, dI) vwCl [(g0, .inr (1, [.ref b0, .ref b1, .ref b2, .int k, .int th])), (b0, .inl (cA, 10, .inl w)), (b1, .inl (cA, 10, .inl pr)), (b2, .inl (cA, 310, .inl vt))] [(cA, .int)] sz) (bb_Qm (w n) (dC, dI) vwCl [(g0, .inr (1, [.ref b0, .ref b1, .ref b2, .int k, .int 0])), (b0, .inl (cA, 10, .inl w)), (b1, .inl (cA, 10, .inl pr)), (b2, .inl (cA, 310, .inl vt))] (va_A [(g0, .inr (1, [.ref b0, .ref b1, .ref b2, .int k, .int th])), (b0, .inl (cA, 10, .inl w)), (b1, .inl (cA, 10, .inl pr)), (b2, .inl (cA, 310, .inl vt))] sz)) 0 0 (va_A [(g0, .inr (1, [.ref b0, .ref b1, .ref b2, .int k, .int th])), (b0, .inl (cA, 10, .inl w)), (b1, .inl (cA, 10, .inl pr)), (b2, .inl (cA, 310, .inl vt))] sz) := by
  refine Met.ofW (cc := cX1_about) (maxL := 6) (ret := some .int) (by decide) rfl ?_
  intro p e s m args below meth c s₁ B hml hv
  obtain ⟨rfl, hsz, hP, hK, hD0⟩ := hv
  have hx := B.exec
  have hb := B.bytes
  have hr := B.returns
  have hts := atoms_spec (ws := wsX1_about) B.pre
  have hown : s.vm.findClass RX1 = some m.cls := findClass_of_methodNamed B.named
  have hlocks := B.notSynchronized
  subst hsz
  have hD := hD0.self (sz := s.heap.size)
  generalize hAe : va_A [(g0, .inr (1, [.ref b0, .ref b1, .ref b2, .int k, .int th])), (b0, .inl (cA, 10, .inl w)), (b1, .inl (cA, 10, .inl pr)), (b2, .inl (cA, 310, .inl vt))] s.heap.size = A at hD ⊢
  have hA : ∀ q : Nat, s.heap.size ≤ q → A q := fun q h => by rw [← hAe]; exact Or.inr h
  have hin : ∀ w9 ∈ u_ws RX1 TX1 5, w9 ∈ wsX1_about := fun w9 h9 => List.mem_cons_of_mem _ (bb_inX1 w9 h9)
  have hf9 := hts _ (List.mem_cons_of_mem _ bb_fX1_9)
  have hf13 := hts _ (List.mem_cons_of_mem _ bb_fX1_13)
  have hf23 := hts _ (List.mem_cons_of_mem _ bb_fX1_23)
  have hl := lv_entry ([.ref g0, .int (nI n), .int 0]) (n := 6) (Nat.le_of_ble_eq_true rfl)
  rw [lg_entry_eq]
  generalize (lg_sl ([.ref g0, .int (nI n), .int 0]) ++ List.replicate (6 - (lg_sl ([.ref g0, .int (nI n), .int 0])).length) Slot.unset).toArray = ls at hl ⊢
  have hl : lv_has ls 6 [(0, .ref g0), (1, .int (nI n)), (2, .int 0)] := hl
  refine bb_gen hP hD (fun H locs hP hD hS => ?_)
  refine lv_aload_n hx hb dX1_about_0 rfl (lv_at hl 0 rfl) ?_
  refine lv_iload_n hx hb dX1_about_1 rfl (lv_at hl 1 rfl) ?_
  refine lv_bipush (v := nI 10) hx hb dX1_about_2 (by decide) ?_
  refine bb_cS (As := [.int (nI n), .int (nI 10)]) (rest := [.ref g0]) (r := bb_I (bb_out (nI n) (nI 10))) ⟨hx, hb, hml, hown, hts⟩ (m_out l (nI n) (nI 10)) (cwS 2 hts gX1_about_X1_out rfl rfl rfl (by decide +kernel) ⟨Nat.le_of_ble_eq_true rfl, Nat.le_of_ble_eq_true rfl⟩) rfl hl.1 rfl (Nat.le_of_ble_eq_true rfl) dX1_about_4 (Nat.zero_le _) (Nat.zero_le _) ?_
  refine bb_topi (y := 0) (by rw [bb_out_no hn0 (by decide)]; rfl) ?_
  refine lv_if_eq (tgt := 14) hx hb dX1_about_7 rfl (fun h7 => ?_) (fun h7 => absurd rfl h7)
  refine lv_iload_n hx hb dX1_about_14 rfl (lv_at hl 2 rfl) ?_
  refine lv_if_lt (tgt := 23) hx hb dX1_about_15 rfl (fun h15 => absurd h15 (by decide)) (fun h15 => ?_)
  refine lv_iload_n hx hb dX1_about_18 rfl (lv_at hl 2 rfl) ?_
  refine lv_iconst (v := 3) hx hb dX1_about_19 (by decide) ?_
  refine lv_icmp_le (tgt := 27) hx hb dX1_about_20 rfl (fun h20 => ?_) (fun h20 => absurd (by decide) h20)
  have q20 := bb_nlt h20
  refine lv_iconst (v := 0) hx hb dX1_about_27 (by decide) ?_
  refine va_put (D := (dC, dI)) (ci := 1) (v := .int 0) (ty := .int) (C := RX1) (T := TX1) (N := 5) hx hb hts hin tyX1 tyX1_ok nX1 hown hK hP hD hS 0 rfl rfl 4 (by decide) hf23 (fun _ h9 => h9) rfl (by decide +kernel) rfl rfl (Nat.le_of_ble_eq_true rfl) dX1_about_28 (fun H locs hP hD hS => ?_)
  have hP : va_P (dC, dI) vwCl [(g0, .inr (1, [.ref b0, .ref b1, .ref b2, .int k, .int 0])), (b0, .inl (cA, 10, .inl w)), (b1, .inl (cA, 10, .inl pr)), (b2, .inl (cA, 310, .inl vt))] H := hP
  have hD : va_D A [(g0, .inr (1, [.ref b0, .ref b1, .ref b2, .int k, .int 0])), (b0, .inl (cA, 10, .inl w)), (b1, .inl (cA, 10, .inl pr)), (b2, .inl (cA, 310, .inl vt))] := hD
  refine lv_aload_n hx hb dX1_about_31 rfl (lv_at hl 0 rfl) ?_
  refine va_get (D := (dC, dI)) (ci := 1) (v := .int 0) (C := RX1) (T := TX1) (N := 5) hx hb hts hin hown hK hP 0 rfl rfl 4 (by decide) hf23 (fun _ h9 => h9) rfl dX1_about_32 ?_
  refine lv_if_le (tgt := 40) hx hb dX1_about_35 rfl (fun h35 => ?_) (fun h35 => absurd (by decide) h35)
  refine lv_iload_n hx hb dX1_about_40 rfl (lv_at hl 2 rfl) ?_
  refine lv_if_ne (tgt := 51) hx hb dX1_about_41 rfl (fun h41 => absurd rfl h41) (fun h41 => ?_)
  refine lv_aload_n hx hb dX1_about_44 rfl (lv_at hl 0 rfl) ?_
  refine va_get (D := (dC, dI)) (ci := 1) (v := .ref b0) (C := RX1) (T := TX1) (N := 5) hx hb hts hin hown hK hP 0 rfl rfl 0 (by decide) hf9 (fun _ h9 => h9) rfl dX1_about_45 ?_
  refine lv_iload_n hx hb dX1_about_48 rfl (lv_at hl 1 rfl) ?_
  refine bb_ald hx hb hK hP 1 0 rfl rfl n (by omega) (by decide) dX1_about_49 ?_
  exact W.iret (v := w n) hx hb hr (fun t ht _ => ⟨⟨w n, (), rfl, rfl, by show va_P _ _ _ t.heap; rw [ht]; exact hP⟩, hS.F ht⟩) hS.2.2 dX1_about_50

set_option maxHeartbeats 4000000 in
set_option maxRecDepth 100000 in
theorem r_about_1 (l : Launch) (dC : Nat → ClassId) (dI : Nat → Nat → Nat) (cA : ClassId) (g0 b0 b1 b2 : Nat) (w pr vt : Nat → Int32) (k th : Int32) (sz : Nat) (n : Nat) (hn0 : n < 10) : Met l yX1_about wsX1_about ({ frames := 1, cells := 0, slots := 0, locals := 22 }) (bb_Pm [.ref g0, .int (nI n), .int 1] (dC, dI) vwCl [(g0, .inr (1, [.ref b0, .ref b1, .ref b2, .int k, .int th])), (b0, .inl (cA, 10, .inl w)), (b1, .inl (cA, 10, .inl pr)), (b2, .inl (cA, 310, .inl vt))] [(cA, .int)] sz) (bb_Qm (pr n) (dC, dI) vwCl [(g0, .inr (1, [.ref b0, .ref b1, .ref b2, .int k, .int 0])), (b0, .inl (cA, 10, .inl w)), (b1, .inl (cA, 10, .inl pr)), (b2, .inl (cA, 310, .inl vt))] (va_A [(g0, .inr (1, [.ref b0, .ref b1, .ref b2, .int k, .int th])), (b0, .inl (cA, 10, .inl w)), (b1, .inl (cA, 10, .inl pr)), (b2, .inl (cA, 310, .inl vt))] sz)) 0 0 (va_A [(g0, .inr (1, [.ref b0, .ref b1, .ref b2, .int k, .int th])), (b0, .inl (cA, 10, .inl w)), (b1, .inl (cA, 10, .inl pr)), (b2, .inl (cA, 310, .inl vt))] sz) := by
  refine Met.ofW (cc := cX1_about) (maxL := 6) (ret := some .int) (by decide) rfl ?_
  intro p e s m args below meth c s₁ B hml hv
  obtain ⟨rfl, hsz, hP, hK, hD0⟩ := hv
  have hx := B.exec
  have hb := B.bytes
  have hr := B.returns
  have hts := atoms_spec (ws := wsX1_about) B.pre
  have hown : s.vm.findClass RX1 = some m.cls := findClass_of_methodNamed B.named
  have hlocks := B.notSynchronized
  subst hsz
  have hD := hD0.self (sz := s.heap.size)
  generalize hAe : va_A [(g0, .inr (1, [.ref b0, .ref b1, .ref b2, .int k, .int th])), (b0, .inl (cA, 10, .inl w)), (b1, .inl (cA, 10, .inl pr)), (b2, .inl (cA, 310, .inl vt))] s.heap.size = A at hD ⊢
  have hA : ∀ q : Nat, s.heap.size ≤ q → A q := fun q h => by rw [← hAe]; exact Or.inr h
  have hin : ∀ w9 ∈ u_ws RX1 TX1 5, w9 ∈ wsX1_about := fun w9 h9 => List.mem_cons_of_mem _ (bb_inX1 w9 h9)
  have hf9 := hts _ (List.mem_cons_of_mem _ bb_fX1_9)
  have hf13 := hts _ (List.mem_cons_of_mem _ bb_fX1_13)
  have hf23 := hts _ (List.mem_cons_of_mem _ bb_fX1_23)
  have hl := lv_entry ([.ref g0, .int (nI n), .int 1]) (n := 6) (Nat.le_of_ble_eq_true rfl)
  rw [lg_entry_eq]
  generalize (lg_sl ([.ref g0, .int (nI n), .int 1]) ++ List.replicate (6 - (lg_sl ([.ref g0, .int (nI n), .int 1])).length) Slot.unset).toArray = ls at hl ⊢
  have hl : lv_has ls 6 [(0, .ref g0), (1, .int (nI n)), (2, .int 1)] := hl
  refine bb_gen hP hD (fun H locs hP hD hS => ?_)
  refine lv_aload_n hx hb dX1_about_0 rfl (lv_at hl 0 rfl) ?_
  refine lv_iload_n hx hb dX1_about_1 rfl (lv_at hl 1 rfl) ?_
  refine lv_bipush (v := nI 10) hx hb dX1_about_2 (by decide) ?_
  refine bb_cS (As := [.int (nI n), .int (nI 10)]) (rest := [.ref g0]) (r := bb_I (bb_out (nI n) (nI 10))) ⟨hx, hb, hml, hown, hts⟩ (m_out l (nI n) (nI 10)) (cwS 2 hts gX1_about_X1_out rfl rfl rfl (by decide +kernel) ⟨Nat.le_of_ble_eq_true rfl, Nat.le_of_ble_eq_true rfl⟩) rfl hl.1 rfl (Nat.le_of_ble_eq_true rfl) dX1_about_4 (Nat.zero_le _) (Nat.zero_le _) ?_
  refine bb_topi (y := 0) (by rw [bb_out_no hn0 (by decide)]; rfl) ?_
  refine lv_if_eq (tgt := 14) hx hb dX1_about_7 rfl (fun h7 => ?_) (fun h7 => absurd rfl h7)
  refine lv_iload_n hx hb dX1_about_14 rfl (lv_at hl 2 rfl) ?_
  refine lv_if_lt (tgt := 23) hx hb dX1_about_15 rfl (fun h15 => absurd h15 (by decide)) (fun h15 => ?_)
  refine lv_iload_n hx hb dX1_about_18 rfl (lv_at hl 2 rfl) ?_
  refine lv_iconst (v := 3) hx hb dX1_about_19 (by decide) ?_
  refine lv_icmp_le (tgt := 27) hx hb dX1_about_20 rfl (fun h20 => ?_) (fun h20 => absurd (by decide) h20)
  have q20 := bb_nlt h20
  refine lv_iconst (v := 0) hx hb dX1_about_27 (by decide) ?_
  refine va_put (D := (dC, dI)) (ci := 1) (v := .int 0) (ty := .int) (C := RX1) (T := TX1) (N := 5) hx hb hts hin tyX1 tyX1_ok nX1 hown hK hP hD hS 0 rfl rfl 4 (by decide) hf23 (fun _ h9 => h9) rfl (by decide +kernel) rfl rfl (Nat.le_of_ble_eq_true rfl) dX1_about_28 (fun H locs hP hD hS => ?_)
  have hP : va_P (dC, dI) vwCl [(g0, .inr (1, [.ref b0, .ref b1, .ref b2, .int k, .int 0])), (b0, .inl (cA, 10, .inl w)), (b1, .inl (cA, 10, .inl pr)), (b2, .inl (cA, 310, .inl vt))] H := hP
  have hD : va_D A [(g0, .inr (1, [.ref b0, .ref b1, .ref b2, .int k, .int 0])), (b0, .inl (cA, 10, .inl w)), (b1, .inl (cA, 10, .inl pr)), (b2, .inl (cA, 310, .inl vt))] := hD
  refine lv_aload_n hx hb dX1_about_31 rfl (lv_at hl 0 rfl) ?_
  refine va_get (D := (dC, dI)) (ci := 1) (v := .int 0) (C := RX1) (T := TX1) (N := 5) hx hb hts hin hown hK hP 0 rfl rfl 4 (by decide) hf23 (fun _ h9 => h9) rfl dX1_about_32 ?_
  refine lv_if_le (tgt := 40) hx hb dX1_about_35 rfl (fun h35 => ?_) (fun h35 => absurd (by decide) h35)
  refine lv_iload_n hx hb dX1_about_40 rfl (lv_at hl 2 rfl) ?_
  refine lv_if_ne (tgt := 51) hx hb dX1_about_41 rfl (fun h41 => ?_) (fun h41 => absurd h41 (by decide))
  refine lv_iload_n hx hb dX1_about_51 rfl (lv_at hl 2 rfl) ?_
  refine lv_iconst (v := 1) hx hb dX1_about_52 (by decide) ?_
  refine lv_icmp_ne (tgt := 63) hx hb dX1_about_53 rfl (fun h53 => absurd rfl h53) (fun h53 => ?_)
  refine lv_aload_n hx hb dX1_about_56 rfl (lv_at hl 0 rfl) ?_
  refine va_get (D := (dC, dI)) (ci := 1) (v := .ref b1) (C := RX1) (T := TX1) (N := 5) hx hb hts hin hown hK hP 0 rfl rfl 1 (by decide) hf13 (fun _ h9 => h9) rfl dX1_about_57 ?_
  refine lv_iload_n hx hb dX1_about_60 rfl (lv_at hl 1 rfl) ?_
  refine bb_ald hx hb hK hP 2 0 rfl rfl n (by omega) (by decide) dX1_about_61 ?_
  exact W.iret (v := pr n) hx hb hr (fun t ht _ => ⟨⟨pr n, (), rfl, rfl, by show va_P _ _ _ t.heap; rw [ht]; exact hP⟩, hS.F ht⟩) hS.2.2 dX1_about_62

set_option maxHeartbeats 4000000 in
set_option maxRecDepth 100000 in
theorem r_about_2 (l : Launch) (dC : Nat → ClassId) (dI : Nat → Nat → Nat) (cA : ClassId) (g0 b0 b1 b2 : Nat) (w pr vt : Nat → Int32) (k th : Int32) (sz : Nat) (n : Nat) (hn0 : n < 10) : Met l yX1_about wsX1_about ({ frames := 1, cells := 0, slots := 0, locals := 22 }) (bb_Pm [.ref g0, .int (nI n), .int 2] (dC, dI) vwCl [(g0, .inr (1, [.ref b0, .ref b1, .ref b2, .int k, .int th])), (b0, .inl (cA, 10, .inl w)), (b1, .inl (cA, 10, .inl pr)), (b2, .inl (cA, 310, .inl vt))] [(cA, .int)] sz) (bb_Qm (nI (bb_cn (fun b9 => decide (vt (31 * n + b9) ≠ -1)) 31)) (dC, dI) vwCl [(g0, .inr (1, [.ref b0, .ref b1, .ref b2, .int k, .int 0])), (b0, .inl (cA, 10, .inl w)), (b1, .inl (cA, 10, .inl pr)), (b2, .inl (cA, 310, .inl vt))] (va_A [(g0, .inr (1, [.ref b0, .ref b1, .ref b2, .int k, .int th])), (b0, .inl (cA, 10, .inl w)), (b1, .inl (cA, 10, .inl pr)), (b2, .inl (cA, 310, .inl vt))] sz)) 0 0 (va_A [(g0, .inr (1, [.ref b0, .ref b1, .ref b2, .int k, .int th])), (b0, .inl (cA, 10, .inl w)), (b1, .inl (cA, 10, .inl pr)), (b2, .inl (cA, 310, .inl vt))] sz) := by
  refine Met.ofW (cc := cX1_about) (maxL := 6) (ret := some .int) (by decide) rfl ?_
  intro p e s m args below meth c s₁ B hml hv
  obtain ⟨rfl, hsz, hP, hK, hD0⟩ := hv
  have hx := B.exec
  have hb := B.bytes
  have hr := B.returns
  have hts := atoms_spec (ws := wsX1_about) B.pre
  have hown : s.vm.findClass RX1 = some m.cls := findClass_of_methodNamed B.named
  have hlocks := B.notSynchronized
  subst hsz
  have hD := hD0.self (sz := s.heap.size)
  generalize hAe : va_A [(g0, .inr (1, [.ref b0, .ref b1, .ref b2, .int k, .int th])), (b0, .inl (cA, 10, .inl w)), (b1, .inl (cA, 10, .inl pr)), (b2, .inl (cA, 310, .inl vt))] s.heap.size = A at hD ⊢
  have hA : ∀ q : Nat, s.heap.size ≤ q → A q := fun q h => by rw [← hAe]; exact Or.inr h
  have hin : ∀ w9 ∈ u_ws RX1 TX1 5, w9 ∈ wsX1_about := fun w9 h9 => List.mem_cons_of_mem _ (bb_inX1 w9 h9)
  have hf9 := hts _ (List.mem_cons_of_mem _ bb_fX1_9)
  have hf13 := hts _ (List.mem_cons_of_mem _ bb_fX1_13)
  have hf23 := hts _ (List.mem_cons_of_mem _ bb_fX1_23)
  have hl := lv_entry ([.ref g0, .int (nI n), .int 2]) (n := 6) (Nat.le_of_ble_eq_true rfl)
  rw [lg_entry_eq]
  generalize (lg_sl ([.ref g0, .int (nI n), .int 2]) ++ List.replicate (6 - (lg_sl ([.ref g0, .int (nI n), .int 2])).length) Slot.unset).toArray = ls at hl ⊢
  have hl : lv_has ls 6 [(0, .ref g0), (1, .int (nI n)), (2, .int 2)] := hl
  refine bb_gen hP hD (fun H locs hP hD hS => ?_)
  refine lv_aload_n hx hb dX1_about_0 rfl (lv_at hl 0 rfl) ?_
  refine lv_iload_n hx hb dX1_about_1 rfl (lv_at hl 1 rfl) ?_
  refine lv_bipush (v := nI 10) hx hb dX1_about_2 (by decide) ?_
  refine bb_cS (As := [.int (nI n), .int (nI 10)]) (rest := [.ref g0]) (r := bb_I (bb_out (nI n) (nI 10))) ⟨hx, hb, hml, hown, hts⟩ (m_out l (nI n) (nI 10)) (cwS 2 hts gX1_about_X1_out rfl rfl rfl (by decide +kernel) ⟨Nat.le_of_ble_eq_true rfl, Nat.le_of_ble_eq_true rfl⟩) rfl hl.1 rfl (Nat.le_of_ble_eq_true rfl) dX1_about_4 (Nat.zero_le _) (Nat.zero_le _) ?_
  refine bb_topi (y := 0) (by rw [bb_out_no hn0 (by decide)]; rfl) ?_
  refine lv_if_eq (tgt := 14) hx hb dX1_about_7 rfl (fun h7 => ?_) (fun h7 => absurd rfl h7)
  refine lv_iload_n hx hb dX1_about_14 rfl (lv_at hl 2 rfl) ?_
  refine lv_if_lt (tgt := 23) hx hb dX1_about_15 rfl (fun h15 => absurd h15 (by decide)) (fun h15 => ?_)
  refine lv_iload_n hx hb dX1_about_18 rfl (lv_at hl 2 rfl) ?_
  refine lv_iconst (v := 3) hx hb dX1_about_19 (by decide) ?_
  refine lv_icmp_le (tgt := 27) hx hb dX1_about_20 rfl (fun h20 => ?_) (fun h20 => absurd (by decide) h20)
  have q20 := bb_nlt h20
  refine lv_iconst (v := 0) hx hb dX1_about_27 (by decide) ?_
  refine va_put (D := (dC, dI)) (ci := 1) (v := .int 0) (ty := .int) (C := RX1) (T := TX1) (N := 5) hx hb hts hin tyX1 tyX1_ok nX1 hown hK hP hD hS 0 rfl rfl 4 (by decide) hf23 (fun _ h9 => h9) rfl (by decide +kernel) rfl rfl (Nat.le_of_ble_eq_true rfl) dX1_about_28 (fun H locs hP hD hS => ?_)
  have hP : va_P (dC, dI) vwCl [(g0, .inr (1, [.ref b0, .ref b1, .ref b2, .int k, .int 0])), (b0, .inl (cA, 10, .inl w)), (b1, .inl (cA, 10, .inl pr)), (b2, .inl (cA, 310, .inl vt))] H := hP
  have hD : va_D A [(g0, .inr (1, [.ref b0, .ref b1, .ref b2, .int k, .int 0])), (b0, .inl (cA, 10, .inl w)), (b1, .inl (cA, 10, .inl pr)), (b2, .inl (cA, 310, .inl vt))] := hD
  refine lv_aload_n hx hb dX1_about_31 rfl (lv_at hl 0 rfl) ?_
  refine va_get (D := (dC, dI)) (ci := 1) (v := .int 0) (C := RX1) (T := TX1) (N := 5) hx hb hts hin hown hK hP 0 rfl rfl 4 (by decide) hf23 (fun _ h9 => h9) rfl dX1_about_32 ?_
  refine lv_if_le (tgt := 40) hx hb dX1_about_35 rfl (fun h35 => ?_) (fun h35 => absurd (by decide) h35)
  refine lv_iload_n hx hb dX1_about_40 rfl (lv_at hl 2 rfl) ?_
  refine lv_if_ne (tgt := 51) hx hb dX1_about_41 rfl (fun h41 => ?_) (fun h41 => absurd h41 (by decide))
  refine lv_iload_n hx hb dX1_about_51 rfl (lv_at hl 2 rfl) ?_
  refine lv_iconst (v := 1) hx hb dX1_about_52 (by decide) ?_
  refine lv_icmp_ne (tgt := 63) hx hb dX1_about_53 rfl (fun h53 => ?_) (fun h53 => absurd h53 (by decide))
  refine lv_iconst (v := 0) hx hb dX1_about_63 (by decide) ?_
  refine lv_istore_n (lv' := [(3, .int 0), (0, .ref g0), (1, .int (nI n)), (2, .int 2)]) hx hb dX1_about_64 rfl hl (by decide) rfl (fun ls hl => ?_)
  refine lv_iconst (v := (-1)) hx hb dX1_about_65 (by decide) ?_
  refine lv_istore (lv' := [(4, .int (-1)), (3, .int 0), (0, .ref g0), (1, .int (nI n)), (2, .int 2)]) hx hb dX1_about_66 hl (by decide) rfl (fun ls hl => ?_)
  refine lv_iconst (v := 0) hx hb dX1_about_68 (by decide) ?_
  refine lv_istore (lv' := [(5, .int 0), (4, .int (-1)), (3, .int 0), (0, .ref g0), (1, .int (nI n)), (2, .int 2)]) hx hb dX1_about_69 hl (by decide) rfl (fun ls hl => ?_)
  have hl : lv_has ls 6 [(0, .ref g0), (1, .int (nI n)), (2, .int 2), (3, .int 0), (4, .int (-1)), (5, .int 0)] := lv_sub hl [3, 4, 5, 2, 1, 0] rfl
  refine bb_forW (pc := 71) (I := fun j9 ls => lv_has ls 6 [(0, .ref g0), (1, .int (nI n)), (2, .int 2), (3, .int (nI (bb_cn (fun b9 => decide (vt (31 * n + b9) ≠ -1)) j9))), (4, .int (bb_la (fun b9 => decide (vt (31 * n + b9) ≠ -1)) j9)), (5, .int (nI j9))]) 31 ?_ ?_ 0 ls (Nat.zero_le _) hl
  · skip
    intro j ls hj hI ihj
    have hl := hI
    refine lv_iload hx hb dX1_about_71 (lv_at hl 5 rfl) ?_
    refine lv_bipush (v := nI 31) hx hb dX1_about_73 (by decide) ?_
    refine lv_icmp_ge (tgt := 105) hx hb dX1_about_75 rfl (fun h75 => absurd h75 (nI_ge hj (by decide))) (fun h75 => ?_)
    have q75 := bb_lt h75
    refine lv_aload_n hx hb dX1_about_78 rfl (lv_at hl 0 rfl) ?_
    refine lv_iload_n hx hb dX1_about_79 rfl (lv_at hl 1 rfl) ?_
    refine lv_iload hx hb dX1_about_80 (lv_at hl 5 rfl) ?_
    refine bb_cV (As := [.int (nI n), .int (nI j)]) (rest := []) (r := vt (31 * n + j)) 0 ⟨hx, hb, hml, hown, hts⟩ (m_voteOf l dC dI cA g0 b0 b1 b2 w pr vt k 0 n j (by omega) (by omega)) (cwV 2 hts gX1_about_X1_voteOf rfl rfl rfl (by decide +kernel) ⟨Nat.le_of_ble_eq_true rfl, Nat.le_of_ble_eq_true rfl⟩) hP hK rfl rfl rfl hl.1 rfl (Nat.le_of_ble_eq_true rfl) dX1_about_82 (Nat.zero_le _) (Nat.zero_le _) ?_
    refine lv_iconst (v := (-1)) hx hb dX1_about_85 (by decide) ?_
    refine lv_icmp_ne (tgt := 92) hx hb dX1_about_86 rfl (fun h86 => ?_) (fun h86 => ?_)
    · skip
      refine lv_iinc (v := nI ((bb_cn (fun b9 => decide (vt (31 * n + b9) ≠ -1)) j) + 1)) (lv' := [(3, .int (nI ((bb_cn (fun b9 => decide (vt (31 * n + b9) ≠ -1)) j) + 1))), (0, .ref g0), (1, .int (nI n)), (2, .int 2), (4, .int (bb_la (fun b9 => decide (vt (31 * n + b9) ≠ -1)) j)), (5, .int (nI j))]) hx hb dX1_about_92 hl (k := 3) rfl (bb_inc _) (by decide) rfl (fun ls hl => ?_)
      refine lv_iload hx hb dX1_about_95 (lv_at hl 5 rfl) ?_
      refine lv_istore (lv' := [(4, .int (nI j)), (3, .int (nI ((bb_cn (fun b9 => decide (vt (31 * n + b9) ≠ -1)) j) + 1))), (0, .ref g0), (1, .int (nI n)), (2, .int 2), (5, .int (nI j))]) hx hb dX1_about_97 hl (by decide) rfl (fun ls hl => ?_)
      refine lv_iinc (v := nI (j + 1)) (lv' := [(5, .int (nI (j + 1))), (4, .int (nI j)), (3, .int (nI ((bb_cn (fun b9 => decide (vt (31 * n + b9) ≠ -1)) j) + 1))), (0, .ref g0), (1, .int (nI n)), (2, .int 2)]) hx hb dX1_about_99 hl (k := 5) rfl (bb_inc _) (by decide) rfl (fun ls hl => ?_)
      refine lv_goto (tgt := 71) hx hb dX1_about_102 rfl ?_
      have hl : lv_has ls 6 [(0, .ref g0), (1, .int (nI n)), (2, .int 2), (3, .int (nI ((bb_cn (fun b9 => decide (vt (31 * n + b9) ≠ -1)) j) + 1))), (4, .int (nI j)), (5, .int (nI (j + 1)))] := lv_sub hl [3, 4, 5, 2, 1, 0] rfl
      have e1 : (nI ((bb_cn (fun b9 => decide (vt (31 * n + b9) ≠ -1)) j) + 1)) = nI (bb_cn (fun b9 => decide (vt (31 * n + b9) ≠ -1)) (j + 1)) := by simp [bb_cn, bb_la, h7, h15, h20, q20, h35, h41, h53, h75, q75, h86]
      have e2 : (nI j) = bb_la (fun b9 => decide (vt (31 * n + b9) ≠ -1)) (j + 1) := by simp [bb_cn, bb_la, h7, h15, h20, q20, h35, h41, h53, h75, q75, h86]
      have hl : lv_has ls 6 [(0, .ref g0), (1, .int (nI n)), (2, .int 2), (3, .int (nI (bb_cn (fun b9 => decide (vt (31 * n + b9) ≠ -1)) (j + 1)))), (4, .int (bb_la (fun b9 => decide (vt (31 * n + b9) ≠ -1)) (j + 1))), (5, .int (nI (j + 1)))] := by rw [← e1, ← e2]; exact hl
      exact ihj ls hl
    · skip
      refine lv_goto (tgt := 99) hx hb dX1_about_89 rfl ?_
      refine lv_iinc (v := nI (j + 1)) (lv' := [(5, .int (nI (j + 1))), (0, .ref g0), (1, .int (nI n)), (2, .int 2), (3, .int (nI (bb_cn (fun b9 => decide (vt (31 * n + b9) ≠ -1)) j))), (4, .int (bb_la (fun b9 => decide (vt (31 * n + b9) ≠ -1)) j))]) hx hb dX1_about_99 hl (k := 5) rfl (bb_inc _) (by decide) rfl (fun ls hl => ?_)
      refine lv_goto (tgt := 71) hx hb dX1_about_102 rfl ?_
      have hl : lv_has ls 6 [(0, .ref g0), (1, .int (nI n)), (2, .int 2), (3, .int (nI (bb_cn (fun b9 => decide (vt (31 * n + b9) ≠ -1)) j))), (4, .int (bb_la (fun b9 => decide (vt (31 * n + b9) ≠ -1)) j)), (5, .int (nI (j + 1)))] := lv_sub hl [1, 2, 3, 4, 5, 0] rfl
      have e3 : (nI (bb_cn (fun b9 => decide (vt (31 * n + b9) ≠ -1)) j)) = nI (bb_cn (fun b9 => decide (vt (31 * n + b9) ≠ -1)) (j + 1)) := by simp [bb_cn, bb_la, h7, h15, h20, q20, h35, h41, h53, h75, q75, h86]
      have e4 : (bb_la (fun b9 => decide (vt (31 * n + b9) ≠ -1)) j) = bb_la (fun b9 => decide (vt (31 * n + b9) ≠ -1)) (j + 1) := by simp [bb_cn, bb_la, h7, h15, h20, q20, h35, h41, h53, h75, q75, h86]
      have hl : lv_has ls 6 [(0, .ref g0), (1, .int (nI n)), (2, .int 2), (3, .int (nI (bb_cn (fun b9 => decide (vt (31 * n + b9) ≠ -1)) (j + 1)))), (4, .int (bb_la (fun b9 => decide (vt (31 * n + b9) ≠ -1)) (j + 1))), (5, .int (nI (j + 1)))] := by rw [← e3, ← e4]; exact hl
      exact ihj ls hl
  · skip
    intro ls hI
    have hl := hI
    refine lv_iload hx hb dX1_about_71 (lv_at hl 5 rfl) ?_
    refine lv_bipush (v := nI 31) hx hb dX1_about_73 (by decide) ?_
    refine lv_icmp_ge (tgt := 105) hx hb dX1_about_75 rfl (fun h75 => ?_) (fun h75 => absurd (nI_le (Nat.le_refl _) (by decide)) h75)
    have q75 := bb_nlt h75
    refine lv_iload_n hx hb dX1_about_105 rfl (lv_at hl 2 rfl) ?_
    refine lv_iconst (v := 2) hx hb dX1_about_106 (by decide) ?_
    refine lv_icmp_ne (tgt := 114) hx hb dX1_about_107 rfl (fun h107 => absurd rfl h107) (fun h107 => ?_)
    refine lv_iload_n hx hb dX1_about_110 rfl (lv_at hl 3 rfl) ?_
    refine lv_goto (tgt := 116) hx hb dX1_about_111 rfl ?_
    exact W.iret (v := nI (bb_cn (fun b9 => decide (vt (31 * n + b9) ≠ -1)) 31)) hx hb hr (fun t ht _ => ⟨⟨nI (bb_cn (fun b9 => decide (vt (31 * n + b9) ≠ -1)) 31), (), rfl, rfl, by show va_P _ _ _ t.heap; rw [ht]; exact hP⟩, hS.F ht⟩) hS.2.2 dX1_about_116

set_option maxHeartbeats 4000000 in
set_option maxRecDepth 100000 in
theorem r_about_3 (l : Launch) (dC : Nat → ClassId) (dI : Nat → Nat → Nat) (cA : ClassId) (g0 b0 b1 b2 : Nat) (w pr vt : Nat → Int32) (k th : Int32) (sz : Nat) (n : Nat) (hn0 : n < 10) : Met l yX1_about wsX1_about ({ frames := 1, cells := 0, slots := 0, locals := 22 }) (bb_Pm [.ref g0, .int (nI n), .int 3] (dC, dI) vwCl [(g0, .inr (1, [.ref b0, .ref b1, .ref b2, .int k, .int th])), (b0, .inl (cA, 10, .inl w)), (b1, .inl (cA, 10, .inl pr)), (b2, .inl (cA, 310, .inl vt))] [(cA, .int)] sz) (bb_Qm (bb_la (fun b9 => decide (vt (31 * n + b9) ≠ -1)) 31) (dC, dI) vwCl [(g0, .inr (1, [.ref b0, .ref b1, .ref b2, .int k, .int 0])), (b0, .inl (cA, 10, .inl w)), (b1, .inl (cA, 10, .inl pr)), (b2, .inl (cA, 310, .inl vt))] (va_A [(g0, .inr (1, [.ref b0, .ref b1, .ref b2, .int k, .int th])), (b0, .inl (cA, 10, .inl w)), (b1, .inl (cA, 10, .inl pr)), (b2, .inl (cA, 310, .inl vt))] sz)) 0 0 (va_A [(g0, .inr (1, [.ref b0, .ref b1, .ref b2, .int k, .int th])), (b0, .inl (cA, 10, .inl w)), (b1, .inl (cA, 10, .inl pr)), (b2, .inl (cA, 310, .inl vt))] sz) := by
  refine Met.ofW (cc := cX1_about) (maxL := 6) (ret := some .int) (by decide) rfl ?_
  intro p e s m args below meth c s₁ B hml hv
  obtain ⟨rfl, hsz, hP, hK, hD0⟩ := hv
  have hx := B.exec
  have hb := B.bytes
  have hr := B.returns
  have hts := atoms_spec (ws := wsX1_about) B.pre
  have hown : s.vm.findClass RX1 = some m.cls := findClass_of_methodNamed B.named
  have hlocks := B.notSynchronized
  subst hsz
  have hD := hD0.self (sz := s.heap.size)
  generalize hAe : va_A [(g0, .inr (1, [.ref b0, .ref b1, .ref b2, .int k, .int th])), (b0, .inl (cA, 10, .inl w)), (b1, .inl (cA, 10, .inl pr)), (b2, .inl (cA, 310, .inl vt))] s.heap.size = A at hD ⊢
  have hA : ∀ q : Nat, s.heap.size ≤ q → A q := fun q h => by rw [← hAe]; exact Or.inr h
  have hin : ∀ w9 ∈ u_ws RX1 TX1 5, w9 ∈ wsX1_about := fun w9 h9 => List.mem_cons_of_mem _ (bb_inX1 w9 h9)
  have hf9 := hts _ (List.mem_cons_of_mem _ bb_fX1_9)
  have hf13 := hts _ (List.mem_cons_of_mem _ bb_fX1_13)
  have hf23 := hts _ (List.mem_cons_of_mem _ bb_fX1_23)
  have hl := lv_entry ([.ref g0, .int (nI n), .int 3]) (n := 6) (Nat.le_of_ble_eq_true rfl)
  rw [lg_entry_eq]
  generalize (lg_sl ([.ref g0, .int (nI n), .int 3]) ++ List.replicate (6 - (lg_sl ([.ref g0, .int (nI n), .int 3])).length) Slot.unset).toArray = ls at hl ⊢
  have hl : lv_has ls 6 [(0, .ref g0), (1, .int (nI n)), (2, .int 3)] := hl
  refine bb_gen hP hD (fun H locs hP hD hS => ?_)
  refine lv_aload_n hx hb dX1_about_0 rfl (lv_at hl 0 rfl) ?_
  refine lv_iload_n hx hb dX1_about_1 rfl (lv_at hl 1 rfl) ?_
  refine lv_bipush (v := nI 10) hx hb dX1_about_2 (by decide) ?_
  refine bb_cS (As := [.int (nI n), .int (nI 10)]) (rest := [.ref g0]) (r := bb_I (bb_out (nI n) (nI 10))) ⟨hx, hb, hml, hown, hts⟩ (m_out l (nI n) (nI 10)) (cwS 2 hts gX1_about_X1_out rfl rfl rfl (by decide +kernel) ⟨Nat.le_of_ble_eq_true rfl, Nat.le_of_ble_eq_true rfl⟩) rfl hl.1 rfl (Nat.le_of_ble_eq_true rfl) dX1_about_4 (Nat.zero_le _) (Nat.zero_le _) ?_
  refine bb_topi (y := 0) (by rw [bb_out_no hn0 (by decide)]; rfl) ?_
  refine lv_if_eq (tgt := 14) hx hb dX1_about_7 rfl (fun h7 => ?_) (fun h7 => absurd rfl h7)
  refine lv_iload_n hx hb dX1_about_14 rfl (lv_at hl 2 rfl) ?_
  refine lv_if_lt (tgt := 23) hx hb dX1_about_15 rfl (fun h15 => absurd h15 (by decide)) (fun h15 => ?_)
  refine lv_iload_n hx hb dX1_about_18 rfl (lv_at hl 2 rfl) ?_
  refine lv_iconst (v := 3) hx hb dX1_about_19 (by decide) ?_
  refine lv_icmp_le (tgt := 27) hx hb dX1_about_20 rfl (fun h20 => ?_) (fun h20 => absurd (by decide) h20)
  have q20 := bb_nlt h20
  refine lv_iconst (v := 0) hx hb dX1_about_27 (by decide) ?_
  refine va_put (D := (dC, dI)) (ci := 1) (v := .int 0) (ty := .int) (C := RX1) (T := TX1) (N := 5) hx hb hts hin tyX1 tyX1_ok nX1 hown hK hP hD hS 0 rfl rfl 4 (by decide) hf23 (fun _ h9 => h9) rfl (by decide +kernel) rfl rfl (Nat.le_of_ble_eq_true rfl) dX1_about_28 (fun H locs hP hD hS => ?_)
  have hP : va_P (dC, dI) vwCl [(g0, .inr (1, [.ref b0, .ref b1, .ref b2, .int k, .int 0])), (b0, .inl (cA, 10, .inl w)), (b1, .inl (cA, 10, .inl pr)), (b2, .inl (cA, 310, .inl vt))] H := hP
  have hD : va_D A [(g0, .inr (1, [.ref b0, .ref b1, .ref b2, .int k, .int 0])), (b0, .inl (cA, 10, .inl w)), (b1, .inl (cA, 10, .inl pr)), (b2, .inl (cA, 310, .inl vt))] := hD
  refine lv_aload_n hx hb dX1_about_31 rfl (lv_at hl 0 rfl) ?_
  refine va_get (D := (dC, dI)) (ci := 1) (v := .int 0) (C := RX1) (T := TX1) (N := 5) hx hb hts hin hown hK hP 0 rfl rfl 4 (by decide) hf23 (fun _ h9 => h9) rfl dX1_about_32 ?_
  refine lv_if_le (tgt := 40) hx hb dX1_about_35 rfl (fun h35 => ?_) (fun h35 => absurd (by decide) h35)
  refine lv_iload_n hx hb dX1_about_40 rfl (lv_at hl 2 rfl) ?_
  refine lv_if_ne (tgt := 51) hx hb dX1_about_41 rfl (fun h41 => ?_) (fun h41 => absurd h41 (by decide))
  refine lv_iload_n hx hb dX1_about_51 rfl (lv_at hl 2 rfl) ?_
  refine lv_iconst (v := 1) hx hb dX1_about_52 (by decide) ?_
  refine lv_icmp_ne (tgt := 63) hx hb dX1_about_53 rfl (fun h53 => ?_) (fun h53 => absurd h53 (by decide))
  refine lv_iconst (v := 0) hx hb dX1_about_63 (by decide) ?_
  refine lv_istore_n (lv' := [(3, .int 0), (0, .ref g0), (1, .int (nI n)), (2, .int 3)]) hx hb dX1_about_64 rfl hl (by decide) rfl (fun ls hl => ?_)
  refine lv_iconst (v := (-1)) hx hb dX1_about_65 (by decide) ?_
  refine lv_istore (lv' := [(4, .int (-1)), (3, .int 0), (0, .ref g0), (1, .int (nI n)), (2, .int 3)]) hx hb dX1_about_66 hl (by decide) rfl (fun ls hl => ?_)
  refine lv_iconst (v := 0) hx hb dX1_about_68 (by decide) ?_
  refine lv_istore (lv' := [(5, .int 0), (4, .int (-1)), (3, .int 0), (0, .ref g0), (1, .int (nI n)), (2, .int 3)]) hx hb dX1_about_69 hl (by decide) rfl (fun ls hl => ?_)
  have hl : lv_has ls 6 [(0, .ref g0), (1, .int (nI n)), (2, .int 3), (3, .int 0), (4, .int (-1)), (5, .int 0)] := lv_sub hl [3, 4, 5, 2, 1, 0] rfl
  refine bb_forW (pc := 71) (I := fun j9 ls => lv_has ls 6 [(0, .ref g0), (1, .int (nI n)), (2, .int 3), (3, .int (nI (bb_cn (fun b9 => decide (vt (31 * n + b9) ≠ -1)) j9))), (4, .int (bb_la (fun b9 => decide (vt (31 * n + b9) ≠ -1)) j9)), (5, .int (nI j9))]) 31 ?_ ?_ 0 ls (Nat.zero_le _) hl
  · skip
    intro j ls hj hI ihj
    have hl := hI
    refine lv_iload hx hb dX1_about_71 (lv_at hl 5 rfl) ?_
    refine lv_bipush (v := nI 31) hx hb dX1_about_73 (by decide) ?_
    refine lv_icmp_ge (tgt := 105) hx hb dX1_about_75 rfl (fun h75 => absurd h75 (nI_ge hj (by decide))) (fun h75 => ?_)
    have q75 := bb_lt h75
    refine lv_aload_n hx hb dX1_about_78 rfl (lv_at hl 0 rfl) ?_
    refine lv_iload_n hx hb dX1_about_79 rfl (lv_at hl 1 rfl) ?_
    refine lv_iload hx hb dX1_about_80 (lv_at hl 5 rfl) ?_
    refine bb_cV (As := [.int (nI n), .int (nI j)]) (rest := []) (r := vt (31 * n + j)) 0 ⟨hx, hb, hml, hown, hts⟩ (m_voteOf l dC dI cA g0 b0 b1 b2 w pr vt k 0 n j (by omega) (by omega)) (cwV 2 hts gX1_about_X1_voteOf rfl rfl rfl (by decide +kernel) ⟨Nat.le_of_ble_eq_true rfl, Nat.le_of_ble_eq_true rfl⟩) hP hK rfl rfl rfl hl.1 rfl (Nat.le_of_ble_eq_true rfl) dX1_about_82 (Nat.zero_le _) (Nat.zero_le _) ?_
    refine lv_iconst (v := (-1)) hx hb dX1_about_85 (by decide) ?_
    refine lv_icmp_ne (tgt := 92) hx hb dX1_about_86 rfl (fun h86 => ?_) (fun h86 => ?_)
    · skip
      refine lv_iinc (v := nI ((bb_cn (fun b9 => decide (vt (31 * n + b9) ≠ -1)) j) + 1)) (lv' := [(3, .int (nI ((bb_cn (fun b9 => decide (vt (31 * n + b9) ≠ -1)) j) + 1))), (0, .ref g0), (1, .int (nI n)), (2, .int 3), (4, .int (bb_la (fun b9 => decide (vt (31 * n + b9) ≠ -1)) j)), (5, .int (nI j))]) hx hb dX1_about_92 hl (k := 3) rfl (bb_inc _) (by decide) rfl (fun ls hl => ?_)
      refine lv_iload hx hb dX1_about_95 (lv_at hl 5 rfl) ?_
      refine lv_istore (lv' := [(4, .int (nI j)), (3, .int (nI ((bb_cn (fun b9 => decide (vt (31 * n + b9) ≠ -1)) j) + 1))), (0, .ref g0), (1, .int (nI n)), (2, .int 3), (5, .int (nI j))]) hx hb dX1_about_97 hl (by decide) rfl (fun ls hl => ?_)
      refine lv_iinc (v := nI (j + 1)) (lv' := [(5, .int (nI (j + 1))), (4, .int (nI j)), (3, .int (nI ((bb_cn (fun b9 => decide (vt (31 * n + b9) ≠ -1)) j) + 1))), (0, .ref g0), (1, .int (nI n)), (2, .int 3)]) hx hb dX1_about_99 hl (k := 5) rfl (bb_inc _) (by decide) rfl (fun ls hl => ?_)
      refine lv_goto (tgt := 71) hx hb dX1_about_102 rfl ?_
      have hl : lv_has ls 6 [(0, .ref g0), (1, .int (nI n)), (2, .int 3), (3, .int (nI ((bb_cn (fun b9 => decide (vt (31 * n + b9) ≠ -1)) j) + 1))), (4, .int (nI j)), (5, .int (nI (j + 1)))] := lv_sub hl [3, 4, 5, 2, 1, 0] rfl
      have e1 : (nI ((bb_cn (fun b9 => decide (vt (31 * n + b9) ≠ -1)) j) + 1)) = nI (bb_cn (fun b9 => decide (vt (31 * n + b9) ≠ -1)) (j + 1)) := by simp [bb_cn, bb_la, h7, h15, h20, q20, h35, h41, h53, h75, q75, h86]
      have e2 : (nI j) = bb_la (fun b9 => decide (vt (31 * n + b9) ≠ -1)) (j + 1) := by simp [bb_cn, bb_la, h7, h15, h20, q20, h35, h41, h53, h75, q75, h86]
      have hl : lv_has ls 6 [(0, .ref g0), (1, .int (nI n)), (2, .int 3), (3, .int (nI (bb_cn (fun b9 => decide (vt (31 * n + b9) ≠ -1)) (j + 1)))), (4, .int (bb_la (fun b9 => decide (vt (31 * n + b9) ≠ -1)) (j + 1))), (5, .int (nI (j + 1)))] := by rw [← e1, ← e2]; exact hl
      exact ihj ls hl
    · skip
      refine lv_goto (tgt := 99) hx hb dX1_about_89 rfl ?_
      refine lv_iinc (v := nI (j + 1)) (lv' := [(5, .int (nI (j + 1))), (0, .ref g0), (1, .int (nI n)), (2, .int 3), (3, .int (nI (bb_cn (fun b9 => decide (vt (31 * n + b9) ≠ -1)) j))), (4, .int (bb_la (fun b9 => decide (vt (31 * n + b9) ≠ -1)) j))]) hx hb dX1_about_99 hl (k := 5) rfl (bb_inc _) (by decide) rfl (fun ls hl => ?_)
      refine lv_goto (tgt := 71) hx hb dX1_about_102 rfl ?_
      have hl : lv_has ls 6 [(0, .ref g0), (1, .int (nI n)), (2, .int 3), (3, .int (nI (bb_cn (fun b9 => decide (vt (31 * n + b9) ≠ -1)) j))), (4, .int (bb_la (fun b9 => decide (vt (31 * n + b9) ≠ -1)) j)), (5, .int (nI (j + 1)))] := lv_sub hl [1, 2, 3, 4, 5, 0] rfl
      have e3 : (nI (bb_cn (fun b9 => decide (vt (31 * n + b9) ≠ -1)) j)) = nI (bb_cn (fun b9 => decide (vt (31 * n + b9) ≠ -1)) (j + 1)) := by simp [bb_cn, bb_la, h7, h15, h20, q20, h35, h41, h53, h75, q75, h86]
      have e4 : (bb_la (fun b9 => decide (vt (31 * n + b9) ≠ -1)) j) = bb_la (fun b9 => decide (vt (31 * n + b9) ≠ -1)) (j + 1) := by simp [bb_cn, bb_la, h7, h15, h20, q20, h35, h41, h53, h75, q75, h86]
      have hl : lv_has ls 6 [(0, .ref g0), (1, .int (nI n)), (2, .int 3), (3, .int (nI (bb_cn (fun b9 => decide (vt (31 * n + b9) ≠ -1)) (j + 1)))), (4, .int (bb_la (fun b9 => decide (vt (31 * n + b9) ≠ -1)) (j + 1))), (5, .int (nI (j + 1)))] := by rw [← e3, ← e4]; exact hl
      exact ihj ls hl
  · skip
    intro ls hI
    have hl := hI
    refine lv_iload hx hb dX1_about_71 (lv_at hl 5 rfl) ?_
    refine lv_bipush (v := nI 31) hx hb dX1_about_73 (by decide) ?_
    refine lv_icmp_ge (tgt := 105) hx hb dX1_about_75 rfl (fun h75 => ?_) (fun h75 => absurd (nI_le (Nat.le_refl _) (by decide)) h75)
    have q75 := bb_nlt h75
    refine lv_iload_n hx hb dX1_about_105 rfl (lv_at hl 2 rfl) ?_
    refine lv_iconst (v := 2) hx hb dX1_about_106 (by decide) ?_
    refine lv_icmp_ne (tgt := 114) hx hb dX1_about_107 rfl (fun h107 => ?_) (fun h107 => absurd h107 (by decide))
    refine lv_iload hx hb dX1_about_114 (lv_at hl 4 rfl) ?_
    exact W.iret (v := bb_la (fun b9 => decide (vt (31 * n + b9) ≠ -1)) 31) hx hb hr (fun t ht _ => ⟨⟨bb_la (fun b9 => decide (vt (31 * n + b9) ≠ -1)) 31, (), rfl, rfl, by show va_P _ _ _ t.heap; rw [ht]; exact hP⟩, hS.F ht⟩) hS.2.2 dX1_about_116

set_option maxHeartbeats 4000000 in
set_option maxRecDepth 100000 in
theorem r_about1 (l : Launch) (dC : Nat → ClassId) (dI : Nat → Nat → Nat) (cA : ClassId) (g0 b0 b1 b2 : Nat) (w pr vt : Nat → Int32) (k th : Int32) (sz : Nat) (x0 x1 : Int32) (hbad : bb_out x0 (nI 10) = true) : Met l yX1_about wsX1_about ({ frames := 1, cells := 0, slots := 0, locals := 22 }) (bb_Pm [.ref g0, .int x0, .int x1] (dC, dI) vwCl [(g0, .inr (1, [.ref b0, .ref b1, .ref b2, .int k, .int th])), (b0, .inl (cA, 10, .inl w)), (b1, .inl (cA, 10, .inl pr)), (b2, .inl (cA, 310, .inl vt))] [(cA, .int)] sz) (bb_Qm (0) (dC, dI) vwCl [(g0, .inr (1, [.ref b0, .ref b1, .ref b2, .int k, .int 1])), (b0, .inl (cA, 10, .inl w)), (b1, .inl (cA, 10, .inl pr)), (b2, .inl (cA, 310, .inl vt))] (va_A [(g0, .inr (1, [.ref b0, .ref b1, .ref b2, .int k, .int th])), (b0, .inl (cA, 10, .inl w)), (b1, .inl (cA, 10, .inl pr)), (b2, .inl (cA, 310, .inl vt))] sz)) 0 0 (va_A [(g0, .inr (1, [.ref b0, .ref b1, .ref b2, .int k, .int th])), (b0, .inl (cA, 10, .inl w)), (b1, .inl (cA, 10, .inl pr)), (b2, .inl (cA, 310, .inl vt))] sz) := by
  refine Met.ofW (cc := cX1_about) (maxL := 6) (ret := some .int) (by decide) rfl ?_
  intro p e s m args below meth c s₁ B hml hv
  obtain ⟨rfl, hsz, hP, hK, hD0⟩ := hv
  have hx := B.exec
  have hb := B.bytes
  have hr := B.returns
  have hts := atoms_spec (ws := wsX1_about) B.pre
  have hown : s.vm.findClass RX1 = some m.cls := findClass_of_methodNamed B.named
  have hlocks := B.notSynchronized
  subst hsz
  have hD := hD0.self (sz := s.heap.size)
  generalize hAe : va_A [(g0, .inr (1, [.ref b0, .ref b1, .ref b2, .int k, .int th])), (b0, .inl (cA, 10, .inl w)), (b1, .inl (cA, 10, .inl pr)), (b2, .inl (cA, 310, .inl vt))] s.heap.size = A at hD ⊢
  have hA : ∀ q : Nat, s.heap.size ≤ q → A q := fun q h => by rw [← hAe]; exact Or.inr h
  have hin : ∀ w9 ∈ u_ws RX1 TX1 5, w9 ∈ wsX1_about := fun w9 h9 => List.mem_cons_of_mem _ (bb_inX1 w9 h9)
  have hf23 := hts _ (List.mem_cons_of_mem _ bb_fX1_23)
  have hl := lv_entry ([.ref g0, .int x0, .int x1]) (n := 6) (Nat.le_of_ble_eq_true rfl)
  rw [lg_entry_eq]
  generalize (lg_sl ([.ref g0, .int x0, .int x1]) ++ List.replicate (6 - (lg_sl ([.ref g0, .int x0, .int x1])).length) Slot.unset).toArray = ls at hl ⊢
  have hl : lv_has ls 6 [(0, .ref g0), (1, .int x0), (2, .int x1)] := hl
  refine bb_gen hP hD (fun H locs hP hD hS => ?_)
  refine lv_aload_n hx hb dX1_about_0 rfl (lv_at hl 0 rfl) ?_
  refine lv_iload_n hx hb dX1_about_1 rfl (lv_at hl 1 rfl) ?_
  refine lv_bipush (v := nI 10) hx hb dX1_about_2 (by decide) ?_
  refine bb_cS (As := [.int x0, .int (nI 10)]) (rest := [.ref g0]) (r := bb_I (bb_out x0 (nI 10))) ⟨hx, hb, hml, hown, hts⟩ (m_out l x0 (nI 10)) (cwS 2 hts gX1_about_X1_out rfl rfl rfl (by decide +kernel) ⟨Nat.le_of_ble_eq_true rfl, Nat.le_of_ble_eq_true rfl⟩) rfl hl.1 rfl (Nat.le_of_ble_eq_true rfl) dX1_about_4 (Nat.zero_le _) (Nat.zero_le _) ?_
  refine bb_topi (y := 1) (by rw [hbad]; rfl) ?_
  refine lv_if_eq (tgt := 14) hx hb dX1_about_7 rfl (fun h7 => absurd h7 (by decide)) (fun h7 => ?_)
  refine lv_iconst (v := 1) hx hb dX1_about_10 (by decide) ?_
  refine lv_goto (tgt := 28) hx hb dX1_about_11 rfl ?_
  refine va_put (D := (dC, dI)) (ci := 1) (v := .int 1) (ty := .int) (C := RX1) (T := TX1) (N := 5) hx hb hts hin tyX1 tyX1_ok nX1 hown hK hP hD hS 0 rfl rfl 4 (by decide) hf23 (fun _ h9 => h9) rfl (by decide +kernel) rfl rfl (Nat.le_of_ble_eq_true rfl) dX1_about_28 (fun H locs hP hD hS => ?_)
  have hP : va_P (dC, dI) vwCl [(g0, .inr (1, [.ref b0, .ref b1, .ref b2, .int k, .int 1])), (b0, .inl (cA, 10, .inl w)), (b1, .inl (cA, 10, .inl pr)), (b2, .inl (cA, 310, .inl vt))] H := hP
  have hD : va_D A [(g0, .inr (1, [.ref b0, .ref b1, .ref b2, .int k, .int 1])), (b0, .inl (cA, 10, .inl w)), (b1, .inl (cA, 10, .inl pr)), (b2, .inl (cA, 310, .inl vt))] := hD
  refine lv_aload_n hx hb dX1_about_31 rfl (lv_at hl 0 rfl) ?_
  refine va_get (D := (dC, dI)) (ci := 1) (v := .int 1) (C := RX1) (T := TX1) (N := 5) hx hb hts hin hown hK hP 0 rfl rfl 4 (by decide) hf23 (fun _ h9 => h9) rfl dX1_about_32 ?_
  refine lv_if_le (tgt := 40) hx hb dX1_about_35 rfl (fun h35 => absurd h35 (by decide)) (fun h35 => ?_)
  refine lv_iconst (v := 0) hx hb dX1_about_38 (by decide) ?_
  exact W.iret (v := 0) hx hb hr (fun t ht _ => ⟨⟨0, (), rfl, rfl, by show va_P _ _ _ t.heap; rw [ht]; exact hP⟩, hS.F ht⟩) hS.2.2 dX1_about_39

set_option maxHeartbeats 4000000 in
set_option maxRecDepth 100000 in
theorem r_about2 (l : Launch) (dC : Nat → ClassId) (dI : Nat → Nat → Nat) (cA : ClassId) (g0 b0 b1 b2 : Nat) (w pr vt : Nat → Int32) (k th : Int32) (sz : Nat) (n : Nat) (hn0 : n < 10) (x1 : Int32) (hbad : x1 < 0 ∨ ¬ x1 ≤ nI 3) : Met l yX1_about wsX1_about ({ frames := 1, cells := 0, slots := 0, locals := 22 }) (bb_Pm [.ref g0, .int (nI n), .int x1] (dC, dI) vwCl [(g0, .inr (1, [.ref b0, .ref b1, .ref b2, .int k, .int th])), (b0, .inl (cA, 10, .inl w)), (b1, .inl (cA, 10, .inl pr)), (b2, .inl (cA, 310, .inl vt))] [(cA, .int)] sz) (bb_Qm (0) (dC, dI) vwCl [(g0, .inr (1, [.ref b0, .ref b1, .ref b2, .int k, .int 2])), (b0, .inl (cA, 10, .inl w)), (b1, .inl (cA, 10, .inl pr)), (b2, .inl (cA, 310, .inl vt))] (va_A [(g0, .inr (1, [.ref b0, .ref b1, .ref b2, .int k, .int th])), (b0, .inl (cA, 10, .inl w)), (b1, .inl (cA, 10, .inl pr)), (b2, .inl (cA, 310, .inl vt))] sz)) 0 0 (va_A [(g0, .inr (1, [.ref b0, .ref b1, .ref b2, .int k, .int th])), (b0, .inl (cA, 10, .inl w)), (b1, .inl (cA, 10, .inl pr)), (b2, .inl (cA, 310, .inl vt))] sz) := by
  refine Met.ofW (cc := cX1_about) (maxL := 6) (ret := some .int) (by decide) rfl ?_
  intro p e s m args below meth c s₁ B hml hv
  obtain ⟨rfl, hsz, hP, hK, hD0⟩ := hv
  have hx := B.exec
  have hb := B.bytes
  have hr := B.returns
  have hts := atoms_spec (ws := wsX1_about) B.pre
  have hown : s.vm.findClass RX1 = some m.cls := findClass_of_methodNamed B.named
  have hlocks := B.notSynchronized
  subst hsz
  have hD := hD0.self (sz := s.heap.size)
  generalize hAe : va_A [(g0, .inr (1, [.ref b0, .ref b1, .ref b2, .int k, .int th])), (b0, .inl (cA, 10, .inl w)), (b1, .inl (cA, 10, .inl pr)), (b2, .inl (cA, 310, .inl vt))] s.heap.size = A at hD ⊢
  have hA : ∀ q : Nat, s.heap.size ≤ q → A q := fun q h => by rw [← hAe]; exact Or.inr h
  have hin : ∀ w9 ∈ u_ws RX1 TX1 5, w9 ∈ wsX1_about := fun w9 h9 => List.mem_cons_of_mem _ (bb_inX1 w9 h9)
  have hf23 := hts _ (List.mem_cons_of_mem _ bb_fX1_23)
  have hl := lv_entry ([.ref g0, .int (nI n), .int x1]) (n := 6) (Nat.le_of_ble_eq_true rfl)
  rw [lg_entry_eq]
  generalize (lg_sl ([.ref g0, .int (nI n), .int x1]) ++ List.replicate (6 - (lg_sl ([.ref g0, .int (nI n), .int x1])).length) Slot.unset).toArray = ls at hl ⊢
  have hl : lv_has ls 6 [(0, .ref g0), (1, .int (nI n)), (2, .int x1)] := hl
  refine bb_gen hP hD (fun H locs hP hD hS => ?_)
  refine lv_aload_n hx hb dX1_about_0 rfl (lv_at hl 0 rfl) ?_
  refine lv_iload_n hx hb dX1_about_1 rfl (lv_at hl 1 rfl) ?_
  refine lv_bipush (v := nI 10) hx hb dX1_about_2 (by decide) ?_
  refine bb_cS (As := [.int (nI n), .int (nI 10)]) (rest := [.ref g0]) (r := bb_I (bb_out (nI n) (nI 10))) ⟨hx, hb, hml, hown, hts⟩ (m_out l (nI n) (nI 10)) (cwS 2 hts gX1_about_X1_out rfl rfl rfl (by decide +kernel) ⟨Nat.le_of_ble_eq_true rfl, Nat.le_of_ble_eq_true rfl⟩) rfl hl.1 rfl (Nat.le_of_ble_eq_true rfl) dX1_about_4 (Nat.zero_le _) (Nat.zero_le _) ?_
  refine bb_topi (y := 0) (by rw [bb_out_no hn0 (by decide)]; rfl) ?_
  refine lv_if_eq (tgt := 14) hx hb dX1_about_7 rfl (fun h7 => ?_) (fun h7 => absurd rfl h7)
  refine lv_iload_n hx hb dX1_about_14 rfl (lv_at hl 2 rfl) ?_
  refine lv_if_lt (tgt := 23) hx hb dX1_about_15 rfl (fun h15 => ?_) (fun h15 => ?_)
  · skip
    refine lv_iconst (v := 2) hx hb dX1_about_23 (by decide) ?_
    refine lv_goto (tgt := 28) hx hb dX1_about_24 rfl ?_
    refine va_put (D := (dC, dI)) (ci := 1) (v := .int 2) (ty := .int) (C := RX1) (T := TX1) (N := 5) hx hb hts hin tyX1 tyX1_ok nX1 hown hK hP hD hS 0 rfl rfl 4 (by decide) hf23 (fun _ h9 => h9) rfl (by decide +kernel) rfl rfl (Nat.le_of_ble_eq_true rfl) dX1_about_28 (fun H locs hP hD hS => ?_)
    have hP : va_P (dC, dI) vwCl [(g0, .inr (1, [.ref b0, .ref b1, .ref b2, .int k, .int 2])), (b0, .inl (cA, 10, .inl w)), (b1, .inl (cA, 10, .inl pr)), (b2, .inl (cA, 310, .inl vt))] H := hP
    have hD : va_D A [(g0, .inr (1, [.ref b0, .ref b1, .ref b2, .int k, .int 2])), (b0, .inl (cA, 10, .inl w)), (b1, .inl (cA, 10, .inl pr)), (b2, .inl (cA, 310, .inl vt))] := hD
    refine lv_aload_n hx hb dX1_about_31 rfl (lv_at hl 0 rfl) ?_
    refine va_get (D := (dC, dI)) (ci := 1) (v := .int 2) (C := RX1) (T := TX1) (N := 5) hx hb hts hin hown hK hP 0 rfl rfl 4 (by decide) hf23 (fun _ h9 => h9) rfl dX1_about_32 ?_
    refine lv_if_le (tgt := 40) hx hb dX1_about_35 rfl (fun h35 => absurd h35 (by decide)) (fun h35 => ?_)
    refine lv_iconst (v := 0) hx hb dX1_about_38 (by decide) ?_
    exact W.iret (v := 0) hx hb hr (fun t ht _ => ⟨⟨0, (), rfl, rfl, by show va_P _ _ _ t.heap; rw [ht]; exact hP⟩, hS.F ht⟩) hS.2.2 dX1_about_39
  · skip
    refine lv_iload_n hx hb dX1_about_18 rfl (lv_at hl 2 rfl) ?_
    refine lv_iconst (v := nI 3) hx hb dX1_about_19 (by decide) ?_
    refine lv_icmp_le (tgt := 27) hx hb dX1_about_20 rfl (fun h20 => absurd h20 (hbad.resolve_left h15)) (fun h20 => ?_)
    have q20 := bb_lt h20
    refine lv_iconst (v := 2) hx hb dX1_about_23 (by decide) ?_
    refine lv_goto (tgt := 28) hx hb dX1_about_24 rfl ?_
    refine va_put (D := (dC, dI)) (ci := 1) (v := .int 2) (ty := .int) (C := RX1) (T := TX1) (N := 5) hx hb hts hin tyX1 tyX1_ok nX1 hown hK hP hD hS 0 rfl rfl 4 (by decide) hf23 (fun _ h9 => h9) rfl (by decide +kernel) rfl rfl (Nat.le_of_ble_eq_true rfl) dX1_about_28 (fun H locs hP hD hS => ?_)
    have hP : va_P (dC, dI) vwCl [(g0, .inr (1, [.ref b0, .ref b1, .ref b2, .int k, .int 2])), (b0, .inl (cA, 10, .inl w)), (b1, .inl (cA, 10, .inl pr)), (b2, .inl (cA, 310, .inl vt))] H := hP
    have hD : va_D A [(g0, .inr (1, [.ref b0, .ref b1, .ref b2, .int k, .int 2])), (b0, .inl (cA, 10, .inl w)), (b1, .inl (cA, 10, .inl pr)), (b2, .inl (cA, 310, .inl vt))] := hD
    refine lv_aload_n hx hb dX1_about_31 rfl (lv_at hl 0 rfl) ?_
    refine va_get (D := (dC, dI)) (ci := 1) (v := .int 2) (C := RX1) (T := TX1) (N := 5) hx hb hts hin hown hK hP 0 rfl rfl 4 (by decide) hf23 (fun _ h9 => h9) rfl dX1_about_32 ?_
    refine lv_if_le (tgt := 40) hx hb dX1_about_35 rfl (fun h35 => absurd h35 (by decide)) (fun h35 => ?_)
    refine lv_iconst (v := 0) hx hb dX1_about_38 (by decide) ?_
    exact W.iret (v := 0) hx hb hr (fun t ht _ => ⟨⟨0, (), rfl, rfl, by show va_P _ _ _ t.heap; rw [ht]; exact hP⟩, hS.F ht⟩) hS.2.2 dX1_about_39

set_option maxHeartbeats 4000000 in
set_option maxRecDepth 100000 in
theorem r_count_0 (l : Launch) (dC : Nat → ClassId) (dI : Nat → Nat → Nat) (cA : ClassId) (g0 b0 b1 b2 : Nat) (w pr vt : Nat → Int32) (k th : Int32) (sz : Nat)  : Met l yX1_count wsX1_count ({ frames := 2, cells := 0, slots := 0, locals := 47 }) (bb_Pm [.ref g0, .int 0] (dC, dI) vwCl [(g0, .inr (1, [.ref b0, .ref b1, .ref b2, .int k, .int th])), (b0, .inl (cA, 10, .inl w)), (b1, .inl (cA, 10, .inl pr)), (b2, .inl (cA, 310, .inl vt))] [(cA, .int)] sz) (bb_Qm (k) (dC, dI) vwCl [(g0, .inr (1, [.ref b0, .ref b1, .ref b2, .int k, .int 0])), (b0, .inl (cA, 10, .inl w)), (b1, .inl (cA, 10, .inl pr)), (b2, .inl (cA, 310, .inl vt))] (va_A [(g0, .inr (1, [.ref b0, .ref b1, .ref b2, .int k, .int th])), (b0, .inl (cA, 10, .inl w)), (b1, .inl (cA, 10, .inl pr)), (b2, .inl (cA, 310, .inl vt))] sz)) 0 0 (va_A [(g0, .inr (1, [.ref b0, .ref b1, .ref b2, .int k, .int th])), (b0, .inl (cA, 10, .inl w)), (b1, .inl (cA, 10, .inl pr)), (b2, .inl (cA, 310, .inl vt))] sz) := by
  refine Met.ofW (cc := cX1_count) (maxL := 6) (ret := some .int) (by decide) rfl ?_
  intro p e s m args below meth c s₁ B hml hv
  obtain ⟨rfl, hsz, hP, hK, hD0⟩ := hv
  have hx := B.exec
  have hb := B.bytes
  have hr := B.returns
  have hts := atoms_spec (ws := wsX1_count) B.pre
  have hown : s.vm.findClass RX1 = some m.cls := findClass_of_methodNamed B.named
  have hlocks := B.notSynchronized
  subst hsz
  have hD := hD0.self (sz := s.heap.size)
  generalize hAe : va_A [(g0, .inr (1, [.ref b0, .ref b1, .ref b2, .int k, .int th])), (b0, .inl (cA, 10, .inl w)), (b1, .inl (cA, 10, .inl pr)), (b2, .inl (cA, 310, .inl vt))] s.heap.size = A at hD ⊢
  have hA : ∀ q : Nat, s.heap.size ≤ q → A q := fun q h => by rw [← hAe]; exact Or.inr h
  have hin : ∀ w9 ∈ u_ws RX1 TX1 5, w9 ∈ wsX1_count := fun w9 h9 => List.mem_cons_of_mem _ (bb_inX1 w9 h9)
  have hf9 := hts _ (List.mem_cons_of_mem _ bb_fX1_9)
  have hf16 := hts _ (List.mem_cons_of_mem _ bb_fX1_16)
  have hf19 := hts _ (List.mem_cons_of_mem _ bb_fX1_19)
  have hf23 := hts _ (List.mem_cons_of_mem _ bb_fX1_23)
  have hl := lv_entry ([.ref g0, .int 0]) (n := 6) (Nat.le_of_ble_eq_true rfl)
  rw [lg_entry_eq]
  generalize (lg_sl ([.ref g0, .int 0]) ++ List.replicate (6 - (lg_sl ([.ref g0, .int 0])).length) Slot.unset).toArray = ls at hl ⊢
  have hl : lv_has ls 6 [(0, .ref g0), (1, .int 0)] := hl
  refine bb_gen hP hD (fun H locs hP hD hS => ?_)
  refine lv_aload_n hx hb dX1_count_0 rfl (lv_at hl 0 rfl) ?_
  refine lv_iconst (v := 0) hx hb dX1_count_1 (by decide) ?_
  refine va_put (D := (dC, dI)) (ci := 1) (v := .int 0) (ty := .int) (C := RX1) (T := TX1) (N := 5) hx hb hts hin tyX1 tyX1_ok nX1 hown hK hP hD hS 0 rfl rfl 4 (by decide) hf23 (fun _ h9 => h9) rfl (by decide +kernel) rfl rfl (Nat.le_of_ble_eq_true rfl) dX1_count_2 (fun H locs hP hD hS => ?_)
  have hP : va_P (dC, dI) vwCl [(g0, .inr (1, [.ref b0, .ref b1, .ref b2, .int k, .int 0])), (b0, .inl (cA, 10, .inl w)), (b1, .inl (cA, 10, .inl pr)), (b2, .inl (cA, 310, .inl vt))] H := hP
  have hD : va_D A [(g0, .inr (1, [.ref b0, .ref b1, .ref b2, .int k, .int 0])), (b0, .inl (cA, 10, .inl w)), (b1, .inl (cA, 10, .inl pr)), (b2, .inl (cA, 310, .inl vt))] := hD
  refine lv_iconst (v := 0) hx hb dX1_count_5 (by decide) ?_
  refine lv_istore_n (lv' := [(2, .int 0), (0, .ref g0), (1, .int 0)]) hx hb dX1_count_6 rfl hl (by decide) rfl (fun ls hl => ?_)
  refine lv_iload_n hx hb dX1_count_7 rfl (lv_at hl 2 rfl) ?_
  refine lv_tableIn (off := 36) (tgt := 44) hx hb dX1_count_8 (by decide) (by decide) rfl rfl ?_
  refine lv_aload_n hx hb dX1_count_44 rfl (lv_at hl 1 rfl) ?_
  refine va_get (D := (dC, dI)) (ci := 1) (v := .int k) (C := RX1) (T := TX1) (N := 5) hx hb hts hin hown hK hP 0 rfl rfl 3 (by decide) hf19 (fun _ h9 => h9) rfl dX1_count_45 ?_
  exact W.iret (v := k) hx hb hr (fun t ht _ => ⟨⟨k, (), rfl, rfl, by show va_P _ _ _ t.heap; rw [ht]; exact hP⟩, hS.F ht⟩) hS.2.2 dX1_count_48

set_option maxHeartbeats 4000000 in
set_option maxRecDepth 100000 in
theorem r_count_1 (l : Launch) (dC : Nat → ClassId) (dI : Nat → Nat → Nat) (cA : ClassId) (g0 b0 b1 b2 : Nat) (w pr vt : Nat → Int32) (k th : Int32) (sz : Nat)  : Met l yX1_count wsX1_count ({ frames := 2, cells := 0, slots := 0, locals := 47 }) (bb_Pm [.ref g0, .int 1] (dC, dI) vwCl [(g0, .inr (1, [.ref b0, .ref b1, .ref b2, .int k, .int th])), (b0, .inl (cA, 10, .inl w)), (b1, .inl (cA, 10, .inl pr)), (b2, .inl (cA, 310, .inl vt))] [(cA, .int)] sz) (bb_Qm (bb_wa w 10) (dC, dI) vwCl [(g0, .inr (1, [.ref b0, .ref b1, .ref b2, .int k, .int 0])), (b0, .inl (cA, 10, .inl w)), (b1, .inl (cA, 10, .inl pr)), (b2, .inl (cA, 310, .inl vt))] (va_A [(g0, .inr (1, [.ref b0, .ref b1, .ref b2, .int k, .int th])), (b0, .inl (cA, 10, .inl w)), (b1, .inl (cA, 10, .inl pr)), (b2, .inl (cA, 310, .inl vt))] sz)) 0 0 (va_A [(g0, .inr (1, [.ref b0, .ref b1, .ref b2, .int k, .int th])), (b0, .inl (cA, 10, .inl w)), (b1, .inl (cA, 10, .inl pr)), (b2, .inl (cA, 310, .inl vt))] sz) := by
  refine Met.ofW (cc := cX1_count) (maxL := 6) (ret := some .int) (by decide) rfl ?_
  intro p e s m args below meth c s₁ B hml hv
  obtain ⟨rfl, hsz, hP, hK, hD0⟩ := hv
  have hx := B.exec
  have hb := B.bytes
  have hr := B.returns
  have hts := atoms_spec (ws := wsX1_count) B.pre
  have hown : s.vm.findClass RX1 = some m.cls := findClass_of_methodNamed B.named
  have hlocks := B.notSynchronized
  subst hsz
  have hD := hD0.self (sz := s.heap.size)
  generalize hAe : va_A [(g0, .inr (1, [.ref b0, .ref b1, .ref b2, .int k, .int th])), (b0, .inl (cA, 10, .inl w)), (b1, .inl (cA, 10, .inl pr)), (b2, .inl (cA, 310, .inl vt))] s.heap.size = A at hD ⊢
  have hA : ∀ q : Nat, s.heap.size ≤ q → A q := fun q h => by rw [← hAe]; exact Or.inr h
  have hin : ∀ w9 ∈ u_ws RX1 TX1 5, w9 ∈ wsX1_count := fun w9 h9 => List.mem_cons_of_mem _ (bb_inX1 w9 h9)
  have hf9 := hts _ (List.mem_cons_of_mem _ bb_fX1_9)
  have hf16 := hts _ (List.mem_cons_of_mem _ bb_fX1_16)
  have hf19 := hts _ (List.mem_cons_of_mem _ bb_fX1_19)
  have hf23 := hts _ (List.mem_cons_of_mem _ bb_fX1_23)
  have hl := lv_entry ([.ref g0, .int 1]) (n := 6) (Nat.le_of_ble_eq_true rfl)
  rw [lg_entry_eq]
  generalize (lg_sl ([.ref g0, .int 1]) ++ List.replicate (6 - (lg_sl ([.ref g0, .int 1])).length) Slot.unset).toArray = ls at hl ⊢
  have hl : lv_has ls 6 [(0, .ref g0), (1, .int 1)] := hl
  refine bb_gen hP hD (fun H locs hP hD hS => ?_)
  refine lv_aload_n hx hb dX1_count_0 rfl (lv_at hl 0 rfl) ?_
  refine lv_iconst (v := 0) hx hb dX1_count_1 (by decide) ?_
  refine va_put (D := (dC, dI)) (ci := 1) (v := .int 0) (ty := .int) (C := RX1) (T := TX1) (N := 5) hx hb hts hin tyX1 tyX1_ok nX1 hown hK hP hD hS 0 rfl rfl 4 (by decide) hf23 (fun _ h9 => h9) rfl (by decide +kernel) rfl rfl (Nat.le_of_ble_eq_true rfl) dX1_count_2 (fun H locs hP hD hS => ?_)
  have hP : va_P (dC, dI) vwCl [(g0, .inr (1, [.ref b0, .ref b1, .ref b2, .int k, .int 0])), (b0, .inl (cA, 10, .inl w)), (b1, .inl (cA, 10, .inl pr)), (b2, .inl (cA, 310, .inl vt))] H := hP
  have hD : va_D A [(g0, .inr (1, [.ref b0, .ref b1, .ref b2, .int k, .int 0])), (b0, .inl (cA, 10, .inl w)), (b1, .inl (cA, 10, .inl pr)), (b2, .inl (cA, 310, .inl vt))] := hD
  refine lv_iconst (v := 0) hx hb dX1_count_5 (by decide) ?_
  refine lv_istore_n (lv' := [(2, .int 0), (0, .ref g0), (1, .int 1)]) hx hb dX1_count_6 rfl hl (by decide) rfl (fun ls hl => ?_)
  refine lv_iload_n hx hb dX1_count_7 rfl (lv_at hl 2 rfl) ?_
  refine lv_tableIn (off := 41) (tgt := 49) hx hb dX1_count_8 (by decide) (by decide) rfl rfl ?_
  refine lv_iconst (v := 0) hx hb dX1_count_49 (by decide) ?_
  refine lv_istore_n (lv' := [(3, .int 0), (2, .int 0), (0, .ref g0), (1, .int 1)]) hx hb dX1_count_50 rfl hl (by decide) rfl (fun ls hl => ?_)
  have hl : lv_has ls 6 [(0, .ref g0), (1, .int 1), (2, .int 0), (3, .int 0)] := lv_sub hl [2, 3, 1, 0] rfl
  refine bb_forW (pc := 51) (I := fun j9 ls => lv_has ls 6 [(0, .ref g0), (1, .int 1), (2, .int (bb_wa w j9)), (3, .int (nI j9))]) 10 ?_ ?_ 0 ls (Nat.zero_le _) hl
  · skip
    intro j ls hj hI ihj
    have hl := hI
    refine lv_iload_n hx hb dX1_count_51 rfl (lv_at hl 3 rfl) ?_
    refine lv_bipush (v := nI 10) hx hb dX1_count_52 (by decide) ?_
    refine lv_icmp_ge (tgt := 72) hx hb dX1_count_54 rfl (fun h54 => absurd h54 (nI_ge hj (by decide))) (fun h54 => ?_)
    have q54 := bb_lt h54
    refine lv_iload_n hx hb dX1_count_57 rfl (lv_at hl 2 rfl) ?_
    refine lv_aload_n hx hb dX1_count_58 rfl (lv_at hl 0 rfl) ?_
    refine va_get (D := (dC, dI)) (ci := 1) (v := .ref b0) (C := RX1) (T := TX1) (N := 5) hx hb hts hin hown hK hP 0 rfl rfl 0 (by decide) hf9 (fun _ h9 => h9) rfl dX1_count_59 ?_
    refine lv_iload_n hx hb dX1_count_62 rfl (lv_at hl 3 rfl) ?_
    refine bb_ald hx hb hK hP 1 0 rfl rfl j (by omega) (by decide) dX1_count_63 ?_
    refine lv_iadd hx hb dX1_count_64 ?_
    refine lv_istore_n (lv' := [(2, .int ((bb_wa w j) + (w j))), (0, .ref g0), (1, .int 1), (3, .int (nI j))]) hx hb dX1_count_65 rfl hl (by decide) rfl (fun ls hl => ?_)
    refine lv_iinc (v := nI (j + 1)) (lv' := [(3, .int (nI (j + 1))), (2, .int ((bb_wa w j) + (w j))), (0, .ref g0), (1, .int 1)]) hx hb dX1_count_66 hl (k := 3) rfl (bb_inc _) (by decide) rfl (fun ls hl => ?_)
    refine lv_goto (tgt := 51) hx hb dX1_count_69 rfl ?_
    have hl : lv_has ls 6 [(0, .ref g0), (1, .int 1), (2, .int ((bb_wa w j) + (w j))), (3, .int (nI (j + 1)))] := lv_sub hl [2, 3, 1, 0] rfl
    have e1 : ((bb_wa w j) + (w j)) = bb_wa w (j + 1) := by simp [bb_cn, bb_wa, h54, q54]
    have hl : lv_has ls 6 [(0, .ref g0), (1, .int 1), (2, .int (bb_wa w (j + 1))), (3, .int (nI (j + 1)))] := by rw [← e1]; exact hl
    exact ihj ls hl
  · skip
    intro ls hI
    have hl := hI
    refine lv_iload_n hx hb dX1_count_51 rfl (lv_at hl 3 rfl) ?_
    refine lv_bipush (v := nI 10) hx hb dX1_count_52 (by decide) ?_
    refine lv_icmp_ge (tgt := 72) hx hb dX1_count_54 rfl (fun h54 => ?_) (fun h54 => absurd (nI_le (Nat.le_refl _) (by decide)) h54)
    have q54 := bb_nlt h54
    refine lv_iload_n hx hb dX1_count_72 rfl (lv_at hl 2 rfl) ?_
    exact W.iret (v := bb_wa w 10) hx hb hr (fun t ht _ => ⟨⟨bb_wa w 10, (), rfl, rfl, by show va_P _ _ _ t.heap; rw [ht]; exact hP⟩, hS.F ht⟩) hS.2.2 dX1_count_73

set_option maxHeartbeats 4000000 in
set_option maxRecDepth 100000 in
theorem r_count_2 (l : Launch) (dC : Nat → ClassId) (dI : Nat → Nat → Nat) (cA : ClassId) (g0 b0 b1 b2 : Nat) (w pr vt : Nat → Int32) (k th : Int32) (sz : Nat)  : Met l yX1_count wsX1_count ({ frames := 2, cells := 0, slots := 0, locals := 47 }) (bb_Pm [.ref g0, .int 2] (dC, dI) vwCl [(g0, .inr (1, [.ref b0, .ref b1, .ref b2, .int k, .int th])), (b0, .inl (cA, 10, .inl w)), (b1, .inl (cA, 10, .inl pr)), (b2, .inl (cA, 310, .inl vt))] [(cA, .int)] sz) (bb_Qm (nI (bb_cn (fun k9 => decide (vt k9 ≠ -1)) 310)) (dC, dI) vwCl [(g0, .inr (1, [.ref b0, .ref b1, .ref b2, .int k, .int 0])), (b0, .inl (cA, 10, .inl w)), (b1, .inl (cA, 10, .inl pr)), (b2, .inl (cA, 310, .inl vt))] (va_A [(g0, .inr (1, [.ref b0, .ref b1, .ref b2, .int k, .int th])), (b0, .inl (cA, 10, .inl w)), (b1, .inl (cA, 10, .inl pr)), (b2, .inl (cA, 310, .inl vt))] sz)) 0 0 (va_A [(g0, .inr (1, [.ref b0, .ref b1, .ref b2, .int k, .int th])), (b0, .inl (cA, 10, .inl w)), (b1, .inl (cA, 10, .inl pr)), (b2, .inl (cA, 310, .inl vt))] sz) := by
  refine Met.ofW (cc := cX1_count) (maxL := 6) (ret := some .int) (by decide) rfl ?_
  intro p e s m args below meth c s₁ B hml hv
  obtain ⟨rfl, hsz, hP, hK, hD0⟩ := hv
  have hx := B.exec
  have hb := B.bytes
  have hr := B.returns
  have hts := atoms_spec (ws := wsX1_count) B.pre
  have hown : s.vm.findClass RX1 = some m.cls := findClass_of_methodNamed B.named
  have hlocks := B.notSynchronized
  subst hsz
  have hD := hD0.self (sz := s.heap.size)
  generalize hAe : va_A [(g0, .inr (1, [.ref b0, .ref b1, .ref b2, .int k, .int th])), (b0, .inl (cA, 10, .inl w)), (b1, .inl (cA, 10, .inl pr)), (b2, .inl (cA, 310, .inl vt))] s.heap.size = A at hD ⊢
  have hA : ∀ q : Nat, s.heap.size ≤ q → A q := fun q h => by rw [← hAe]; exact Or.inr h
  have hin : ∀ w9 ∈ u_ws RX1 TX1 5, w9 ∈ wsX1_count := fun w9 h9 => List.mem_cons_of_mem _ (bb_inX1 w9 h9)
  have hf9 := hts _ (List.mem_cons_of_mem _ bb_fX1_9)
  have hf16 := hts _ (List.mem_cons_of_mem _ bb_fX1_16)
  have hf19 := hts _ (List.mem_cons_of_mem _ bb_fX1_19)
  have hf23 := hts _ (List.mem_cons_of_mem _ bb_fX1_23)
  have hl := lv_entry ([.ref g0, .int 2]) (n := 6) (Nat.le_of_ble_eq_true rfl)
  rw [lg_entry_eq]
  generalize (lg_sl ([.ref g0, .int 2]) ++ List.replicate (6 - (lg_sl ([.ref g0, .int 2])).length) Slot.unset).toArray = ls at hl ⊢
  have hl : lv_has ls 6 [(0, .ref g0), (1, .int 2)] := hl
  refine bb_gen hP hD (fun H locs hP hD hS => ?_)
  refine lv_aload_n hx hb dX1_count_0 rfl (lv_at hl 0 rfl) ?_
  refine lv_iconst (v := 0) hx hb dX1_count_1 (by decide) ?_
  refine va_put (D := (dC, dI)) (ci := 1) (v := .int 0) (ty := .int) (C := RX1) (T := TX1) (N := 5) hx hb hts hin tyX1 tyX1_ok nX1 hown hK hP hD hS 0 rfl rfl 4 (by decide) hf23 (fun _ h9 => h9) rfl (by decide +kernel) rfl rfl (Nat.le_of_ble_eq_true rfl) dX1_count_2 (fun H locs hP hD hS => ?_)
  have hP : va_P (dC, dI) vwCl [(g0, .inr (1, [.ref b0, .ref b1, .ref b2, .int k, .int 0])), (b0, .inl (cA, 10, .inl w)), (b1, .inl (cA, 10, .inl pr)), (b2, .inl (cA, 310, .inl vt))] H := hP
  have hD : va_D A [(g0, .inr (1, [.ref b0, .ref b1, .ref b2, .int k, .int 0])), (b0, .inl (cA, 10, .inl w)), (b1, .inl (cA, 10, .inl pr)), (b2, .inl (cA, 310, .inl vt))] := hD
  refine lv_iconst (v := 0) hx hb dX1_count_5 (by decide) ?_
  refine lv_istore_n (lv' := [(2, .int 0), (0, .ref g0), (1, .int 2)]) hx hb dX1_count_6 rfl hl (by decide) rfl (fun ls hl => ?_)
  refine lv_iload_n hx hb dX1_count_7 rfl (lv_at hl 2 rfl) ?_
  refine lv_tableIn (off := 66) (tgt := 74) hx hb dX1_count_8 (by decide) (by decide) rfl rfl ?_
  refine lv_iconst (v := 0) hx hb dX1_count_74 (by decide) ?_
  refine lv_istore_n (lv' := [(3, .int 0), (2, .int 0), (0, .ref g0), (1, .int 2)]) hx hb dX1_count_75 rfl hl (by decide) rfl (fun ls hl => ?_)
  have hl : lv_has ls 6 [(0, .ref g0), (1, .int 2), (2, .int 0), (3, .int 0)] := lv_sub hl [2, 3, 1, 0] rfl
  refine bb_forW (pc := 76) (I := fun j9 ls => lv_has ls 6 [(0, .ref g0), (1, .int 2), (2, .int (nI (bb_cn (fun k9 => decide (vt k9 ≠ -1)) j9))), (3, .int (nI j9))]) 310 ?_ ?_ 0 ls (Nat.zero_le _) hl
  · skip
    intro j ls hj hI ihj
    have hl := hI
    refine lv_iload_n hx hb dX1_count_76 rfl (lv_at hl 3 rfl) ?_
    refine lv_sipush (v := nI 310) hx hb dX1_count_77 (by decide) ?_
    refine lv_icmp_ge (tgt := 102) hx hb dX1_count_80 rfl (fun h80 => absurd h80 (nI_ge hj (by decide))) (fun h80 => ?_)
    have q80 := bb_lt h80
    refine lv_aload_n hx hb dX1_count_83 rfl (lv_at hl 0 rfl) ?_
    refine va_get (D := (dC, dI)) (ci := 1) (v := .ref b2) (C := RX1) (T := TX1) (N := 5) hx hb hts hin hown hK hP 0 rfl rfl 2 (by decide) hf16 (fun _ h9 => h9) rfl dX1_count_84 ?_
    refine lv_iload_n hx hb dX1_count_87 rfl (lv_at hl 3 rfl) ?_
    refine bb_ald hx hb hK hP 3 0 rfl rfl j (by omega) (by decide) dX1_count_88 ?_
    refine lv_iconst (v := (-1)) hx hb dX1_count_89 (by decide) ?_
    refine lv_icmp_eq (tgt := 96) hx hb dX1_count_90 rfl (fun h90 => ?_) (fun h90 => ?_)
    · skip
      refine lv_iinc (v := nI (j + 1)) (lv' := [(3, .int (nI (j + 1))), (0, .ref g0), (1, .int 2), (2, .int (nI (bb_cn (fun k9 => decide (vt k9 ≠ -1)) j)))]) hx hb dX1_count_96 hl (k := 3) rfl (bb_inc _) (by decide) rfl (fun ls hl => ?_)
      refine lv_goto (tgt := 76) hx hb dX1_count_99 rfl ?_
      have hl : lv_has ls 6 [(0, .ref g0), (1, .int 2), (2, .int (nI (bb_cn (fun k9 => decide (vt k9 ≠ -1)) j))), (3, .int (nI (j + 1)))] := lv_sub hl [1, 2, 3, 0] rfl
      have e1 : (nI (bb_cn (fun k9 => decide (vt k9 ≠ -1)) j)) = nI (bb_cn (fun k9 => decide (vt k9 ≠ -1)) (j + 1)) := by simp [bb_cn, bb_wa, h80, q80, h90]
      have hl : lv_has ls 6 [(0, .ref g0), (1, .int 2), (2, .int (nI (bb_cn (fun k9 => decide (vt k9 ≠ -1)) (j + 1)))), (3, .int (nI (j + 1)))] := by rw [← e1]; exact hl
      exact ihj ls hl
    · skip
      refine lv_iinc (v := nI ((bb_cn (fun k9 => decide (vt k9 ≠ -1)) j) + 1)) (lv' := [(2, .int (nI ((bb_cn (fun k9 => decide (vt k9 ≠ -1)) j) + 1))), (0, .ref g0), (1, .int 2), (3, .int (nI j))]) hx hb dX1_count_93 hl (k := 2) rfl (bb_inc _) (by decide) rfl (fun ls hl => ?_)
      refine lv_iinc (v := nI (j + 1)) (lv' := [(3, .int (nI (j + 1))), (2, .int (nI ((bb_cn (fun k9 => decide (vt k9 ≠ -1)) j) + 1))), (0, .ref g0), (1, .int 2)]) hx hb dX1_count_96 hl (k := 3) rfl (bb_inc _) (by decide) rfl (fun ls hl => ?_)
      refine lv_goto (tgt := 76) hx hb dX1_count_99 rfl ?_
      have hl : lv_has ls 6 [(0, .ref g0), (1, .int 2), (2, .int (nI ((bb_cn (fun k9 => decide (vt k9 ≠ -1)) j) + 1))), (3, .int (nI (j + 1)))] := lv_sub hl [2, 3, 1, 0] rfl
      have e2 : (nI ((bb_cn (fun k9 => decide (vt k9 ≠ -1)) j) + 1)) = nI (bb_cn (fun k9 => decide (vt k9 ≠ -1)) (j + 1)) := by simp [bb_cn, bb_wa, h80, q80, h90]
      have hl : lv_has ls 6 [(0, .ref g0), (1, .int 2), (2, .int (nI (bb_cn (fun k9 => decide (vt k9 ≠ -1)) (j + 1)))), (3, .int (nI (j + 1)))] := by rw [← e2]; exact hl
      exact ihj ls hl
  · skip
    intro ls hI
    have hl := hI
    refine lv_iload_n hx hb dX1_count_76 rfl (lv_at hl 3 rfl) ?_
    refine lv_sipush (v := nI 310) hx hb dX1_count_77 (by decide) ?_
    refine lv_icmp_ge (tgt := 102) hx hb dX1_count_80 rfl (fun h80 => ?_) (fun h80 => absurd (nI_le (Nat.le_refl _) (by decide)) h80)
    have q80 := bb_nlt h80
    refine lv_iload_n hx hb dX1_count_102 rfl (lv_at hl 2 rfl) ?_
    exact W.iret (v := nI (bb_cn (fun k9 => decide (vt k9 ≠ -1)) 310)) hx hb hr (fun t ht _ => ⟨⟨nI (bb_cn (fun k9 => decide (vt k9 ≠ -1)) 310), (), rfl, rfl, by show va_P _ _ _ t.heap; rw [ht]; exact hP⟩, hS.F ht⟩) hS.2.2 dX1_count_103

set_option maxHeartbeats 4000000 in
set_option maxRecDepth 100000 in
theorem r_count_3 (l : Launch) (dC : Nat → ClassId) (dI : Nat → Nat → Nat) (cA : ClassId) (g0 b0 b1 b2 : Nat) (w pr vt : Nat → Int32) (k th : Int32) (sz : Nat)  : Met l yX1_count wsX1_count ({ frames := 2, cells := 0, slots := 0, locals := 47 }) (bb_Pm [.ref g0, .int 3] (dC, dI) vwCl [(g0, .inr (1, [.ref b0, .ref b1, .ref b2, .int k, .int th])), (b0, .inl (cA, 10, .inl w)), (b1, .inl (cA, 10, .inl pr)), (b2, .inl (cA, 310, .inl vt))] [(cA, .int)] sz) (bb_Qm (nI (bb_cn (fun b9 => decide (bb_rch w k vt b9 ≠ -1)) 31)) (dC, dI) vwCl [(g0, .inr (1, [.ref b0, .ref b1, .ref b2, .int k, .int 0])), (b0, .inl (cA, 10, .inl w)), (b1, .inl (cA, 10, .inl pr)), (b2, .inl (cA, 310, .inl vt))] (va_A [(g0, .inr (1, [.ref b0, .ref b1, .ref b2, .int k, .int th])), (b0, .inl (cA, 10, .inl w)), (b1, .inl (cA, 10, .inl pr)), (b2, .inl (cA, 310, .inl vt))] sz)) 0 0 (va_A [(g0, .inr (1, [.ref b0, .ref b1, .ref b2, .int k, .int th])), (b0, .inl (cA, 10, .inl w)), (b1, .inl (cA, 10, .inl pr)), (b2, .inl (cA, 310, .inl vt))] sz) := by
  refine Met.ofW (cc := cX1_count) (maxL := 6) (ret := some .int) (by decide) rfl ?_
  intro p e s m args below meth c s₁ B hml hv
  obtain ⟨rfl, hsz, hP, hK, hD0⟩ := hv
  have hx := B.exec
  have hb := B.bytes
  have hr := B.returns
  have hts := atoms_spec (ws := wsX1_count) B.pre
  have hown : s.vm.findClass RX1 = some m.cls := findClass_of_methodNamed B.named
  have hlocks := B.notSynchronized
  subst hsz
  have hD := hD0.self (sz := s.heap.size)
  generalize hAe : va_A [(g0, .inr (1, [.ref b0, .ref b1, .ref b2, .int k, .int th])), (b0, .inl (cA, 10, .inl w)), (b1, .inl (cA, 10, .inl pr)), (b2, .inl (cA, 310, .inl vt))] s.heap.size = A at hD ⊢
  have hA : ∀ q : Nat, s.heap.size ≤ q → A q := fun q h => by rw [← hAe]; exact Or.inr h
  have hin : ∀ w9 ∈ u_ws RX1 TX1 5, w9 ∈ wsX1_count := fun w9 h9 => List.mem_cons_of_mem _ (bb_inX1 w9 h9)
  have hf9 := hts _ (List.mem_cons_of_mem _ bb_fX1_9)
  have hf16 := hts _ (List.mem_cons_of_mem _ bb_fX1_16)
  have hf19 := hts _ (List.mem_cons_of_mem _ bb_fX1_19)
  have hf23 := hts _ (List.mem_cons_of_mem _ bb_fX1_23)
  have hl := lv_entry ([.ref g0, .int 3]) (n := 6) (Nat.le_of_ble_eq_true rfl)
  rw [lg_entry_eq]
  generalize (lg_sl ([.ref g0, .int 3]) ++ List.replicate (6 - (lg_sl ([.ref g0, .int 3])).length) Slot.unset).toArray = ls at hl ⊢
  have hl : lv_has ls 6 [(0, .ref g0), (1, .int 3)] := hl
  refine bb_gen hP hD (fun H locs hP hD hS => ?_)
  refine lv_aload_n hx hb dX1_count_0 rfl (lv_at hl 0 rfl) ?_
  refine lv_iconst (v := 0) hx hb dX1_count_1 (by decide) ?_
  refine va_put (D := (dC, dI)) (ci := 1) (v := .int 0) (ty := .int) (C := RX1) (T := TX1) (N := 5) hx hb hts hin tyX1 tyX1_ok nX1 hown hK hP hD hS 0 rfl rfl 4 (by decide) hf23 (fun _ h9 => h9) rfl (by decide +kernel) rfl rfl (Nat.le_of_ble_eq_true rfl) dX1_count_2 (fun H locs hP hD hS => ?_)
  have hP : va_P (dC, dI) vwCl [(g0, .inr (1, [.ref b0, .ref b1, .ref b2, .int k, .int 0])), (b0, .inl (cA, 10, .inl w)), (b1, .inl (cA, 10, .inl pr)), (b2, .inl (cA, 310, .inl vt))] H := hP
  have hD : va_D A [(g0, .inr (1, [.ref b0, .ref b1, .ref b2, .int k, .int 0])), (b0, .inl (cA, 10, .inl w)), (b1, .inl (cA, 10, .inl pr)), (b2, .inl (cA, 310, .inl vt))] := hD
  refine lv_iconst (v := 0) hx hb dX1_count_5 (by decide) ?_
  refine lv_istore_n (lv' := [(2, .int 0), (0, .ref g0), (1, .int 3)]) hx hb dX1_count_6 rfl hl (by decide) rfl (fun ls hl => ?_)
  refine lv_iload_n hx hb dX1_count_7 rfl (lv_at hl 2 rfl) ?_
  refine lv_tableIn (off := 96) (tgt := 104) hx hb dX1_count_8 (by decide) (by decide) rfl rfl ?_
  refine lv_iconst (v := 0) hx hb dX1_count_104 (by decide) ?_
  refine lv_istore_n (lv' := [(3, .int 0), (2, .int 0), (0, .ref g0), (1, .int 3)]) hx hb dX1_count_105 rfl hl (by decide) rfl (fun ls hl => ?_)
  have hl : lv_has ls 6 [(0, .ref g0), (1, .int 3), (2, .int 0), (3, .int 0)] := lv_sub hl [2, 3, 1, 0] rfl
  refine bb_forW (pc := 106) (I := fun j9 ls => lv_has ls 6 [(0, .ref g0), (1, .int 3), (2, .int (nI (bb_cn (fun b9 => decide (bb_rch w k vt b9 ≠ -1)) j9))), (3, .int (nI j9))]) 31 ?_ ?_ 0 ls (Nat.zero_le _) hl
  · skip
    intro j ls hj hI ihj
    have hl := hI
    refine lv_iload_n hx hb dX1_count_106 rfl (lv_at hl 3 rfl) ?_
    refine lv_bipush (v := nI 31) hx hb dX1_count_107 (by decide) ?_
    refine lv_icmp_ge (tgt := 130) hx hb dX1_count_109 rfl (fun h109 => absurd h109 (nI_ge hj (by decide))) (fun h109 => ?_)
    have q109 := bb_lt h109
    refine lv_aload_n hx hb dX1_count_112 rfl (lv_at hl 0 rfl) ?_
    refine lv_iload_n hx hb dX1_count_113 rfl (lv_at hl 3 rfl) ?_
    refine bb_cV (As := [.int (nI j)]) (rest := []) (r := bb_rch w k vt j) 0 ⟨hx, hb, hml, hown, hts⟩ (m_isChosen l dC dI cA g0 b0 b1 b2 w pr vt k 0 j (by omega)) (cwV 1 hts gX1_count_X1_isChosen rfl rfl rfl (by decide +kernel) ⟨Nat.le_of_ble_eq_true rfl, Nat.le_of_ble_eq_true rfl⟩) hP hK rfl rfl rfl hl.1 rfl (Nat.le_of_ble_eq_true rfl) dX1_count_114 (Nat.zero_le _) (Nat.zero_le _) ?_
    refine lv_iconst (v := (-1)) hx hb dX1_count_117 (by decide) ?_
    refine lv_icmp_eq (tgt := 124) hx hb dX1_count_118 rfl (fun h118 => ?_) (fun h118 => ?_)
    · skip
      refine lv_iinc (v := nI (j + 1)) (lv' := [(3, .int (nI (j + 1))), (0, .ref g0), (1, .int 3), (2, .int (nI (bb_cn (fun b9 => decide (bb_rch w k vt b9 ≠ -1)) j)))]) hx hb dX1_count_124 hl (k := 3) rfl (bb_inc _) (by decide) rfl (fun ls hl => ?_)
      refine lv_goto (tgt := 106) hx hb dX1_count_127 rfl ?_
      have hl : lv_has ls 6 [(0, .ref g0), (1, .int 3), (2, .int (nI (bb_cn (fun b9 => decide (bb_rch w k vt b9 ≠ -1)) j))), (3, .int (nI (j + 1)))] := lv_sub hl [1, 2, 3, 0] rfl
      have e1 : (nI (bb_cn (fun b9 => decide (bb_rch w k vt b9 ≠ -1)) j)) = nI (bb_cn (fun b9 => decide (bb_rch w k vt b9 ≠ -1)) (j + 1)) := by simp [bb_cn, bb_wa, h109, q109, h118]
      have hl : lv_has ls 6 [(0, .ref g0), (1, .int 3), (2, .int (nI (bb_cn (fun b9 => decide (bb_rch w k vt b9 ≠ -1)) (j + 1)))), (3, .int (nI (j + 1)))] := by rw [← e1]; exact hl
      exact ihj ls hl
    · skip
      refine lv_iinc (v := nI ((bb_cn (fun b9 => decide (bb_rch w k vt b9 ≠ -1)) j) + 1)) (lv' := [(2, .int (nI ((bb_cn (fun b9 => decide (bb_rch w k vt b9 ≠ -1)) j) + 1))), (0, .ref g0), (1, .int 3), (3, .int (nI j))]) hx hb dX1_count_121 hl (k := 2) rfl (bb_inc _) (by decide) rfl (fun ls hl => ?_)
      refine lv_iinc (v := nI (j + 1)) (lv' := [(3, .int (nI (j + 1))), (2, .int (nI ((bb_cn (fun b9 => decide (bb_rch w k vt b9 ≠ -1)) j) + 1))), (0, .ref g0), (1, .int 3)]) hx hb dX1_count_124 hl (k := 3) rfl (bb_inc _) (by decide) rfl (fun ls hl => ?_)
      refine lv_goto (tgt := 106) hx hb dX1_count_127 rfl ?_
      have hl : lv_has ls 6 [(0, .ref g0), (1, .int 3), (2, .int (nI ((bb_cn (fun b9 => decide (bb_rch w k vt b9 ≠ -1)) j) + 1))), (3, .int (nI (j + 1)))] := lv_sub hl [2, 3, 1, 0] rfl
      have e2 : (nI ((bb_cn (fun b9 => decide (bb_rch w k vt b9 ≠ -1)) j) + 1)) = nI (bb_cn (fun b9 => decide (bb_rch w k vt b9 ≠ -1)) (j + 1)) := by simp [bb_cn, bb_wa, h109, q109, h118]
      have hl : lv_has ls 6 [(0, .ref g0), (1, .int 3), (2, .int (nI (bb_cn (fun b9 => decide (bb_rch w k vt b9 ≠ -1)) (j + 1)))), (3, .int (nI (j + 1)))] := by rw [← e2]; exact hl
      exact ihj ls hl
  · skip
    intro ls hI
    have hl := hI
    refine lv_iload_n hx hb dX1_count_106 rfl (lv_at hl 3 rfl) ?_
    refine lv_bipush (v := nI 31) hx hb dX1_count_107 (by decide) ?_
    refine lv_icmp_ge (tgt := 130) hx hb dX1_count_109 rfl (fun h109 => ?_) (fun h109 => absurd (nI_le (Nat.le_refl _) (by decide)) h109)
    have q109 := bb_nlt h109
    refine lv_iload_n hx hb dX1_count_130 rfl (lv_at hl 2 rfl) ?_
    exact W.iret (v := nI (bb_cn (fun b9 => decide (bb_rch w k vt b9 ≠ -1)) 31)) hx hb hr (fun t ht _ => ⟨⟨nI (bb_cn (fun b9 => decide (bb_rch w k vt b9 ≠ -1)) 31), (), rfl, rfl, by show va_P _ _ _ t.heap; rw [ht]; exact hP⟩, hS.F ht⟩) hS.2.2 dX1_count_131

set_option maxHeartbeats 4000000 in
set_option maxRecDepth 100000 in
theorem r_count_4 (l : Launch) (dC : Nat → ClassId) (dI : Nat → Nat → Nat) (cA : ClassId) (g0 b0 b1 b2 : Nat) (w pr vt : Nat → Int32) (k th : Int32) (sz : Nat)  : Met l yX1_count wsX1_count ({ frames := 2, cells := 0, slots := 0, locals := 47 }) (bb_Pm [.ref g0, .int 4] (dC, dI) vwCl [(g0, .inr (1, [.ref b0, .ref b1, .ref b2, .int k, .int th])), (b0, .inl (cA, 10, .inl w)), (b1, .inl (cA, 10, .inl pr)), (b2, .inl (cA, 310, .inl vt))] [(cA, .int)] sz) (bb_Qm (nI (bb_cn (fun v9 => bb_ex (fun b9 => decide (bb_rch w k vt b9 = nI v9)) 31) 10)) (dC, dI) vwCl [(g0, .inr (1, [.ref b0, .ref b1, .ref b2, .int k, .int 0])), (b0, .inl (cA, 10, .inl w)), (b1, .inl (cA, 10, .inl pr)), (b2, .inl (cA, 310, .inl vt))] (va_A [(g0, .inr (1, [.ref b0, .ref b1, .ref b2, .int k, .int th])), (b0, .inl (cA, 10, .inl w)), (b1, .inl (cA, 10, .inl pr)), (b2, .inl (cA, 310, .inl vt))] sz)) 0 0 (va_A [(g0, .inr (1, [.ref b0, .ref b1, .ref b2, .int k, .int th])), (b0, .inl (cA, 10, .inl w)), (b1, .inl (cA, 10, .inl pr)), (b2, .inl (cA, 310, .inl vt))] sz) := by
  refine Met.ofW (cc := cX1_count) (maxL := 6) (ret := some .int) (by decide) rfl ?_
  intro p e s m args below meth c s₁ B hml hv
  obtain ⟨rfl, hsz, hP, hK, hD0⟩ := hv
  have hx := B.exec
  have hb := B.bytes
  have hr := B.returns
  have hts := atoms_spec (ws := wsX1_count) B.pre
  have hown : s.vm.findClass RX1 = some m.cls := findClass_of_methodNamed B.named
  have hlocks := B.notSynchronized
  subst hsz
  have hD := hD0.self (sz := s.heap.size)
  generalize hAe : va_A [(g0, .inr (1, [.ref b0, .ref b1, .ref b2, .int k, .int th])), (b0, .inl (cA, 10, .inl w)), (b1, .inl (cA, 10, .inl pr)), (b2, .inl (cA, 310, .inl vt))] s.heap.size = A at hD ⊢
  have hA : ∀ q : Nat, s.heap.size ≤ q → A q := fun q h => by rw [← hAe]; exact Or.inr h
  have hin : ∀ w9 ∈ u_ws RX1 TX1 5, w9 ∈ wsX1_count := fun w9 h9 => List.mem_cons_of_mem _ (bb_inX1 w9 h9)
  have hf9 := hts _ (List.mem_cons_of_mem _ bb_fX1_9)
  have hf16 := hts _ (List.mem_cons_of_mem _ bb_fX1_16)
  have hf19 := hts _ (List.mem_cons_of_mem _ bb_fX1_19)
  have hf23 := hts _ (List.mem_cons_of_mem _ bb_fX1_23)
  have hl := lv_entry ([.ref g0, .int 4]) (n := 6) (Nat.le_of_ble_eq_true rfl)
  rw [lg_entry_eq]
  generalize (lg_sl ([.ref g0, .int 4]) ++ List.replicate (6 - (lg_sl ([.ref g0, .int 4])).length) Slot.unset).toArray = ls at hl ⊢
  have hl : lv_has ls 6 [(0, .ref g0), (1, .int 4)] := hl
  refine bb_gen hP hD (fun H locs hP hD hS => ?_)
  refine lv_aload_n hx hb dX1_count_0 rfl (lv_at hl 0 rfl) ?_
  refine lv_iconst (v := 0) hx hb dX1_count_1 (by decide) ?_
  refine va_put (D := (dC, dI)) (ci := 1) (v := .int 0) (ty := .int) (C := RX1) (T := TX1) (N := 5) hx hb hts hin tyX1 tyX1_ok nX1 hown hK hP hD hS 0 rfl rfl 4 (by decide) hf23 (fun _ h9 => h9) rfl (by decide +kernel) rfl rfl (Nat.le_of_ble_eq_true rfl) dX1_count_2 (fun H locs hP hD hS => ?_)
  have hP : va_P (dC, dI) vwCl [(g0, .inr (1, [.ref b0, .ref b1, .ref b2, .int k, .int 0])), (b0, .inl (cA, 10, .inl w)), (b1, .inl (cA, 10, .inl pr)), (b2, .inl (cA, 310, .inl vt))] H := hP
  have hD : va_D A [(g0, .inr (1, [.ref b0, .ref b1, .ref b2, .int k, .int 0])), (b0, .inl (cA, 10, .inl w)), (b1, .inl (cA, 10, .inl pr)), (b2, .inl (cA, 310, .inl vt))] := hD
  refine lv_iconst (v := 0) hx hb dX1_count_5 (by decide) ?_
  refine lv_istore_n (lv' := [(2, .int 0), (0, .ref g0), (1, .int 4)]) hx hb dX1_count_6 rfl hl (by decide) rfl (fun ls hl => ?_)
  refine lv_iload_n hx hb dX1_count_7 rfl (lv_at hl 2 rfl) ?_
  refine lv_tableIn (off := 124) (tgt := 132) hx hb dX1_count_8 (by decide) (by decide) rfl rfl ?_
  refine lv_iconst (v := 0) hx hb dX1_count_132 (by decide) ?_
  refine lv_istore_n (lv' := [(3, .int 0), (2, .int 0), (0, .ref g0), (1, .int 4)]) hx hb dX1_count_133 rfl hl (by decide) rfl (fun ls hl => ?_)
  have hl : lv_has ls 6 [(0, .ref g0), (1, .int 4), (2, .int 0), (3, .int 0)] := lv_sub hl [2, 3, 1, 0] rfl
  refine bb_forW (pc := 134) (I := fun j9 ls => lv_has ls 6 [(0, .ref g0), (1, .int 4), (2, .int (nI (bb_cn (fun v9 => bb_ex (fun b9 => decide (bb_rch w k vt b9 = nI v9)) 31) j9))), (3, .int (nI j9))]) 10 ?_ ?_ 0 ls (Nat.zero_le _) hl
  · skip
    intro j ls hj hI ihj
    have hl := hI
    refine lv_iload_n hx hb dX1_count_134 rfl (lv_at hl 3 rfl) ?_
    refine lv_bipush (v := nI 10) hx hb dX1_count_135 (by decide) ?_
    refine lv_icmp_ge (tgt := 193) hx hb dX1_count_137 rfl (fun h137 => absurd h137 (nI_ge hj (by decide))) (fun h137 => ?_)
    have q137 := bb_lt h137
    refine lv_iconst (v := 0) hx hb dX1_count_140 (by decide) ?_
    refine lv_istore (lv' := [(4, .int 0), (0, .ref g0), (1, .int 4), (2, .int (nI (bb_cn (fun v9 => bb_ex (fun b9 => decide (bb_rch w k vt b9 = nI v9)) 31) j))), (3, .int (nI j))]) hx hb dX1_count_141 hl (by decide) rfl (fun ls hl => ?_)
    refine lv_iconst (v := 0) hx hb dX1_count_143 (by decide) ?_
    refine lv_istore (lv' := [(5, .int 0), (4, .int 0), (0, .ref g0), (1, .int 4), (2, .int (nI (bb_cn (fun v9 => bb_ex (fun b9 => decide (bb_rch w k vt b9 = nI v9)) 31) j))), (3, .int (nI j))]) hx hb dX1_count_144 hl (by decide) rfl (fun ls hl => ?_)
    have hl : lv_has ls 6 [(0, .ref g0), (1, .int 4), (2, .int (nI (bb_cn (fun v9 => bb_ex (fun b9 => decide (bb_rch w k vt b9 = nI v9)) 31) j))), (3, .int (nI j)), (4, .int 0), (5, .int 0)] := lv_sub hl [2, 3, 4, 5, 1, 0] rfl
    refine bb_forW (pc := 146) (I := fun j9 ls => lv_has ls 6 [(0, .ref g0), (1, .int 4), (2, .int (nI (bb_cn (fun v9 => bb_ex (fun b9 => decide (bb_rch w k vt b9 = nI v9)) 31) j))), (3, .int (nI j)), (4, .int (bb_I (bb_ex (fun b9 => decide (bb_rch w k vt b9 = nI j)) j9))), (5, .int (nI j9))]) 31 ?_ ?_ 0 ls (Nat.zero_le _) hl
    · skip
      intro i ls hi hI ihi
      have hl := hI
      refine lv_iload hx hb dX1_count_146 (lv_at hl 5 rfl) ?_
      refine lv_bipush (v := nI 31) hx hb dX1_count_148 (by decide) ?_
      refine lv_icmp_ge (tgt := 179) hx hb dX1_count_150 rfl (fun h150 => absurd h150 (nI_ge hi (by decide))) (fun h150 => ?_)
      have q150 := bb_lt h150
      refine lv_iload hx hb dX1_count_153 (lv_at hl 4 rfl) ?_
      refine lv_aload_n hx hb dX1_count_155 rfl (lv_at hl 0 rfl) ?_
      refine lv_iload hx hb dX1_count_156 (lv_at hl 5 rfl) ?_
      refine bb_cV (As := [.int (nI i)]) (rest := [.int (bb_I (bb_ex (fun b9 => decide (bb_rch w k vt b9 = nI j)) i))]) (r := bb_rch w k vt i) 0 ⟨hx, hb, hml, hown, hts⟩ (m_isChosen l dC dI cA g0 b0 b1 b2 w pr vt k 0 i (by omega)) (cwV 1 hts gX1_count_X1_isChosen rfl rfl rfl (by decide +kernel) ⟨Nat.le_of_ble_eq_true rfl, Nat.le_of_ble_eq_true rfl⟩) hP hK rfl rfl rfl hl.1 rfl (Nat.le_of_ble_eq_true rfl) dX1_count_158 (Nat.zero_le _) (Nat.zero_le _) ?_
      refine lv_iload_n hx hb dX1_count_161 rfl (lv_at hl 3 rfl) ?_
      refine lv_icmp_ne (tgt := 169) hx hb dX1_count_162 rfl (fun h162 => ?_) (fun h162 => ?_)
      · skip
        refine lv_iconst (v := 0) hx hb dX1_count_169 (by decide) ?_
        refine lv_ior hx hb dX1_count_170 ?_
        refine lv_istore (lv' := [(4, .int ((bb_I (bb_ex (fun b9 => decide (bb_rch w k vt b9 = nI j)) i)) ||| 0)), (0, .ref g0), (1, .int 4), (2, .int (nI (bb_cn (fun v9 => bb_ex (fun b9 => decide (bb_rch w k vt b9 = nI v9)) 31) j))), (3, .int (nI j)), (5, .int (nI i))]) hx hb dX1_count_171 hl (by decide) rfl (fun ls hl => ?_)
        refine lv_iinc (v := nI (i + 1)) (lv' := [(5, .int (nI (i + 1))), (4, .int ((bb_I (bb_ex (fun b9 => decide (bb_rch w k vt b9 = nI j)) i)) ||| 0)), (0, .ref g0), (1, .int 4), (2, .int (nI (bb_cn (fun v9 => bb_ex (fun b9 => decide (bb_rch w k vt b9 = nI v9)) 31) j))), (3, .int (nI j))]) hx hb dX1_count_173 hl (k := 5) rfl (bb_inc _) (by decide) rfl (fun ls hl => ?_)
        refine lv_goto (tgt := 146) hx hb dX1_count_176 rfl ?_
        have hl : lv_has ls 6 [(0, .ref g0), (1, .int 4), (2, .int (nI (bb_cn (fun v9 => bb_ex (fun b9 => decide (bb_rch w k vt b9 = nI v9)) 31) j))), (3, .int (nI j)), (4, .int ((bb_I (bb_ex (fun b9 => decide (bb_rch w k vt b9 = nI j)) i)) ||| 0)), (5, .int (nI (i + 1)))] := lv_sub hl [2, 3, 4, 5, 1, 0] rfl
        have e1 : ((bb_I (bb_ex (fun b9 => decide (bb_rch w k vt b9 = nI j)) i)) ||| 0) = bb_I (bb_ex (fun b9 => decide (bb_rch w k vt b9 = nI j)) (i + 1)) := by simp [bb_ex, bb_or1, bb_or0, bb_I_t, h137, q137, h150, q150, h162]
        have hl : lv_has ls 6 [(0, .ref g0), (1, .int 4), (2, .int (nI (bb_cn (fun v9 => bb_ex (fun b9 => decide (bb_rch w k vt b9 = nI v9)) 31) j))), (3, .int (nI j)), (4, .int (bb_I (bb_ex (fun b9 => decide (bb_rch w k vt b9 = nI j)) (i + 1)))), (5, .int (nI (i + 1)))] := by rw [← e1]; exact hl
        exact ihi ls hl
      · skip
        refine lv_iconst (v := 1) hx hb dX1_count_165 (by decide) ?_
        refine lv_goto (tgt := 170) hx hb dX1_count_166 rfl ?_
        refine lv_ior hx hb dX1_count_170 ?_
        refine lv_istore (lv' := [(4, .int ((bb_I (bb_ex (fun b9 => decide (bb_rch w k vt b9 = nI j)) i)) ||| 1)), (0, .ref g0), (1, .int 4), (2, .int (nI (bb_cn (fun v9 => bb_ex (fun b9 => decide (bb_rch w k vt b9 = nI v9)) 31) j))), (3, .int (nI j)), (5, .int (nI i))]) hx hb dX1_count_171 hl (by decide) rfl (fun ls hl => ?_)
        refine lv_iinc (v := nI (i + 1)) (lv' := [(5, .int (nI (i + 1))), (4, .int ((bb_I (bb_ex (fun b9 => decide (bb_rch w k vt b9 = nI j)) i)) ||| 1)), (0, .ref g0), (1, .int 4), (2, .int (nI (bb_cn (fun v9 => bb_ex (fun b9 => decide (bb_rch w k vt b9 = nI v9)) 31) j))), (3, .int (nI j))]) hx hb dX1_count_173 hl (k := 5) rfl (bb_inc _) (by decide) rfl (fun ls hl => ?_)
        refine lv_goto (tgt := 146) hx hb dX1_count_176 rfl ?_
        have hl : lv_has ls 6 [(0, .ref g0), (1, .int 4), (2, .int (nI (bb_cn (fun v9 => bb_ex (fun b9 => decide (bb_rch w k vt b9 = nI v9)) 31) j))), (3, .int (nI j)), (4, .int ((bb_I (bb_ex (fun b9 => decide (bb_rch w k vt b9 = nI j)) i)) ||| 1)), (5, .int (nI (i + 1)))] := lv_sub hl [2, 3, 4, 5, 1, 0] rfl
        have e2 : ((bb_I (bb_ex (fun b9 => decide (bb_rch w k vt b9 = nI j)) i)) ||| 1) = bb_I (bb_ex (fun b9 => decide (bb_rch w k vt b9 = nI j)) (i + 1)) := by simp [bb_ex, bb_or1, bb_or0, bb_I_t, h137, q137, h150, q150, h162]
        have hl : lv_has ls 6 [(0, .ref g0), (1, .int 4), (2, .int (nI (bb_cn (fun v9 => bb_ex (fun b9 => decide (bb_rch w k vt b9 = nI v9)) 31) j))), (3, .int (nI j)), (4, .int (bb_I (bb_ex (fun b9 => decide (bb_rch w k vt b9 = nI j)) (i + 1)))), (5, .int (nI (i + 1)))] := by rw [← e2]; exact hl
        exact ihi ls hl
    · skip
      intro ls hI
      have hl := hI
      refine lv_iload hx hb dX1_count_146 (lv_at hl 5 rfl) ?_
      refine lv_bipush (v := nI 31) hx hb dX1_count_148 (by decide) ?_
      refine lv_icmp_ge (tgt := 179) hx hb dX1_count_150 rfl (fun h150 => ?_) (fun h150 => absurd (nI_le (Nat.le_refl _) (by decide)) h150)
      have q150 := bb_nlt h150
      refine lv_iload hx hb dX1_count_179 (lv_at hl 4 rfl) ?_
      refine lv_if_eq (tgt := 187) hx hb dX1_count_181 rfl (fun h181 => ?_) (fun h181 => ?_)
      · skip
        have q181 := bb_I_0.mp h181
        refine lv_iinc (v := nI (j + 1)) (lv' := [(3, .int (nI (j + 1))), (0, .ref g0), (1, .int 4), (2, .int (nI (bb_cn (fun v9 => bb_ex (fun b9 => decide (bb_rch w k vt b9 = nI v9)) 31) j))), (4, .int (bb_I (bb_ex (fun b9 => decide (bb_rch w k vt b9 = nI j)) 31))), (5, .int (nI 31))]) hx hb dX1_count_187 hl (k := 3) rfl (bb_inc _) (by decide) rfl (fun ls hl => ?_)
        refine lv_goto (tgt := 134) hx hb dX1_count_190 rfl ?_
        have hl : lv_has ls 6 [(0, .ref g0), (1, .int 4), (2, .int (nI (bb_cn (fun v9 => bb_ex (fun b9 => decide (bb_rch w k vt b9 = nI v9)) 31) j))), (3, .int (nI (j + 1)))] := lv_sub hl [1, 2, 3, 0] rfl
        have e3 : (nI (bb_cn (fun v9 => bb_ex (fun b9 => decide (bb_rch w k vt b9 = nI v9)) 31) j)) = nI (bb_cn (fun v9 => bb_ex (fun b9 => decide (bb_rch w k vt b9 = nI v9)) 31) (j + 1)) := by simp [bb_cn, bb_wa, h137, q137, h150, q150, h181, q181]
        have hl : lv_has ls 6 [(0, .ref g0), (1, .int 4), (2, .int (nI (bb_cn (fun v9 => bb_ex (fun b9 => decide (bb_rch w k vt b9 = nI v9)) 31) (j + 1)))), (3, .int (nI (j + 1)))] := by rw [← e3]; exact hl
        exact ihj ls hl
      · skip
        have q181 := bb_nz h181
        refine lv_iinc (v := nI ((bb_cn (fun v9 => bb_ex (fun b9 => decide (bb_rch w k vt b9 = nI v9)) 31) j) + 1)) (lv' := [(2, .int (nI ((bb_cn (fun v9 => bb_ex (fun b9 => decide (bb_rch w k vt b9 = nI v9)) 31) j) + 1))), (0, .ref g0), (1, .int 4), (3, .int (nI j)), (4, .int (bb_I (bb_ex (fun b9 => decide (bb_rch w k vt b9 = nI j)) 31))), (5, .int (nI 31))]) hx hb dX1_count_184 hl (k := 2) rfl (bb_inc _) (by decide) rfl (fun ls hl => ?_)
        refine lv_iinc (v := nI (j + 1)) (lv' := [(3, .int (nI (j + 1))), (2, .int (nI ((bb_cn (fun v9 => bb_ex (fun b9 => decide (bb_rch w k vt b9 = nI v9)) 31) j) + 1))), (0, .ref g0), (1, .int 4), (4, .int (bb_I (bb_ex (fun b9 => decide (bb_rch w k vt b9 = nI j)) 31))), (5, .int (nI 31))]) hx hb dX1_count_187 hl (k := 3) rfl (bb_inc _) (by decide) rfl (fun ls hl => ?_)
        refine lv_goto (tgt := 134) hx hb dX1_count_190 rfl ?_
        have hl : lv_has ls 6 [(0, .ref g0), (1, .int 4), (2, .int (nI ((bb_cn (fun v9 => bb_ex (fun b9 => decide (bb_rch w k vt b9 = nI v9)) 31) j) + 1))), (3, .int (nI (j + 1)))] := lv_sub hl [2, 3, 1, 0] rfl
        have e4 : (nI ((bb_cn (fun v9 => bb_ex (fun b9 => decide (bb_rch w k vt b9 = nI v9)) 31) j) + 1)) = nI (bb_cn (fun v9 => bb_ex (fun b9 => decide (bb_rch w k vt b9 = nI v9)) 31) (j + 1)) := by simp [bb_cn, bb_wa, h137, q137, h150, q150, h181, q181]
        have hl : lv_has ls 6 [(0, .ref g0), (1, .int 4), (2, .int (nI (bb_cn (fun v9 => bb_ex (fun b9 => decide (bb_rch w k vt b9 = nI v9)) 31) (j + 1)))), (3, .int (nI (j + 1)))] := by rw [← e4]; exact hl
        exact ihj ls hl
  · skip
    intro ls hI
    have hl := hI
    refine lv_iload_n hx hb dX1_count_134 rfl (lv_at hl 3 rfl) ?_
    refine lv_bipush (v := nI 10) hx hb dX1_count_135 (by decide) ?_
    refine lv_icmp_ge (tgt := 193) hx hb dX1_count_137 rfl (fun h137 => ?_) (fun h137 => absurd (nI_le (Nat.le_refl _) (by decide)) h137)
    have q137 := bb_nlt h137
    refine lv_iload_n hx hb dX1_count_193 rfl (lv_at hl 2 rfl) ?_
    exact W.iret (v := nI (bb_cn (fun v9 => bb_ex (fun b9 => decide (bb_rch w k vt b9 = nI v9)) 31) 10)) hx hb hr (fun t ht _ => ⟨⟨nI (bb_cn (fun v9 => bb_ex (fun b9 => decide (bb_rch w k vt b9 = nI v9)) 31) 10), (), rfl, rfl, by show va_P _ _ _ t.heap; rw [ht]; exact hP⟩, hS.F ht⟩) hS.2.2 dX1_count_194

set_option maxHeartbeats 4000000 in
set_option maxRecDepth 100000 in
theorem r_count_x (l : Launch) (dC : Nat → ClassId) (dI : Nat → Nat → Nat) (cA : ClassId) (g0 b0 b1 b2 : Nat) (w pr vt : Nat → Int32) (k th : Int32) (sz : Nat) (x0 : Int32) (hbad : x0.toInt < 0 ∨ 4 < x0.toInt) : Met l yX1_count wsX1_count ({ frames := 2, cells := 0, slots := 0, locals := 47 }) (bb_Pm [.ref g0, .int x0] (dC, dI) vwCl [(g0, .inr (1, [.ref b0, .ref b1, .ref b2, .int k, .int th])), (b0, .inl (cA, 10, .inl w)), (b1, .inl (cA, 10, .inl pr)), (b2, .inl (cA, 310, .inl vt))] [(cA, .int)] sz) (bb_Qm ((-1)) (dC, dI) vwCl [(g0, .inr (1, [.ref b0, .ref b1, .ref b2, .int k, .int 0])), (b0, .inl (cA, 10, .inl w)), (b1, .inl (cA, 10, .inl pr)), (b2, .inl (cA, 310, .inl vt))] (va_A [(g0, .inr (1, [.ref b0, .ref b1, .ref b2, .int k, .int th])), (b0, .inl (cA, 10, .inl w)), (b1, .inl (cA, 10, .inl pr)), (b2, .inl (cA, 310, .inl vt))] sz)) 0 0 (va_A [(g0, .inr (1, [.ref b0, .ref b1, .ref b2, .int k, .int th])), (b0, .inl (cA, 10, .inl w)), (b1, .inl (cA, 10, .inl pr)), (b2, .inl (cA, 310, .inl vt))] sz) := by
  refine Met.ofW (cc := cX1_count) (maxL := 6) (ret := some .int) (by decide) rfl ?_
  intro p e s m args below meth c s₁ B hml hv
  obtain ⟨rfl, hsz, hP, hK, hD0⟩ := hv
  have hx := B.exec
  have hb := B.bytes
  have hr := B.returns
  have hts := atoms_spec (ws := wsX1_count) B.pre
  have hown : s.vm.findClass RX1 = some m.cls := findClass_of_methodNamed B.named
  have hlocks := B.notSynchronized
  subst hsz
  have hD := hD0.self (sz := s.heap.size)
  generalize hAe : va_A [(g0, .inr (1, [.ref b0, .ref b1, .ref b2, .int k, .int th])), (b0, .inl (cA, 10, .inl w)), (b1, .inl (cA, 10, .inl pr)), (b2, .inl (cA, 310, .inl vt))] s.heap.size = A at hD ⊢
  have hA : ∀ q : Nat, s.heap.size ≤ q → A q := fun q h => by rw [← hAe]; exact Or.inr h
  have hin : ∀ w9 ∈ u_ws RX1 TX1 5, w9 ∈ wsX1_count := fun w9 h9 => List.mem_cons_of_mem _ (bb_inX1 w9 h9)
  have hf23 := hts _ (List.mem_cons_of_mem _ bb_fX1_23)
  have hl := lv_entry ([.ref g0, .int x0]) (n := 6) (Nat.le_of_ble_eq_true rfl)
  rw [lg_entry_eq]
  generalize (lg_sl ([.ref g0, .int x0]) ++ List.replicate (6 - (lg_sl ([.ref g0, .int x0])).length) Slot.unset).toArray = ls at hl ⊢
  have hl : lv_has ls 6 [(0, .ref g0), (1, .int x0)] := hl
  refine bb_gen hP hD (fun H locs hP hD hS => ?_)
  refine lv_aload_n hx hb dX1_count_0 rfl (lv_at hl 0 rfl) ?_
  refine lv_iconst (v := 0) hx hb dX1_count_1 (by decide) ?_
  refine va_put (D := (dC, dI)) (ci := 1) (v := .int 0) (ty := .int) (C := RX1) (T := TX1) (N := 5) hx hb hts hin tyX1 tyX1_ok nX1 hown hK hP hD hS 0 rfl rfl 4 (by decide) hf23 (fun _ h9 => h9) rfl (by decide +kernel) rfl rfl (Nat.le_of_ble_eq_true rfl) dX1_count_2 (fun H locs hP hD hS => ?_)
  have hP : va_P (dC, dI) vwCl [(g0, .inr (1, [.ref b0, .ref b1, .ref b2, .int k, .int 0])), (b0, .inl (cA, 10, .inl w)), (b1, .inl (cA, 10, .inl pr)), (b2, .inl (cA, 310, .inl vt))] H := hP
  have hD : va_D A [(g0, .inr (1, [.ref b0, .ref b1, .ref b2, .int k, .int 0])), (b0, .inl (cA, 10, .inl w)), (b1, .inl (cA, 10, .inl pr)), (b2, .inl (cA, 310, .inl vt))] := hD
  refine lv_iconst (v := 0) hx hb dX1_count_5 (by decide) ?_
  refine lv_istore_n (lv' := [(2, .int 0), (0, .ref g0), (1, .int x0)]) hx hb dX1_count_6 rfl hl (by decide) rfl (fun ls hl => ?_)
  refine lv_iload_n hx hb dX1_count_7 rfl (lv_at hl 2 rfl) ?_
  refine lv_tableOut (tgt := 195) hx hb dX1_count_8 (hbad) rfl ?_
  refine lv_iconst (v := (-1)) hx hb dX1_count_195 (by decide) ?_
  exact W.iret (v := (-1)) hx hb hr (fun t ht _ => ⟨⟨(-1), (), rfl, rfl, by show va_P _ _ _ t.heap; rw [ht]; exact hP⟩, hS.F ht⟩) hS.2.2 dX1_count_196
