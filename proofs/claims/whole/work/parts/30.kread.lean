abbrev bb_C (h0 a0 a1 a2 a3 : Nat) (cA : ClassId) (w pr vo vf : Nat → Int32) (k : Int32) : va_W := [(h0, .inr (0, [.ref a0, .ref a1, .ref a2, .ref a3, .int k])), (a0, .inl (cA, 10, .inl w)), (a1, .inl (cA, 10, .inl pr)), (a2, .inl (cA, 31, .inl vo)), (a3, .inl (cA, 31, .inl vf))]

set_option maxHeartbeats 4000000 in
set_option maxRecDepth 100000 in
theorem k_holds (l : Launch)  (x : Int32) (j0 : Nat) : Met l yX0_holds wsX0_holds ({ frames := 0, cells := 0, slots := 0, locals := 0 }) (va_Pc [.int x, .int (nI j0)] (fun _ => True)) (QcRead (bb_I (bb_hb x j0))) 0 0 (fun _ => False) := by
  refine Met.ofW (cc := cX0_holds) (maxL := 2) (ret := some .boolean) (by decide) rfl ?_
  intro p e s m args below meth c s₁ B hml hv
  obtain ⟨rfl, -⟩ := hv
  have hx := B.exec
  have hb := B.bytes
  have hr := B.returns
  have hts := atoms_spec (ws := wsX0_holds) B.pre
  have hown : s.vm.findClass RX0 = some m.cls := findClass_of_methodNamed B.named
  have hlocks := B.notSynchronized
  have hl := lv_entry ([.int x, .int (nI j0)]) (n := 2) (Nat.le_of_ble_eq_true rfl)
  rw [lg_entry_eq]
  generalize (lg_sl ([.int x, .int (nI j0)]) ++ List.replicate (2 - (lg_sl ([.int x, .int (nI j0)])).length) Slot.unset).toArray = ls at hl ⊢
  have hl : lv_has ls 2 [(0, .int x), (1, .int (nI j0))] := hl
  refine lv_iload_n hx hb dX0_holds_0 rfl (lv_at hl 0 rfl) ?_
  refine lv_iload_n hx hb dX0_holds_1 rfl (lv_at hl 1 rfl) ?_
  refine lv_ishr hx hb dX0_holds_2 ?_
  refine lv_iconst (v := 1) hx hb dX0_holds_3 (by decide) ?_
  refine lv_iand hx hb dX0_holds_4 ?_
  refine lv_iconst (v := 1) hx hb dX0_holds_5 (by decide) ?_
  refine lv_icmp_ne (tgt := 13) hx hb dX0_holds_6 rfl (fun h6 => ?_) (fun h6 => ?_)
  · skip
    refine lv_iconst (v := 0) hx hb dX0_holds_13 (by decide) ?_
    have er : bb_I (bb_hb x j0) = 0 := by simp [bb_I, bb_hb, h6]
    exact W.zret (v := 0) hx hb hr bb_z0 (fun t ht _ => ⟨by rw [er], ht⟩) (fun _ h => nomatch h) dX0_holds_14
  · skip
    refine lv_iconst (v := 1) hx hb dX0_holds_9 (by decide) ?_
    refine lv_goto (tgt := 14) hx hb dX0_holds_10 rfl ?_
    have er : bb_I (bb_hb x j0) = 1 := by simp [bb_I, bb_hb, h6]
    exact W.zret (v := 1) hx hb hr bb_z1 (fun t ht _ => ⟨by rw [er], ht⟩) (fun _ h => nomatch h) dX0_holds_14

set_option maxHeartbeats 4000000 in
set_option maxRecDepth 100000 in
theorem k_bitCount (l : Launch)  (x : Int32) : Met l yJ_bitCount wsJ_bitCount ({ frames := 0, cells := 0, slots := 0, locals := 0 }) (va_Pc [.int x] (fun _ => True)) (QcRead (bb_bc x)) 0 0 (fun _ => False) := by
  refine Met.ofW (cc := cJ_bitCount) (maxL := 1) (ret := some .int) (by decide) rfl ?_
  intro p e s m args below meth c s₁ B hml hv
  obtain ⟨rfl, -⟩ := hv
  have hx := B.exec
  have hb := B.bytes
  have hr := B.returns
  have hts := atoms_spec (ws := wsJ_bitCount) B.pre
  have hown : s.vm.findClass RJ = some m.cls := findClass_of_methodNamed B.named
  have hlocks := B.notSynchronized
  have hl := lv_entry ([.int x]) (n := 1) (Nat.le_of_ble_eq_true rfl)
  rw [lg_entry_eq]
  generalize (lg_sl ([.int x]) ++ List.replicate (1 - (lg_sl ([.int x])).length) Slot.unset).toArray = ls at hl ⊢
  have hl : lv_has ls 1 [(0, .int x)] := hl
  refine lv_iload_n hx hb dJ_bitCount_0 rfl (lv_at hl 0 rfl) ?_
  refine lv_iload_n hx hb dJ_bitCount_1 rfl (lv_at hl 0 rfl) ?_
  refine lv_iconst (v := 1) hx hb dJ_bitCount_2 (by decide) ?_
  refine lv_iushr (v := bb_ur x 1) hx hb dJ_bitCount_3 rfl ?_
  refine lv_ldcw (v := 1431655765) hx hb hown (hts _ (List.mem_cons_of_mem _ bb_cst265)) dJ_bitCount_4 ?_
  refine lv_iand hx hb dJ_bitCount_7 ?_
  refine lv_isub hx hb dJ_bitCount_8 ?_
  refine lv_istore_n (lv' := [(0, .int (x - ((bb_ur x 1) &&& 1431655765)))]) hx hb dJ_bitCount_9 rfl hl (by decide) rfl (fun ls hl => ?_)
  refine lv_iload_n hx hb dJ_bitCount_10 rfl (lv_at hl 0 rfl) ?_
  refine lv_ldcw (v := 858993459) hx hb hown (hts _ (List.mem_cons_of_mem _ bb_cst266)) dJ_bitCount_11 ?_
  refine lv_iand hx hb dJ_bitCount_14 ?_
  refine lv_iload_n hx hb dJ_bitCount_15 rfl (lv_at hl 0 rfl) ?_
  refine lv_iconst (v := 2) hx hb dJ_bitCount_16 (by decide) ?_
  refine lv_iushr (v := bb_ur (x - ((bb_ur x 1) &&& 1431655765)) 2) hx hb dJ_bitCount_17 rfl ?_
  refine lv_ldcw (v := 858993459) hx hb hown (hts _ (List.mem_cons_of_mem _ bb_cst266)) dJ_bitCount_18 ?_
  refine lv_iand hx hb dJ_bitCount_21 ?_
  refine lv_iadd hx hb dJ_bitCount_22 ?_
  refine lv_istore_n (lv' := [(0, .int (((x - ((bb_ur x 1) &&& 1431655765)) &&& 858993459) + ((bb_ur (x - ((bb_ur x 1) &&& 1431655765)) 2) &&& 858993459)))]) hx hb dJ_bitCount_23 rfl hl (by decide) rfl (fun ls hl => ?_)
  refine lv_iload_n hx hb dJ_bitCount_24 rfl (lv_at hl 0 rfl) ?_
  refine lv_iload_n hx hb dJ_bitCount_25 rfl (lv_at hl 0 rfl) ?_
  refine lv_iconst (v := 4) hx hb dJ_bitCount_26 (by decide) ?_
  refine lv_iushr (v := bb_ur (((x - ((bb_ur x 1) &&& 1431655765)) &&& 858993459) + ((bb_ur (x - ((bb_ur x 1) &&& 1431655765)) 2) &&& 858993459)) 4) hx hb dJ_bitCount_27 rfl ?_
  refine lv_iadd hx hb dJ_bitCount_28 ?_
  refine lv_ldcw (v := 252645135) hx hb hown (hts _ (List.mem_cons_of_mem _ bb_cst267)) dJ_bitCount_29 ?_
  refine lv_iand hx hb dJ_bitCount_32 ?_
  refine lv_istore_n (lv' := [(0, .int (((((x - ((bb_ur x 1) &&& 1431655765)) &&& 858993459) + ((bb_ur (x - ((bb_ur x 1) &&& 1431655765)) 2) &&& 858993459)) + (bb_ur (((x - ((bb_ur x 1) &&& 1431655765)) &&& 858993459) + ((bb_ur (x - ((bb_ur x 1) &&& 1431655765)) 2) &&& 858993459)) 4)) &&& 252645135))]) hx hb dJ_bitCount_33 rfl hl (by decide) rfl (fun ls hl => ?_)
  refine lv_iload_n hx hb dJ_bitCount_34 rfl (lv_at hl 0 rfl) ?_
  refine lv_iload_n hx hb dJ_bitCount_35 rfl (lv_at hl 0 rfl) ?_
  refine lv_bipush (v := 8) hx hb dJ_bitCount_36 (by decide) ?_
  refine lv_iushr (v := bb_ur (((((x - ((bb_ur x 1) &&& 1431655765)) &&& 858993459) + ((bb_ur (x - ((bb_ur x 1) &&& 1431655765)) 2) &&& 858993459)) + (bb_ur (((x - ((bb_ur x 1) &&& 1431655765)) &&& 858993459) + ((bb_ur (x - ((bb_ur x 1) &&& 1431655765)) 2) &&& 858993459)) 4)) &&& 252645135) 8) hx hb dJ_bitCount_38 rfl ?_
  refine lv_iadd hx hb dJ_bitCount_39 ?_
  refine lv_istore_n (lv' := [(0, .int ((((((x - ((bb_ur x 1) &&& 1431655765)) &&& 858993459) + ((bb_ur (x - ((bb_ur x 1) &&& 1431655765)) 2) &&& 858993459)) + (bb_ur (((x - ((bb_ur x 1) &&& 1431655765)) &&& 858993459) + ((bb_ur (x - ((bb_ur x 1) &&& 1431655765)) 2) &&& 858993459)) 4)) &&& 252645135) + (bb_ur (((((x - ((bb_ur x 1) &&& 1431655765)) &&& 858993459) + ((bb_ur (x - ((bb_ur x 1) &&& 1431655765)) 2) &&& 858993459)) + (bb_ur (((x - ((bb_ur x 1) &&& 1431655765)) &&& 858993459) + ((bb_ur (x - ((bb_ur x 1) &&& 1431655765)) 2) &&& 858993459)) 4)) &&& 252645135) 8)))]) hx hb dJ_bitCount_40 rfl hl (by decide) rfl (fun ls hl => ?_)
  refine lv_iload_n hx hb dJ_bitCount_41 rfl (lv_at hl 0 rfl) ?_
  refine lv_iload_n hx hb dJ_bitCount_42 rfl (lv_at hl 0 rfl) ?_
  refine lv_bipush (v := 16) hx hb dJ_bitCount_43 (by decide) ?_
  refine lv_iushr (v := bb_ur ((((((x - ((bb_ur x 1) &&& 1431655765)) &&& 858993459) + ((bb_ur (x - ((bb_ur x 1) &&& 1431655765)) 2) &&& 858993459)) + (bb_ur (((x - ((bb_ur x 1) &&& 1431655765)) &&& 858993459) + ((bb_ur (x - ((bb_ur x 1) &&& 1431655765)) 2) &&& 858993459)) 4)) &&& 252645135) + (bb_ur (((((x - ((bb_ur x 1) &&& 1431655765)) &&& 858993459) + ((bb_ur (x - ((bb_ur x 1) &&& 1431655765)) 2) &&& 858993459)) + (bb_ur (((x - ((bb_ur x 1) &&& 1431655765)) &&& 858993459) + ((bb_ur (x - ((bb_ur x 1) &&& 1431655765)) 2) &&& 858993459)) 4)) &&& 252645135) 8)) 16) hx hb dJ_bitCount_45 rfl ?_
  refine lv_iadd hx hb dJ_bitCount_46 ?_
  refine lv_istore_n (lv' := [(0, .int (((((((x - ((bb_ur x 1) &&& 1431655765)) &&& 858993459) + ((bb_ur (x - ((bb_ur x 1) &&& 1431655765)) 2) &&& 858993459)) + (bb_ur (((x - ((bb_ur x 1) &&& 1431655765)) &&& 858993459) + ((bb_ur (x - ((bb_ur x 1) &&& 1431655765)) 2) &&& 858993459)) 4)) &&& 252645135) + (bb_ur (((((x - ((bb_ur x 1) &&& 1431655765)) &&& 858993459) + ((bb_ur (x - ((bb_ur x 1) &&& 1431655765)) 2) &&& 858993459)) + (bb_ur (((x - ((bb_ur x 1) &&& 1431655765)) &&& 858993459) + ((bb_ur (x - ((bb_ur x 1) &&& 1431655765)) 2) &&& 858993459)) 4)) &&& 252645135) 8)) + (bb_ur ((((((x - ((bb_ur x 1) &&& 1431655765)) &&& 858993459) + ((bb_ur (x - ((bb_ur x 1) &&& 1431655765)) 2) &&& 858993459)) + (bb_ur (((x - ((bb_ur x 1) &&& 1431655765)) &&& 858993459) + ((bb_ur (x - ((bb_ur x 1) &&& 1431655765)) 2) &&& 858993459)) 4)) &&& 252645135) + (bb_ur (((((x - ((bb_ur x 1) &&& 1431655765)) &&& 858993459) + ((bb_ur (x - ((bb_ur x 1) &&& 1431655765)) 2) &&& 858993459)) + (bb_ur (((x - ((bb_ur x 1) &&& 1431655765)) &&& 858993459) + ((bb_ur (x - ((bb_ur x 1) &&& 1431655765)) 2) &&& 858993459)) 4)) &&& 252645135) 8)) 16)))]) hx hb dJ_bitCount_47 rfl hl (by decide) rfl (fun ls hl => ?_)
  refine lv_iload_n hx hb dJ_bitCount_48 rfl (lv_at hl 0 rfl) ?_
  refine lv_bipush (v := 63) hx hb dJ_bitCount_49 (by decide) ?_
  refine lv_iand hx hb dJ_bitCount_51 ?_
  have er : bb_bc x = (((((((x - ((bb_ur x 1) &&& 1431655765)) &&& 858993459) + ((bb_ur (x - ((bb_ur x 1) &&& 1431655765)) 2) &&& 858993459)) + (bb_ur (((x - ((bb_ur x 1) &&& 1431655765)) &&& 858993459) + ((bb_ur (x - ((bb_ur x 1) &&& 1431655765)) 2) &&& 858993459)) 4)) &&& 252645135) + (bb_ur (((((x - ((bb_ur x 1) &&& 1431655765)) &&& 858993459) + ((bb_ur (x - ((bb_ur x 1) &&& 1431655765)) 2) &&& 858993459)) + (bb_ur (((x - ((bb_ur x 1) &&& 1431655765)) &&& 858993459) + ((bb_ur (x - ((bb_ur x 1) &&& 1431655765)) 2) &&& 858993459)) 4)) &&& 252645135) 8)) + (bb_ur ((((((x - ((bb_ur x 1) &&& 1431655765)) &&& 858993459) + ((bb_ur (x - ((bb_ur x 1) &&& 1431655765)) 2) &&& 858993459)) + (bb_ur (((x - ((bb_ur x 1) &&& 1431655765)) &&& 858993459) + ((bb_ur (x - ((bb_ur x 1) &&& 1431655765)) 2) &&& 858993459)) 4)) &&& 252645135) + (bb_ur (((((x - ((bb_ur x 1) &&& 1431655765)) &&& 858993459) + ((bb_ur (x - ((bb_ur x 1) &&& 1431655765)) 2) &&& 858993459)) + (bb_ur (((x - ((bb_ur x 1) &&& 1431655765)) &&& 858993459) + ((bb_ur (x - ((bb_ur x 1) &&& 1431655765)) 2) &&& 858993459)) 4)) &&& 252645135) 8)) 16)) &&& 63 := by rfl
  exact W.iret (v := (((((((x - ((bb_ur x 1) &&& 1431655765)) &&& 858993459) + ((bb_ur (x - ((bb_ur x 1) &&& 1431655765)) 2) &&& 858993459)) + (bb_ur (((x - ((bb_ur x 1) &&& 1431655765)) &&& 858993459) + ((bb_ur (x - ((bb_ur x 1) &&& 1431655765)) 2) &&& 858993459)) 4)) &&& 252645135) + (bb_ur (((((x - ((bb_ur x 1) &&& 1431655765)) &&& 858993459) + ((bb_ur (x - ((bb_ur x 1) &&& 1431655765)) 2) &&& 858993459)) + (bb_ur (((x - ((bb_ur x 1) &&& 1431655765)) &&& 858993459) + ((bb_ur (x - ((bb_ur x 1) &&& 1431655765)) 2) &&& 858993459)) 4)) &&& 252645135) 8)) + (bb_ur ((((((x - ((bb_ur x 1) &&& 1431655765)) &&& 858993459) + ((bb_ur (x - ((bb_ur x 1) &&& 1431655765)) 2) &&& 858993459)) + (bb_ur (((x - ((bb_ur x 1) &&& 1431655765)) &&& 858993459) + ((bb_ur (x - ((bb_ur x 1) &&& 1431655765)) 2) &&& 858993459)) 4)) &&& 252645135) + (bb_ur (((((x - ((bb_ur x 1) &&& 1431655765)) &&& 858993459) + ((bb_ur (x - ((bb_ur x 1) &&& 1431655765)) 2) &&& 858993459)) + (bb_ur (((x - ((bb_ur x 1) &&& 1431655765)) &&& 858993459) + ((bb_ur (x - ((bb_ur x 1) &&& 1431655765)) 2) &&& 858993459)) 4)) &&& 252645135) 8)) 16)) &&& 63) hx hb hr (fun t ht _ => ⟨by rw [er], ht⟩) (fun _ h => nomatch h) dJ_bitCount_52

set_option maxHeartbeats 4000000 in
set_option maxRecDepth 100000 in
theorem k_weightOf (l : Launch) (dC : Nat → ClassId) (dI : Nat → Nat → Nat) (cA : ClassId) (h0 a0 a1 a2 a3 : Nat) (w pr vo vf : Nat → Int32) (k : Int32) (st : Int32) : Met l yX0_weightOf wsX0_weightOf ({ frames := 1, cells := 0, slots := 0, locals := 21 }) (va_Pc [.ref h0, .int st] (bb_B (dC, dI) vwCl (bb_C h0 a0 a1 a2 a3 cA w pr vo vf k) [(cA, .int)])) (QcRead (bb_ws w st 10)) 0 0 (fun _ => False) := by
  refine Met.ofW (cc := cX0_weightOf) (maxL := 4) (ret := some .int) (by decide) rfl ?_
  intro p e s m args below meth c s₁ B hml hv
  obtain ⟨rfl, hP, hK⟩ := hv
  have hx := B.exec
  have hb := B.bytes
  have hr := B.returns
  have hts := atoms_spec (ws := wsX0_weightOf) B.pre
  have hown : s.vm.findClass RX0 = some m.cls := findClass_of_methodNamed B.named
  have hlocks := B.notSynchronized
  have hin : ∀ w9 ∈ u_ws RX0 TX0 5, w9 ∈ wsX0_weightOf := fun w9 h9 => List.mem_cons_of_mem _ (bb_inX0 w9 h9)
  have hf9 := hts _ (List.mem_cons_of_mem _ bb_fX0_9)
  have hl := lv_entry ([.ref h0, .int st]) (n := 4) (Nat.le_of_ble_eq_true rfl)
  rw [lg_entry_eq]
  generalize (lg_sl ([.ref h0, .int st]) ++ List.replicate (4 - (lg_sl ([.ref h0, .int st])).length) Slot.unset).toArray = ls at hl ⊢
  have hl : lv_has ls 4 [(0, .ref h0), (1, .int st)] := hl
  refine lv_iconst (v := 0) hx hb dX0_weightOf_0 (by decide) ?_
  refine lv_istore_n (lv' := [(2, .int 0), (0, .ref h0), (1, .int st)]) hx hb dX0_weightOf_1 rfl hl (by decide) rfl (fun ls hl => ?_)
  refine lv_iconst (v := 0) hx hb dX0_weightOf_2 (by decide) ?_
  refine lv_istore_n (lv' := [(3, .int 0), (2, .int 0), (0, .ref h0), (1, .int st)]) hx hb dX0_weightOf_3 rfl hl (by decide) rfl (fun ls hl => ?_)
  have hl : lv_has ls 4 [(0, .ref h0), (1, .int st), (2, .int 0), (3, .int 0)] := lv_sub hl [2, 3, 1, 0] rfl
  refine bb_forW (pc := 4) (I := fun j9 ls => lv_has ls 4 [(0, .ref h0), (1, .int st), (2, .int (bb_ws w st j9)), (3, .int (nI j9))]) 10 ?_ ?_ 0 ls (Nat.zero_le _) hl
  · skip
    intro j ls hj hI ihj
    have hl := hI
    refine lv_iload_n hx hb dX0_weightOf_4 rfl (lv_at hl 3 rfl) ?_
    refine lv_bipush (v := nI 10) hx hb dX0_weightOf_5 (by decide) ?_
    refine lv_icmp_ge (tgt := 33) hx hb dX0_weightOf_7 rfl (fun h7 => absurd h7 (nI_ge hj (by decide))) (fun h7 => ?_)
    have q7 := bb_lt h7
    refine lv_iload_n hx hb dX0_weightOf_10 rfl (lv_at hl 1 rfl) ?_
    refine lv_iload_n hx hb dX0_weightOf_11 rfl (lv_at hl 3 rfl) ?_
    refine bb_cS (As := [.int st, .int (nI j)]) (rest := []) (r := bb_I (bb_hb st j)) ⟨hx, hb, hml, hown, hts⟩ (k_holds l st j) (cwS 2 hts gX0_weightOf_X0_holds rfl rfl rfl (by decide +kernel) ⟨Nat.le_of_ble_eq_true rfl, Nat.le_of_ble_eq_true rfl⟩) rfl hl.1 rfl (Nat.le_of_ble_eq_true rfl) dX0_weightOf_12 (Nat.zero_le _) (Nat.zero_le _) ?_
    refine lv_if_eq (tgt := 27) hx hb dX0_weightOf_15 rfl (fun h15 => ?_) (fun h15 => ?_)
    · skip
      have q15 := bb_I_0.mp h15
      refine lv_iinc (v := nI (j + 1)) (lv' := [(3, .int (nI (j + 1))), (0, .ref h0), (1, .int st), (2, .int (bb_ws w st j))]) hx hb dX0_weightOf_27 hl (k := 3) rfl (bb_inc _) (by decide) rfl (fun ls hl => ?_)
      refine lv_goto (tgt := 4) hx hb dX0_weightOf_30 rfl ?_
      have hl : lv_has ls 4 [(0, .ref h0), (1, .int st), (2, .int (bb_ws w st j)), (3, .int (nI (j + 1)))] := lv_sub hl [1, 2, 3, 0] rfl
      have e1 : (bb_ws w st j) = bb_ws w st (j + 1) := by simp [bb_ws, h7, q7, h15, q15]
      have hl : lv_has ls 4 [(0, .ref h0), (1, .int st), (2, .int (bb_ws w st (j + 1))), (3, .int (nI (j + 1)))] := by rw [← e1]; exact hl
      exact ihj ls hl
    · skip
      have q15 := bb_nz h15
      refine lv_iload_n hx hb dX0_weightOf_18 rfl (lv_at hl 2 rfl) ?_
      refine lv_aload_n hx hb dX0_weightOf_19 rfl (lv_at hl 0 rfl) ?_
      refine va_get (D := (dC, dI)) (ci := 0) (v := .ref a0) (C := RX0) (T := TX0) (N := 5) hx hb hts hin hown hK hP 0 rfl rfl 0 (by decide) hf9 (fun _ h9 => h9) rfl dX0_weightOf_20 ?_
      refine lv_iload_n hx hb dX0_weightOf_23 rfl (lv_at hl 3 rfl) ?_
      refine bb_ald hx hb hK hP 1 0 rfl rfl j (by omega) (by decide) dX0_weightOf_24 ?_
      refine lv_iadd hx hb dX0_weightOf_25 ?_
      refine lv_istore_n (lv' := [(2, .int ((bb_ws w st j) + (w j))), (0, .ref h0), (1, .int st), (3, .int (nI j))]) hx hb dX0_weightOf_26 rfl hl (by decide) rfl (fun ls hl => ?_)
      refine lv_iinc (v := nI (j + 1)) (lv' := [(3, .int (nI (j + 1))), (2, .int ((bb_ws w st j) + (w j))), (0, .ref h0), (1, .int st)]) hx hb dX0_weightOf_27 hl (k := 3) rfl (bb_inc _) (by decide) rfl (fun ls hl => ?_)
      refine lv_goto (tgt := 4) hx hb dX0_weightOf_30 rfl ?_
      have hl : lv_has ls 4 [(0, .ref h0), (1, .int st), (2, .int ((bb_ws w st j) + (w j))), (3, .int (nI (j + 1)))] := lv_sub hl [2, 3, 1, 0] rfl
      have e2 : ((bb_ws w st j) + (w j)) = bb_ws w st (j + 1) := by simp [bb_ws, h7, q7, h15, q15]
      have hl : lv_has ls 4 [(0, .ref h0), (1, .int st), (2, .int (bb_ws w st (j + 1))), (3, .int (nI (j + 1)))] := by rw [← e2]; exact hl
      exact ihj ls hl
  · skip
    intro ls hI
    have hl := hI
    refine lv_iload_n hx hb dX0_weightOf_4 rfl (lv_at hl 3 rfl) ?_
    refine lv_bipush (v := nI 10) hx hb dX0_weightOf_5 (by decide) ?_
    refine lv_icmp_ge (tgt := 33) hx hb dX0_weightOf_7 rfl (fun h7 => ?_) (fun h7 => absurd (nI_le (Nat.le_refl _) (by decide)) h7)
    have q7 := bb_nlt h7
    refine lv_iload_n hx hb dX0_weightOf_33 rfl (lv_at hl 2 rfl) ?_
    exact W.iret (v := bb_ws w st 10) hx hb hr (fun t ht _ => ⟨rfl, ht⟩) (fun _ h => nomatch h) dX0_weightOf_34

set_option maxHeartbeats 4000000 in
set_option maxRecDepth 100000 in
theorem k_isEnough (l : Launch) (dC : Nat → ClassId) (dI : Nat → Nat → Nat) (cA : ClassId) (h0 a0 a1 a2 a3 : Nat) (w pr vo vf : Nat → Int32) (k : Int32) (st : Int32) : Met l yX0_isEnough wsX0_isEnough ({ frames := 2, cells := 0, slots := 0, locals := 44 }) (va_Pc [.ref h0, .int st] (bb_B (dC, dI) vwCl (bb_C h0 a0 a1 a2 a3 cA w pr vo vf k) [(cA, .int)])) (QcRead (bb_I (bb_en w k st))) 0 0 (fun _ => False) := by
  refine Met.ofW (cc := cX0_isEnough) (maxL := 2) (ret := some .boolean) (by decide) rfl ?_
  intro p e s m args below meth c s₁ B hml hv
  obtain ⟨rfl, hP, hK⟩ := hv
  have hx := B.exec
  have hb := B.bytes
  have hr := B.returns
  have hts := atoms_spec (ws := wsX0_isEnough) B.pre
  have hown : s.vm.findClass RX0 = some m.cls := findClass_of_methodNamed B.named
  have hlocks := B.notSynchronized
  have hin : ∀ w9 ∈ u_ws RX0 TX0 5, w9 ∈ wsX0_isEnough := fun w9 h9 => List.mem_cons_of_mem _ (bb_inX0 w9 h9)
  have hf22 := hts _ (List.mem_cons_of_mem _ bb_fX0_22)
  have hl := lv_entry ([.ref h0, .int st]) (n := 2) (Nat.le_of_ble_eq_true rfl)
  rw [lg_entry_eq]
  generalize (lg_sl ([.ref h0, .int st]) ++ List.replicate (2 - (lg_sl ([.ref h0, .int st])).length) Slot.unset).toArray = ls at hl ⊢
  have hl : lv_has ls 2 [(0, .ref h0), (1, .int st)] := hl
  refine lv_aload_n hx hb dX0_isEnough_0 rfl (lv_at hl 0 rfl) ?_
  refine lv_iload_n hx hb dX0_isEnough_1 rfl (lv_at hl 1 rfl) ?_
  refine bb_cV (As := [.int st]) (rest := []) (r := bb_ws w st 10) 0 ⟨hx, hb, hml, hown, hts⟩ (k_weightOf l dC dI cA h0 a0 a1 a2 a3 w pr vo vf k st) (cwV 1 hts gX0_isEnough_X0_weightOf rfl rfl rfl (by decide +kernel) ⟨Nat.le_of_ble_eq_true rfl, Nat.le_of_ble_eq_true rfl⟩) hP hK rfl rfl rfl hl.1 rfl (Nat.le_of_ble_eq_true rfl) dX0_isEnough_2 (Nat.zero_le _) (Nat.zero_le _) ?_
  refine lv_aload_n hx hb dX0_isEnough_5 rfl (lv_at hl 0 rfl) ?_
  refine va_get (D := (dC, dI)) (ci := 0) (v := .int k) (C := RX0) (T := TX0) (N := 5) hx hb hts hin hown hK hP 0 rfl rfl 4 (by decide) hf22 (fun _ h9 => h9) rfl dX0_isEnough_6 ?_
  refine lv_icmp_lt (tgt := 16) hx hb dX0_isEnough_9 rfl (fun h9 => ?_) (fun h9 => ?_)
  · skip
    have q9 := bb_nle h9
    refine lv_iconst (v := 0) hx hb dX0_isEnough_16 (by decide) ?_
    have er : bb_I (bb_en w k st) = 0 := by simp [bb_I, bb_en, h9, q9]
    exact W.zret (v := 0) hx hb hr bb_z0 (fun t ht _ => ⟨by rw [er], ht⟩) (fun _ h => nomatch h) dX0_isEnough_17
  · skip
    have q9 := bb_le h9
    refine lv_iconst (v := 1) hx hb dX0_isEnough_12 (by decide) ?_
    refine lv_goto (tgt := 17) hx hb dX0_isEnough_13 rfl ?_
    have er : bb_I (bb_en w k st) = 1 := by simp [bb_I, bb_en, h9, q9]
    exact W.zret (v := 1) hx hb hr bb_z1 (fun t ht _ => ⟨by rw [er], ht⟩) (fun _ h => nomatch h) dX0_isEnough_17

set_option maxHeartbeats 4000000 in
set_option maxRecDepth 100000 in
theorem k_lightestOf (l : Launch) (dC : Nat → ClassId) (dI : Nat → Nat → Nat) (cA : ClassId) (h0 a0 a1 a2 a3 : Nat) (w pr vo vf : Nat → Int32) (k : Int32) (st : Int32) : Met l yX0_lightestOf wsX0_lightestOf ({ frames := 1, cells := 0, slots := 0, locals := 21 }) (va_Pc [.ref h0, .int st] (bb_B (dC, dI) vwCl (bb_C h0 a0 a1 a2 a3 cA w pr vo vf k) [(cA, .int)])) (QcRead (bb_lm w st 10)) 0 0 (fun _ => False) := by
  refine Met.ofW (cc := cX0_lightestOf) (maxL := 4) (ret := some .int) (by decide) rfl ?_
  intro p e s m args below meth c s₁ B hml hv
  obtain ⟨rfl, hP, hK⟩ := hv
  have hx := B.exec
  have hb := B.bytes
  have hr := B.returns
  have hts := atoms_spec (ws := wsX0_lightestOf) B.pre
  have hown : s.vm.findClass RX0 = some m.cls := findClass_of_methodNamed B.named
  have hlocks := B.notSynchronized
  have hin : ∀ w9 ∈ u_ws RX0 TX0 5, w9 ∈ wsX0_lightestOf := fun w9 h9 => List.mem_cons_of_mem _ (bb_inX0 w9 h9)
  have hf9 := hts _ (List.mem_cons_of_mem _ bb_fX0_9)
  have hl := lv_entry ([.ref h0, .int st]) (n := 4) (Nat.le_of_ble_eq_true rfl)
  rw [lg_entry_eq]
  generalize (lg_sl ([.ref h0, .int st]) ++ List.replicate (4 - (lg_sl ([.ref h0, .int st])).length) Slot.unset).toArray = ls at hl ⊢
  have hl : lv_has ls 4 [(0, .ref h0), (1, .int st)] := hl
  refine lv_bipush (v := 50) hx hb dX0_lightestOf_0 (by decide) ?_
  refine lv_istore_n (lv' := [(2, .int 50), (0, .ref h0), (1, .int st)]) hx hb dX0_lightestOf_2 rfl hl (by decide) rfl (fun ls hl => ?_)
  refine lv_iconst (v := 0) hx hb dX0_lightestOf_3 (by decide) ?_
  refine lv_istore_n (lv' := [(3, .int 0), (2, .int 50), (0, .ref h0), (1, .int st)]) hx hb dX0_lightestOf_4 rfl hl (by decide) rfl (fun ls hl => ?_)
  have hl : lv_has ls 4 [(0, .ref h0), (1, .int st), (2, .int 50), (3, .int 0)] := lv_sub hl [2, 3, 1, 0] rfl
  refine bb_forW (pc := 5) (I := fun j9 ls => lv_has ls 4 [(0, .ref h0), (1, .int st), (2, .int (bb_lm w st j9)), (3, .int (nI j9))]) 10 ?_ ?_ 0 ls (Nat.zero_le _) hl
  · skip
    intro j ls hj hI ihj
    have hl := hI
    refine lv_iload_n hx hb dX0_lightestOf_5 rfl (lv_at hl 3 rfl) ?_
    refine lv_bipush (v := nI 10) hx hb dX0_lightestOf_6 (by decide) ?_
    refine lv_icmp_ge (tgt := 36) hx hb dX0_lightestOf_8 rfl (fun h8 => absurd h8 (nI_ge hj (by decide))) (fun h8 => ?_)
    have q8 := bb_lt h8
    refine lv_iload_n hx hb dX0_lightestOf_11 rfl (lv_at hl 1 rfl) ?_
    refine lv_iload_n hx hb dX0_lightestOf_12 rfl (lv_at hl 3 rfl) ?_
    refine bb_cS (As := [.int st, .int (nI j)]) (rest := []) (r := bb_I (bb_hb st j)) ⟨hx, hb, hml, hown, hts⟩ (k_holds l st j) (cwS 2 hts gX0_lightestOf_X0_holds rfl rfl rfl (by decide +kernel) ⟨Nat.le_of_ble_eq_true rfl, Nat.le_of_ble_eq_true rfl⟩) rfl hl.1 rfl (Nat.le_of_ble_eq_true rfl) dX0_lightestOf_13 (Nat.zero_le _) (Nat.zero_le _) ?_
    refine lv_if_eq (tgt := 30) hx hb dX0_lightestOf_16 rfl (fun h16 => ?_) (fun h16 => ?_)
    · skip
      have q16 := bb_I_0.mp h16
      refine lv_iinc (v := nI (j + 1)) (lv' := [(3, .int (nI (j + 1))), (0, .ref h0), (1, .int st), (2, .int (bb_lm w st j))]) hx hb dX0_lightestOf_30 hl (k := 3) rfl (bb_inc _) (by decide) rfl (fun ls hl => ?_)
      refine lv_goto (tgt := 5) hx hb dX0_lightestOf_33 rfl ?_
      have hl : lv_has ls 4 [(0, .ref h0), (1, .int st), (2, .int (bb_lm w st j)), (3, .int (nI (j + 1)))] := lv_sub hl [1, 2, 3, 0] rfl
      have e1 : (bb_lm w st j) = bb_lm w st (j + 1) := by simp [bb_lm, h8, q8, h16, q16]
      have hl : lv_has ls 4 [(0, .ref h0), (1, .int st), (2, .int (bb_lm w st (j + 1))), (3, .int (nI (j + 1)))] := by rw [← e1]; exact hl
      exact ihj ls hl
    · skip
      have q16 := bb_nz h16
      refine lv_iload_n hx hb dX0_lightestOf_19 rfl (lv_at hl 2 rfl) ?_
      refine lv_aload_n hx hb dX0_lightestOf_20 rfl (lv_at hl 0 rfl) ?_
      refine va_get (D := (dC, dI)) (ci := 0) (v := .ref a0) (C := RX0) (T := TX0) (N := 5) hx hb hts hin hown hK hP 0 rfl rfl 0 (by decide) hf9 (fun _ h9 => h9) rfl dX0_lightestOf_21 ?_
      refine lv_iload_n hx hb dX0_lightestOf_24 rfl (lv_at hl 3 rfl) ?_
      refine bb_ald hx hb hK hP 1 0 rfl rfl j (by omega) (by decide) dX0_lightestOf_25 ?_
      refine va_mmin hx hb (hml.trans hl.1.symm) (own := RX0) (index := 142) hown (hts _ (List.mem_cons_of_mem _ bb_mmin_l)) (hts _ (List.mem_cons_of_mem _ bb_mmin_s)) (hts _ (List.mem_cons_of_mem _ bb_mini)) (hts _ (List.mem_cons_of_mem _ bb_mmin_c)) (Nat.le_of_ble_eq_true rfl) (Nat.le_of_ble_eq_true rfl) (Nat.zero_le _) (Nat.zero_le _) dX0_lightestOf_26 ?_
      refine lv_istore_n (lv' := [(2, .int (if (w j) < (bb_lm w st j) then (w j) else (bb_lm w st j))), (0, .ref h0), (1, .int st), (3, .int (nI j))]) hx hb dX0_lightestOf_29 rfl hl (by decide) rfl (fun ls hl => ?_)
      refine lv_iinc (v := nI (j + 1)) (lv' := [(3, .int (nI (j + 1))), (2, .int (if (w j) < (bb_lm w st j) then (w j) else (bb_lm w st j))), (0, .ref h0), (1, .int st)]) hx hb dX0_lightestOf_30 hl (k := 3) rfl (bb_inc _) (by decide) rfl (fun ls hl => ?_)
      refine lv_goto (tgt := 5) hx hb dX0_lightestOf_33 rfl ?_
      have hl : lv_has ls 4 [(0, .ref h0), (1, .int st), (2, .int (if (w j) < (bb_lm w st j) then (w j) else (bb_lm w st j))), (3, .int (nI (j + 1)))] := lv_sub hl [2, 3, 1, 0] rfl
      have e2 : (if (w j) < (bb_lm w st j) then (w j) else (bb_lm w st j)) = bb_lm w st (j + 1) := by simp [bb_lm, h8, q8, h16, q16]
      have hl : lv_has ls 4 [(0, .ref h0), (1, .int st), (2, .int (bb_lm w st (j + 1))), (3, .int (nI (j + 1)))] := by rw [← e2]; exact hl
      exact ihj ls hl
  · skip
    intro ls hI
    have hl := hI
    refine lv_iload_n hx hb dX0_lightestOf_5 rfl (lv_at hl 3 rfl) ?_
    refine lv_bipush (v := nI 10) hx hb dX0_lightestOf_6 (by decide) ?_
    refine lv_icmp_ge (tgt := 36) hx hb dX0_lightestOf_8 rfl (fun h8 => ?_) (fun h8 => absurd (nI_le (Nat.le_refl _) (by decide)) h8)
    have q8 := bb_nlt h8
    refine lv_iload_n hx hb dX0_lightestOf_36 rfl (lv_at hl 2 rfl) ?_
    exact W.iret (v := bb_lm w st 10) hx hb hr (fun t ht _ => ⟨rfl, ht⟩) (fun _ h => nomatch h) dX0_lightestOf_37

set_option maxHeartbeats 4000000 in
set_option maxRecDepth 100000 in
theorem k_isBare (l : Launch) (dC : Nat → ClassId) (dI : Nat → Nat → Nat) (cA : ClassId) (h0 a0 a1 a2 a3 : Nat) (w pr vo vf : Nat → Int32) (k : Int32) (st : Int32) : Met l yX0_isBare wsX0_isBare ({ frames := 2, cells := 0, slots := 0, locals := 44 }) (va_Pc [.ref h0, .int st] (bb_B (dC, dI) vwCl (bb_C h0 a0 a1 a2 a3 cA w pr vo vf k) [(cA, .int)])) (QcRead (bb_I (bb_bare w k st))) 0 0 (fun _ => False) := by
  refine Met.ofW (cc := cX0_isBare) (maxL := 3) (ret := some .boolean) (by decide) rfl ?_
  intro p e s m args below meth c s₁ B hml hv
  obtain ⟨rfl, hP, hK⟩ := hv
  have hx := B.exec
  have hb := B.bytes
  have hr := B.returns
  have hts := atoms_spec (ws := wsX0_isBare) B.pre
  have hown : s.vm.findClass RX0 = some m.cls := findClass_of_methodNamed B.named
  have hlocks := B.notSynchronized
  have hin : ∀ w9 ∈ u_ws RX0 TX0 5, w9 ∈ wsX0_isBare := fun w9 h9 => List.mem_cons_of_mem _ (bb_inX0 w9 h9)
  have hf22 := hts _ (List.mem_cons_of_mem _ bb_fX0_22)
  have hl := lv_entry ([.ref h0, .int st]) (n := 3) (Nat.le_of_ble_eq_true rfl)
  rw [lg_entry_eq]
  generalize (lg_sl ([.ref h0, .int st]) ++ List.replicate (3 - (lg_sl ([.ref h0, .int st])).length) Slot.unset).toArray = ls at hl ⊢
  have hl : lv_has ls 3 [(0, .ref h0), (1, .int st)] := hl
  refine lv_aload_n hx hb dX0_isBare_0 rfl (lv_at hl 0 rfl) ?_
  refine lv_iload_n hx hb dX0_isBare_1 rfl (lv_at hl 1 rfl) ?_
  refine bb_cV (As := [.int st]) (rest := []) (r := bb_ws w st 10) 0 ⟨hx, hb, hml, hown, hts⟩ (k_weightOf l dC dI cA h0 a0 a1 a2 a3 w pr vo vf k st) (cwV 1 hts gX0_isBare_X0_weightOf rfl rfl rfl (by decide +kernel) ⟨Nat.le_of_ble_eq_true rfl, Nat.le_of_ble_eq_true rfl⟩) hP hK rfl rfl rfl hl.1 rfl (Nat.le_of_ble_eq_true rfl) dX0_isBare_2 (Nat.zero_le _) (Nat.zero_le _) ?_
  refine lv_istore_n (lv' := [(2, .int (bb_ws w st 10)), (0, .ref h0), (1, .int st)]) hx hb dX0_isBare_5 rfl hl (by decide) rfl (fun ls hl => ?_)
  refine lv_iload_n hx hb dX0_isBare_6 rfl (lv_at hl 0 rfl) ?_
  refine lv_aload_n hx hb dX0_isBare_7 rfl (lv_at hl 1 rfl) ?_
  refine va_get (D := (dC, dI)) (ci := 0) (v := .int k) (C := RX0) (T := TX0) (N := 5) hx hb hts hin hown hK hP 0 rfl rfl 4 (by decide) hf22 (fun _ h9 => h9) rfl dX0_isBare_8 ?_
  refine lv_icmp_lt (tgt := 32) hx hb dX0_isBare_11 rfl (fun h11 => ?_) (fun h11 => ?_)
  · skip
    have q11 := bb_nle h11
    refine lv_iconst (v := 0) hx hb dX0_isBare_32 (by decide) ?_
    have er : bb_I (bb_bare w k st) = 0 := by simp [bb_I, bb_bare, h11, q11]
    exact W.zret (v := 0) hx hb hr bb_z0 (fun t ht _ => ⟨by rw [er], ht⟩) (fun _ h => nomatch h) dX0_isBare_33
  · skip
    have q11 := bb_le h11
    refine lv_iload_n hx hb dX0_isBare_14 rfl (lv_at hl 0 rfl) ?_
    refine lv_aload_n hx hb dX0_isBare_15 rfl (lv_at hl 1 rfl) ?_
    refine lv_iload_n hx hb dX0_isBare_16 rfl (lv_at hl 2 rfl) ?_
    refine bb_cV (As := [.int st]) (rest := [.int (bb_ws w st 10)]) (r := bb_lm w st 10) 0 ⟨hx, hb, hml, hown, hts⟩ (k_lightestOf l dC dI cA h0 a0 a1 a2 a3 w pr vo vf k st) (cwV 1 hts gX0_isBare_X0_lightestOf rfl rfl rfl (by decide +kernel) ⟨Nat.le_of_ble_eq_true rfl, Nat.le_of_ble_eq_true rfl⟩) hP hK rfl rfl rfl hl.1 rfl (Nat.le_of_ble_eq_true rfl) dX0_isBare_17 (Nat.zero_le _) (Nat.zero_le _) ?_
    refine lv_isub hx hb dX0_isBare_20 ?_
    refine lv_aload_n hx hb dX0_isBare_21 rfl (lv_at hl 1 rfl) ?_
    refine va_get (D := (dC, dI)) (ci := 0) (v := .int k) (C := RX0) (T := TX0) (N := 5) hx hb hts hin hown hK hP 0 rfl rfl 4 (by decide) hf22 (fun _ h9 => h9) rfl dX0_isBare_22 ?_
    refine lv_icmp_ge (tgt := 32) hx hb dX0_isBare_25 rfl (fun h25 => ?_) (fun h25 => ?_)
    · skip
      have q25 := bb_nlt h25
      refine lv_iconst (v := 0) hx hb dX0_isBare_32 (by decide) ?_
      have er : bb_I (bb_bare w k st) = 0 := by simp [bb_I, bb_bare, h11, q11, h25, q25]
      exact W.zret (v := 0) hx hb hr bb_z0 (fun t ht _ => ⟨by rw [er], ht⟩) (fun _ h => nomatch h) dX0_isBare_33
    · skip
      have q25 := bb_lt h25
      refine lv_iconst (v := 1) hx hb dX0_isBare_28 (by decide) ?_
      refine lv_goto (tgt := 33) hx hb dX0_isBare_29 rfl ?_
      have er : bb_I (bb_bare w k st) = 1 := by simp [bb_I, bb_bare, h11, q11, h25, q25]
      exact W.zret (v := 1) hx hb hr bb_z1 (fun t ht _ => ⟨by rw [er], ht⟩) (fun _ h => nomatch h) dX0_isBare_33

set_option maxHeartbeats 4000000 in
set_option maxRecDepth 100000 in
theorem k_isOpen (l : Launch) (dC : Nat → ClassId) (dI : Nat → Nat → Nat) (cA : ClassId) (h0 a0 a1 a2 a3 : Nat) (w pr vo vf : Nat → Int32) (k : Int32) (n b : Nat) (hn0 : n < 10) (hb0 : b < 31) : Met l yX0_isOpen wsX0_isOpen ({ frames := 1, cells := 0, slots := 0, locals := 21 }) (va_Pc [.ref h0, .int (nI n), .int (nI b)] (bb_B (dC, dI) vwCl (bb_C h0 a0 a1 a2 a3 cA w pr vo vf k) [(cA, .int)])) (QcRead (bb_I (bb_op pr vo b n))) 0 0 (fun _ => False) := by
  refine Met.ofW (cc := cX0_isOpen) (maxL := 3) (ret := some .boolean) (by decide) rfl ?_
  intro p e s m args below meth c s₁ B hml hv
  obtain ⟨rfl, hP, hK⟩ := hv
  have hx := B.exec
  have hb := B.bytes
  have hr := B.returns
  have hts := atoms_spec (ws := wsX0_isOpen) B.pre
  have hown : s.vm.findClass RX0 = some m.cls := findClass_of_methodNamed B.named
  have hlocks := B.notSynchronized
  have hin : ∀ w9 ∈ u_ws RX0 TX0 5, w9 ∈ wsX0_isOpen := fun w9 h9 => List.mem_cons_of_mem _ (bb_inX0 w9 h9)
  have hf13 := hts _ (List.mem_cons_of_mem _ bb_fX0_13)
  have hf16 := hts _ (List.mem_cons_of_mem _ bb_fX0_16)
  have hl := lv_entry ([.ref h0, .int (nI n), .int (nI b)]) (n := 3) (Nat.le_of_ble_eq_true rfl)
  rw [lg_entry_eq]
  generalize (lg_sl ([.ref h0, .int (nI n), .int (nI b)]) ++ List.replicate (3 - (lg_sl ([.ref h0, .int (nI n), .int (nI b)])).length) Slot.unset).toArray = ls at hl ⊢
  have hl : lv_has ls 3 [(0, .ref h0), (1, .int (nI n)), (2, .int (nI b))] := hl
  refine lv_aload_n hx hb dX0_isOpen_0 rfl (lv_at hl 0 rfl) ?_
  refine va_get (D := (dC, dI)) (ci := 0) (v := .ref a2) (C := RX0) (T := TX0) (N := 5) hx hb hts hin hown hK hP 0 rfl rfl 2 (by decide) hf16 (fun _ h9 => h9) rfl dX0_isOpen_1 ?_
  refine lv_iload_n hx hb dX0_isOpen_4 rfl (lv_at hl 2 rfl) ?_
  refine bb_ald hx hb hK hP 3 0 rfl rfl b (by omega) (by decide) dX0_isOpen_5 ?_
  refine lv_iload_n hx hb dX0_isOpen_6 rfl (lv_at hl 1 rfl) ?_
  refine bb_cS (As := [.int (vo b), .int (nI n)]) (rest := []) (r := bb_I (bb_hb (vo b) n)) ⟨hx, hb, hml, hown, hts⟩ (k_holds l (vo b) n) (cwS 2 hts gX0_isOpen_X0_holds rfl rfl rfl (by decide +kernel) ⟨Nat.le_of_ble_eq_true rfl, Nat.le_of_ble_eq_true rfl⟩) rfl hl.1 rfl (Nat.le_of_ble_eq_true rfl) dX0_isOpen_7 (Nat.zero_le _) (Nat.zero_le _) ?_
  refine lv_if_ne (tgt := 27) hx hb dX0_isOpen_10 rfl (fun h10 => ?_) (fun h10 => ?_)
  · skip
    have q10 := bb_nz h10
    refine lv_iconst (v := 0) hx hb dX0_isOpen_27 (by decide) ?_
    have er : bb_I (bb_op pr vo b n) = 0 := by simp [bb_I, bb_op, h10, q10]
    exact W.zret (v := 0) hx hb hr bb_z0 (fun t ht _ => ⟨by rw [er], ht⟩) (fun _ h => nomatch h) dX0_isOpen_28
  · skip
    have q10 := bb_I_0.mp h10
    refine lv_aload_n hx hb dX0_isOpen_13 rfl (lv_at hl 0 rfl) ?_
    refine va_get (D := (dC, dI)) (ci := 0) (v := .ref a1) (C := RX0) (T := TX0) (N := 5) hx hb hts hin hown hK hP 0 rfl rfl 1 (by decide) hf13 (fun _ h9 => h9) rfl dX0_isOpen_14 ?_
    refine lv_iload_n hx hb dX0_isOpen_17 rfl (lv_at hl 1 rfl) ?_
    refine bb_ald hx hb hK hP 2 0 rfl rfl n (by omega) (by decide) dX0_isOpen_18 ?_
    refine lv_iload_n hx hb dX0_isOpen_19 rfl (lv_at hl 2 rfl) ?_
    refine lv_icmp_gt (tgt := 27) hx hb dX0_isOpen_20 rfl (fun h20 => ?_) (fun h20 => ?_)
    · skip
      have q20 := bb_nle h20
      refine lv_iconst (v := 0) hx hb dX0_isOpen_27 (by decide) ?_
      have er : bb_I (bb_op pr vo b n) = 0 := by simp [bb_I, bb_op, h10, q10, h20, q20]
      exact W.zret (v := 0) hx hb hr bb_z0 (fun t ht _ => ⟨by rw [er], ht⟩) (fun _ h => nomatch h) dX0_isOpen_28
    · skip
      have q20 := bb_le h20
      refine lv_iconst (v := 1) hx hb dX0_isOpen_23 (by decide) ?_
      refine lv_goto (tgt := 28) hx hb dX0_isOpen_24 rfl ?_
      have er : bb_I (bb_op pr vo b n) = 1 := by simp [bb_I, bb_op, h10, q10, h20, q20]
      exact W.zret (v := 1) hx hb hr bb_z1 (fun t ht _ => ⟨by rw [er], ht⟩) (fun _ h => nomatch h) dX0_isOpen_28

set_option maxHeartbeats 4000000 in
set_option maxRecDepth 100000 in
theorem k_openNodes (l : Launch) (dC : Nat → ClassId) (dI : Nat → Nat → Nat) (cA : ClassId) (h0 a0 a1 a2 a3 : Nat) (w pr vo vf : Nat → Int32) (k : Int32) (b : Nat) (hb0 : b < 31) : Met l yX0_openNodes wsX0_openNodes ({ frames := 2, cells := 0, slots := 0, locals := 43 }) (va_Pc [.ref h0, .int (nI b)] (bb_B (dC, dI) vwCl (bb_C h0 a0 a1 a2 a3 cA w pr vo vf k) [(cA, .int)])) (QcRead (bb_bl (bb_op pr vo b) 10)) 0 0 (fun _ => False) := by
  refine Met.ofW (cc := cX0_openNodes) (maxL := 4) (ret := some .int) (by decide) rfl ?_
  intro p e s m args below meth c s₁ B hml hv
  obtain ⟨rfl, hP, hK⟩ := hv
  have hx := B.exec
  have hb := B.bytes
  have hr := B.returns
  have hts := atoms_spec (ws := wsX0_openNodes) B.pre
  have hown : s.vm.findClass RX0 = some m.cls := findClass_of_methodNamed B.named
  have hlocks := B.notSynchronized
  have hl := lv_entry ([.ref h0, .int (nI b)]) (n := 4) (Nat.le_of_ble_eq_true rfl)
  rw [lg_entry_eq]
  generalize (lg_sl ([.ref h0, .int (nI b)]) ++ List.replicate (4 - (lg_sl ([.ref h0, .int (nI b)])).length) Slot.unset).toArray = ls at hl ⊢
  have hl : lv_has ls 4 [(0, .ref h0), (1, .int (nI b))] := hl
  refine lv_iconst (v := 0) hx hb dX0_openNodes_0 (by decide) ?_
  refine lv_istore_n (lv' := [(2, .int 0), (0, .ref h0), (1, .int (nI b))]) hx hb dX0_openNodes_1 rfl hl (by decide) rfl (fun ls hl => ?_)
  refine lv_iconst (v := 0) hx hb dX0_openNodes_2 (by decide) ?_
  refine lv_istore_n (lv' := [(3, .int 0), (2, .int 0), (0, .ref h0), (1, .int (nI b))]) hx hb dX0_openNodes_3 rfl hl (by decide) rfl (fun ls hl => ?_)
  have hl : lv_has ls 4 [(0, .ref h0), (1, .int (nI b)), (2, .int 0), (3, .int 0)] := lv_sub hl [2, 3, 1, 0] rfl
  refine bb_forW (pc := 4) (I := fun j9 ls => lv_has ls 4 [(0, .ref h0), (1, .int (nI b)), (2, .int (bb_bl (bb_op pr vo b) j9)), (3, .int (nI j9))]) 10 ?_ ?_ 0 ls (Nat.zero_le _) hl
  · skip
    intro j ls hj hI ihj
    have hl := hI
    refine lv_iload_n hx hb dX0_openNodes_4 rfl (lv_at hl 3 rfl) ?_
    refine lv_bipush (v := nI 10) hx hb dX0_openNodes_5 (by decide) ?_
    refine lv_icmp_ge (tgt := 31) hx hb dX0_openNodes_7 rfl (fun h7 => absurd h7 (nI_ge hj (by decide))) (fun h7 => ?_)
    have q7 := bb_lt h7
    refine lv_aload_n hx hb dX0_openNodes_10 rfl (lv_at hl 0 rfl) ?_
    refine lv_iload_n hx hb dX0_openNodes_11 rfl (lv_at hl 3 rfl) ?_
    refine lv_iload_n hx hb dX0_openNodes_12 rfl (lv_at hl 1 rfl) ?_
    refine bb_cV (As := [.int (nI j), .int (nI b)]) (rest := []) (r := bb_I (bb_op pr vo b j)) 0 ⟨hx, hb, hml, hown, hts⟩ (k_isOpen l dC dI cA h0 a0 a1 a2 a3 w pr vo vf k j b (by omega) (by omega)) (cwV 2 hts gX0_openNodes_X0_isOpen rfl rfl rfl (by decide +kernel) ⟨Nat.le_of_ble_eq_true rfl, Nat.le_of_ble_eq_true rfl⟩) hP hK rfl rfl rfl hl.1 rfl (Nat.le_of_ble_eq_true rfl) dX0_openNodes_13 (Nat.zero_le _) (Nat.zero_le _) ?_
    refine lv_if_eq (tgt := 25) hx hb dX0_openNodes_16 rfl (fun h16 => ?_) (fun h16 => ?_)
    · skip
      have q16 := bb_I_0.mp h16
      refine lv_iinc (v := nI (j + 1)) (lv' := [(3, .int (nI (j + 1))), (0, .ref h0), (1, .int (nI b)), (2, .int (bb_bl (bb_op pr vo b) j))]) hx hb dX0_openNodes_25 hl (k := 3) rfl (bb_inc _) (by decide) rfl (fun ls hl => ?_)
      refine lv_goto (tgt := 4) hx hb dX0_openNodes_28 rfl ?_
      have hl : lv_has ls 4 [(0, .ref h0), (1, .int (nI b)), (2, .int (bb_bl (bb_op pr vo b) j)), (3, .int (nI (j + 1)))] := lv_sub hl [1, 2, 3, 0] rfl
      have e1 : (bb_bl (bb_op pr vo b) j) = bb_bl (bb_op pr vo b) (j + 1) := by simp [bb_bl, h7, q7, h16, q16]
      have hl : lv_has ls 4 [(0, .ref h0), (1, .int (nI b)), (2, .int (bb_bl (bb_op pr vo b) (j + 1))), (3, .int (nI (j + 1)))] := by rw [← e1]; exact hl
      exact ihj ls hl
    · skip
      have q16 := bb_nz h16
      refine lv_iload_n hx hb dX0_openNodes_19 rfl (lv_at hl 2 rfl) ?_
      refine lv_iconst (v := 1) hx hb dX0_openNodes_20 (by decide) ?_
      refine lv_iload_n hx hb dX0_openNodes_21 rfl (lv_at hl 3 rfl) ?_
      refine lv_ishl hx hb dX0_openNodes_22 ?_
      refine lv_ior hx hb dX0_openNodes_23 ?_
      refine lv_istore_n (lv' := [(2, .int ((bb_bl (bb_op pr vo b) j) ||| (1 <<< ((nI j) &&& 31)))), (0, .ref h0), (1, .int (nI b)), (3, .int (nI j))]) hx hb dX0_openNodes_24 rfl hl (by decide) rfl (fun ls hl => ?_)
      refine lv_iinc (v := nI (j + 1)) (lv' := [(3, .int (nI (j + 1))), (2, .int ((bb_bl (bb_op pr vo b) j) ||| (1 <<< ((nI j) &&& 31)))), (0, .ref h0), (1, .int (nI b))]) hx hb dX0_openNodes_25 hl (k := 3) rfl (bb_inc _) (by decide) rfl (fun ls hl => ?_)
      refine lv_goto (tgt := 4) hx hb dX0_openNodes_28 rfl ?_
      have hl : lv_has ls 4 [(0, .ref h0), (1, .int (nI b)), (2, .int ((bb_bl (bb_op pr vo b) j) ||| (1 <<< ((nI j) &&& 31)))), (3, .int (nI (j + 1)))] := lv_sub hl [2, 3, 1, 0] rfl
      have e2 : ((bb_bl (bb_op pr vo b) j) ||| (1 <<< ((nI j) &&& 31))) = bb_bl (bb_op pr vo b) (j + 1) := by simp [bb_bl, h7, q7, h16, q16]
      have hl : lv_has ls 4 [(0, .ref h0), (1, .int (nI b)), (2, .int (bb_bl (bb_op pr vo b) (j + 1))), (3, .int (nI (j + 1)))] := by rw [← e2]; exact hl
      exact ihj ls hl
  · skip
    intro ls hI
    have hl := hI
    refine lv_iload_n hx hb dX0_openNodes_4 rfl (lv_at hl 3 rfl) ?_
    refine lv_bipush (v := nI 10) hx hb dX0_openNodes_5 (by decide) ?_
    refine lv_icmp_ge (tgt := 31) hx hb dX0_openNodes_7 rfl (fun h7 => ?_) (fun h7 => absurd (nI_le (Nat.le_refl _) (by decide)) h7)
    have q7 := bb_nlt h7
    refine lv_iload_n hx hb dX0_openNodes_31 rfl (lv_at hl 2 rfl) ?_
    exact W.iret (v := bb_bl (bb_op pr vo b) 10) hx hb hr (fun t ht _ => ⟨rfl, ht⟩) (fun _ h => nomatch h) dX0_openNodes_32

set_option maxHeartbeats 4000000 in
set_option maxRecDepth 100000 in
theorem k_isOnlyValue (l : Launch) (dC : Nat → ClassId) (dI : Nat → Nat → Nat) (cA : ClassId) (h0 a0 a1 a2 a3 : Nat) (w pr vo vf : Nat → Int32) (k : Int32) (b : Nat) (v : Int32) (hb0 : b < 31) : Met l yX0_isOnlyValue wsX0_isOnlyValue ({ frames := 0, cells := 0, slots := 0, locals := 0 }) (va_Pc [.ref h0, .int (nI b), .int v] (bb_B (dC, dI) vwCl (bb_C h0 a0 a1 a2 a3 cA w pr vo vf k) [(cA, .int)])) (QcRead (bb_I (bb_only vf b v))) 0 0 (fun _ => False) := by
  refine Met.ofW (cc := cX0_isOnlyValue) (maxL := 3) (ret := some .boolean) (by decide) rfl ?_
  intro p e s m args below meth c s₁ B hml hv
  obtain ⟨rfl, hP, hK⟩ := hv
  have hx := B.exec
  have hb := B.bytes
  have hr := B.returns
  have hts := atoms_spec (ws := wsX0_isOnlyValue) B.pre
  have hown : s.vm.findClass RX0 = some m.cls := findClass_of_methodNamed B.named
  have hlocks := B.notSynchronized
  have hin : ∀ w9 ∈ u_ws RX0 TX0 5, w9 ∈ wsX0_isOnlyValue := fun w9 h9 => List.mem_cons_of_mem _ (bb_inX0 w9 h9)
  have hf19 := hts _ (List.mem_cons_of_mem _ bb_fX0_19)
  have hl := lv_entry ([.ref h0, .int (nI b), .int v]) (n := 3) (Nat.le_of_ble_eq_true rfl)
  rw [lg_entry_eq]
  generalize (lg_sl ([.ref h0, .int (nI b), .int v]) ++ List.replicate (3 - (lg_sl ([.ref h0, .int (nI b), .int v])).length) Slot.unset).toArray = ls at hl ⊢
  have hl : lv_has ls 3 [(0, .ref h0), (1, .int (nI b)), (2, .int v)] := hl
  refine lv_aload_n hx hb dX0_isOnlyValue_0 rfl (lv_at hl 0 rfl) ?_
  refine va_get (D := (dC, dI)) (ci := 0) (v := .ref a3) (C := RX0) (T := TX0) (N := 5) hx hb hts hin hown hK hP 0 rfl rfl 3 (by decide) hf19 (fun _ h9 => h9) rfl dX0_isOnlyValue_1 ?_
  refine lv_iload_n hx hb dX0_isOnlyValue_4 rfl (lv_at hl 1 rfl) ?_
  refine bb_ald hx hb hK hP 4 0 rfl rfl b (by omega) (by decide) dX0_isOnlyValue_5 ?_
  refine lv_iconst (v := (-1)) hx hb dX0_isOnlyValue_6 (by decide) ?_
  refine lv_icmp_eq (tgt := 20) hx hb dX0_isOnlyValue_7 rfl (fun h7 => ?_) (fun h7 => ?_)
  · skip
    refine lv_iconst (v := 1) hx hb dX0_isOnlyValue_20 (by decide) ?_
    refine lv_goto (tgt := 25) hx hb dX0_isOnlyValue_21 rfl ?_
    have er : bb_I (bb_only vf b v) = 1 := by simp [bb_I, bb_only, h7]
    exact W.zret (v := 1) hx hb hr bb_z1 (fun t ht _ => ⟨by rw [er], ht⟩) (fun _ h => nomatch h) dX0_isOnlyValue_25
  · skip
    refine lv_aload_n hx hb dX0_isOnlyValue_10 rfl (lv_at hl 0 rfl) ?_
    refine va_get (D := (dC, dI)) (ci := 0) (v := .ref a3) (C := RX0) (T := TX0) (N := 5) hx hb hts hin hown hK hP 0 rfl rfl 3 (by decide) hf19 (fun _ h9 => h9) rfl dX0_isOnlyValue_11 ?_
    refine lv_iload_n hx hb dX0_isOnlyValue_14 rfl (lv_at hl 1 rfl) ?_
    refine bb_ald hx hb hK hP 4 0 rfl rfl b (by omega) (by decide) dX0_isOnlyValue_15 ?_
    refine lv_iload_n hx hb dX0_isOnlyValue_16 rfl (lv_at hl 2 rfl) ?_
    refine lv_icmp_ne (tgt := 24) hx hb dX0_isOnlyValue_17 rfl (fun h17 => ?_) (fun h17 => ?_)
    · skip
      refine lv_iconst (v := 0) hx hb dX0_isOnlyValue_24 (by decide) ?_
      have er : bb_I (bb_only vf b v) = 0 := by simp [bb_I, bb_only, h7, h17]
      exact W.zret (v := 0) hx hb hr bb_z0 (fun t ht _ => ⟨by rw [er], ht⟩) (fun _ h => nomatch h) dX0_isOnlyValue_25
    · skip
      refine lv_iconst (v := 1) hx hb dX0_isOnlyValue_20 (by decide) ?_
      refine lv_goto (tgt := 25) hx hb dX0_isOnlyValue_21 rfl ?_
      have er : bb_I (bb_only vf b v) = 1 := by simp [bb_I, bb_only, h7, h17]
      exact W.zret (v := 1) hx hb hr bb_z1 (fun t ht _ => ⟨by rw [er], ht⟩) (fun _ h => nomatch h) dX0_isOnlyValue_25

set_option maxHeartbeats 4000000 in
set_option maxRecDepth 100000 in
theorem k_hasWayToChoose (l : Launch) (dC : Nat → ClassId) (dI : Nat → Nat → Nat) (cA : ClassId) (h0 a0 a1 a2 a3 : Nat) (w pr vo vf : Nat → Int32) (k : Int32) (b : Nat) (hb0 : b < 31) : Met l yX0_hasWayToChoose wsX0_hasWayToChoose ({ frames := 3, cells := 0, slots := 0, locals := 66 }) (va_Pc [.ref h0, .int (nI b)] (bb_B (dC, dI) vwCl (bb_C h0 a0 a1 a2 a3 cA w pr vo vf k) [(cA, .int)])) (QcRead (bb_I (bb_way w k pr vo b))) 0 0 (fun _ => False) := by
  refine Met.ofW (cc := cX0_hasWayToChoose) (maxL := 2) (ret := some .boolean) (by decide) rfl ?_
  intro p e s m args below meth c s₁ B hml hv
  obtain ⟨rfl, hP, hK⟩ := hv
  have hx := B.exec
  have hb := B.bytes
  have hr := B.returns
  have hts := atoms_spec (ws := wsX0_hasWayToChoose) B.pre
  have hown : s.vm.findClass RX0 = some m.cls := findClass_of_methodNamed B.named
  have hlocks := B.notSynchronized
  have hin : ∀ w9 ∈ u_ws RX0 TX0 5, w9 ∈ wsX0_hasWayToChoose := fun w9 h9 => List.mem_cons_of_mem _ (bb_inX0 w9 h9)
  have hf16 := hts _ (List.mem_cons_of_mem _ bb_fX0_16)
  have hl := lv_entry ([.ref h0, .int (nI b)]) (n := 2) (Nat.le_of_ble_eq_true rfl)
  rw [lg_entry_eq]
  generalize (lg_sl ([.ref h0, .int (nI b)]) ++ List.replicate (2 - (lg_sl ([.ref h0, .int (nI b)])).length) Slot.unset).toArray = ls at hl ⊢
  have hl : lv_has ls 2 [(0, .ref h0), (1, .int (nI b))] := hl
  refine lv_aload_n hx hb dX0_hasWayToChoose_0 rfl (lv_at hl 0 rfl) ?_
  refine lv_aload_n hx hb dX0_hasWayToChoose_1 rfl (lv_at hl 0 rfl) ?_
  refine va_get (D := (dC, dI)) (ci := 0) (v := .ref a2) (C := RX0) (T := TX0) (N := 5) hx hb hts hin hown hK hP 0 rfl rfl 2 (by decide) hf16 (fun _ h9 => h9) rfl dX0_hasWayToChoose_2 ?_
  refine lv_iload_n hx hb dX0_hasWayToChoose_5 rfl (lv_at hl 1 rfl) ?_
  refine bb_ald hx hb hK hP 3 0 rfl rfl b (by omega) (by decide) dX0_hasWayToChoose_6 ?_
  refine lv_aload_n hx hb dX0_hasWayToChoose_7 rfl (lv_at hl 0 rfl) ?_
  refine lv_iload_n hx hb dX0_hasWayToChoose_8 rfl (lv_at hl 1 rfl) ?_
  refine bb_cV (As := [.int (nI b)]) (rest := [.int (vo b), .ref h0]) (r := bb_bl (bb_op pr vo b) 10) 0 ⟨hx, hb, hml, hown, hts⟩ (k_openNodes l dC dI cA h0 a0 a1 a2 a3 w pr vo vf k b (by omega)) (cwV 1 hts gX0_hasWayToChoose_X0_openNodes rfl rfl rfl (by decide +kernel) ⟨Nat.le_of_ble_eq_true rfl, Nat.le_of_ble_eq_true rfl⟩) hP hK rfl rfl rfl hl.1 rfl (Nat.le_of_ble_eq_true rfl) dX0_hasWayToChoose_9 (Nat.zero_le _) (Nat.zero_le _) ?_
  refine lv_ior hx hb dX0_hasWayToChoose_12 ?_
  refine bb_cV (As := [.int ((vo b) ||| (bb_bl (bb_op pr vo b) 10))]) (rest := []) (r := bb_I (bb_en w k ((vo b) ||| (bb_bl (bb_op pr vo b) 10)))) 0 ⟨hx, hb, hml, hown, hts⟩ (k_isEnough l dC dI cA h0 a0 a1 a2 a3 w pr vo vf k ((vo b) ||| (bb_bl (bb_op pr vo b) 10))) (cwV 1 hts gX0_hasWayToChoose_X0_isEnough rfl rfl rfl (by decide +kernel) ⟨Nat.le_of_ble_eq_true rfl, Nat.le_of_ble_eq_true rfl⟩) hP hK rfl rfl rfl hl.1 rfl (Nat.le_of_ble_eq_true rfl) dX0_hasWayToChoose_13 (Nat.zero_le _) (Nat.zero_le _) ?_
  have er : bb_I (bb_way w k pr vo b) = bb_I (bb_en w k ((vo b) ||| (bb_bl (bb_op pr vo b) 10))) := by simp [bb_way]
  exact W.zret (v := bb_I (bb_en w k ((vo b) ||| (bb_bl (bb_op pr vo b) 10)))) hx hb hr (bb_zI _) (fun t ht _ => ⟨by rw [er], ht⟩) (fun _ h => nomatch h) dX0_hasWayToChoose_16

set_option maxHeartbeats 4000000 in
set_option maxRecDepth 100000 in
theorem k_isSafe (l : Launch) (dC : Nat → ClassId) (dI : Nat → Nat → Nat) (cA : ClassId) (h0 a0 a1 a2 a3 : Nat) (w pr vo vf : Nat → Int32) (k : Int32) (b : Nat) (v : Int32) (hb0 : b ≤ 31) : Met l yX0_isSafe wsX0_isSafe ({ frames := 4, cells := 0, slots := 0, locals := 87 }) (va_Pc [.ref h0, .int (nI b), .int v] (bb_B (dC, dI) vwCl (bb_C h0 a0 a1 a2 a3 cA w pr vo vf k) [(cA, .int)])) (QcRead (bb_I (bb_saf w k pr vo vf b v))) 0 0 (fun _ => False) := by
  refine Met.ofW (cc := cX0_isSafe) (maxL := 4) (ret := some .boolean) (by decide) rfl ?_
  intro p e s m args below meth c s₁ B hml hv
  obtain ⟨rfl, hP, hK⟩ := hv
  have hx := B.exec
  have hb := B.bytes
  have hr := B.returns
  have hts := atoms_spec (ws := wsX0_isSafe) B.pre
  have hown : s.vm.findClass RX0 = some m.cls := findClass_of_methodNamed B.named
  have hlocks := B.notSynchronized
  have hin : ∀ w9 ∈ u_ws RX0 TX0 5, w9 ∈ wsX0_isSafe := fun w9 h9 => List.mem_cons_of_mem _ (bb_inX0 w9 h9)
  have hf19 := hts _ (List.mem_cons_of_mem _ bb_fX0_19)
  have hl := lv_entry ([.ref h0, .int (nI b), .int v]) (n := 4) (Nat.le_of_ble_eq_true rfl)
  rw [lg_entry_eq]
  generalize (lg_sl ([.ref h0, .int (nI b), .int v]) ++ List.replicate (4 - (lg_sl ([.ref h0, .int (nI b), .int v])).length) Slot.unset).toArray = ls at hl ⊢
  have hl : lv_has ls 4 [(0, .ref h0), (1, .int (nI b)), (2, .int v)] := hl
  refine lv_iconst (v := 0) hx hb dX0_isSafe_0 (by decide) ?_
  refine lv_istore_n (lv' := [(3, .int 0), (0, .ref h0), (1, .int (nI b)), (2, .int v)]) hx hb dX0_isSafe_1 rfl hl (by decide) rfl (fun ls hl => ?_)
  have hl : lv_has ls 4 [(0, .ref h0), (1, .int (nI b)), (2, .int v), (3, .int 0)] := lv_sub hl [1, 2, 3, 0] rfl
  refine bb_forW (pc := 2) (I := fun j9 ls => lv_has ls 4 [(0, .ref h0), (1, .int (nI b)), (2, .int v), (3, .int (nI j9))] ∧ bb_al (fun c9 => !(decide (vf c9 ≠ v) && bb_way w k pr vo c9)) j9 = true) b ?_ ?_ 0 ls (Nat.zero_le _) ⟨hl, rfl⟩
  · skip
    intro j ls hj hI ihj
    obtain ⟨hl, hno⟩ := hI
    refine lv_iload_n hx hb dX0_isSafe_2 rfl (lv_at hl 3 rfl) ?_
    refine lv_iload_n hx hb dX0_isSafe_3 rfl (lv_at hl 1 rfl) ?_
    refine lv_icmp_ge (tgt := 33) hx hb dX0_isSafe_4 rfl (fun h4 => absurd h4 (nI_ge hj (by omega))) (fun h4 => ?_)
    have q4 := bb_lt h4
    refine lv_aload_n hx hb dX0_isSafe_7 rfl (lv_at hl 0 rfl) ?_
    refine va_get (D := (dC, dI)) (ci := 0) (v := .ref a3) (C := RX0) (T := TX0) (N := 5) hx hb hts hin hown hK hP 0 rfl rfl 3 (by decide) hf19 (fun _ h9 => h9) rfl dX0_isSafe_8 ?_
    refine lv_iload_n hx hb dX0_isSafe_11 rfl (lv_at hl 3 rfl) ?_
    refine bb_ald hx hb hK hP 4 0 rfl rfl j (by omega) (by decide) dX0_isSafe_12 ?_
    refine lv_iload_n hx hb dX0_isSafe_13 rfl (lv_at hl 2 rfl) ?_
    refine lv_icmp_eq (tgt := 27) hx hb dX0_isSafe_14 rfl (fun h14 => ?_) (fun h14 => ?_)
    · skip
      refine lv_iinc (v := nI (j + 1)) (lv' := [(3, .int (nI (j + 1))), (0, .ref h0), (1, .int (nI b)), (2, .int v)]) hx hb dX0_isSafe_27 hl (k := 3) rfl (bb_inc _) (by decide) rfl (fun ls hl => ?_)
      refine lv_goto (tgt := 2) hx hb dX0_isSafe_30 rfl ?_
      have hl : lv_has ls 4 [(0, .ref h0), (1, .int (nI b)), (2, .int v), (3, .int (nI (j + 1)))] := lv_sub hl [1, 2, 3, 0] rfl
      exact ihj ls ⟨hl, by exact bb_al_step hno (by simp [h4, q4, h14])⟩
    · skip
      refine lv_aload_n hx hb dX0_isSafe_17 rfl (lv_at hl 0 rfl) ?_
      refine lv_iload_n hx hb dX0_isSafe_18 rfl (lv_at hl 3 rfl) ?_
      refine bb_cV (As := [.int (nI j)]) (rest := []) (r := bb_I (bb_way w k pr vo j)) 0 ⟨hx, hb, hml, hown, hts⟩ (k_hasWayToChoose l dC dI cA h0 a0 a1 a2 a3 w pr vo vf k j (by omega)) (cwV 1 hts gX0_isSafe_X0_hasWayToChoose rfl rfl rfl (by decide +kernel) ⟨Nat.le_of_ble_eq_true rfl, Nat.le_of_ble_eq_true rfl⟩) hP hK rfl rfl rfl hl.1 rfl (Nat.le_of_ble_eq_true rfl) dX0_isSafe_19 (Nat.zero_le _) (Nat.zero_le _) ?_
      refine lv_if_eq (tgt := 27) hx hb dX0_isSafe_22 rfl (fun h22 => ?_) (fun h22 => ?_)
      · skip
        have q22 := bb_I_0.mp h22
        refine lv_iinc (v := nI (j + 1)) (lv' := [(3, .int (nI (j + 1))), (0, .ref h0), (1, .int (nI b)), (2, .int v)]) hx hb dX0_isSafe_27 hl (k := 3) rfl (bb_inc _) (by decide) rfl (fun ls hl => ?_)
        refine lv_goto (tgt := 2) hx hb dX0_isSafe_30 rfl ?_
        have hl : lv_has ls 4 [(0, .ref h0), (1, .int (nI b)), (2, .int v), (3, .int (nI (j + 1)))] := lv_sub hl [1, 2, 3, 0] rfl
        exact ihj ls ⟨hl, by exact bb_al_step hno (by simp [h4, q4, h14, h22, q22])⟩
      · skip
        have q22 := bb_nz h22
        refine lv_iconst (v := 0) hx hb dX0_isSafe_25 (by decide) ?_
        have er : bb_I (bb_saf w k pr vo vf b v) = 0 := by unfold bb_saf; rw [bb_al_no (j := j) (by simp [h4, q4, h14, h22, q22]) hj]; rfl
        exact W.zret (v := 0) hx hb hr bb_z0 (fun t ht _ => ⟨by rw [er], ht⟩) (fun _ h => nomatch h) dX0_isSafe_26
  · skip
    intro ls hI
    obtain ⟨hl, hno⟩ := hI
    refine lv_iload_n hx hb dX0_isSafe_2 rfl (lv_at hl 3 rfl) ?_
    refine lv_iload_n hx hb dX0_isSafe_3 rfl (lv_at hl 1 rfl) ?_
    refine lv_icmp_ge (tgt := 33) hx hb dX0_isSafe_4 rfl (fun h4 => ?_) (fun h4 => absurd (nI_le (Nat.le_refl _) (by omega)) h4)
    have q4 := bb_nlt h4
    refine lv_iconst (v := 1) hx hb dX0_isSafe_33 (by decide) ?_
    have er : bb_I (bb_saf w k pr vo vf b v) = 1 := by unfold bb_saf; rw [hno]; rfl
    exact W.zret (v := 1) hx hb hr bb_z1 (fun t ht _ => ⟨by rw [er], ht⟩) (fun _ h => nomatch h) dX0_isSafe_34

set_option maxHeartbeats 4000000 in
set_option maxRecDepth 100000 in
theorem k_chosenValue (l : Launch) (dC : Nat → ClassId) (dI : Nat → Nat → Nat) (cA : ClassId) (h0 a0 a1 a2 a3 : Nat) (w pr vo vf : Nat → Int32) (k : Int32) (b : Nat) (hb0 : b < 31) : Met l yX0_chosenValue wsX0_chosenValue ({ frames := 3, cells := 0, slots := 0, locals := 65 }) (va_Pc [.ref h0, .int (nI b)] (bb_B (dC, dI) vwCl (bb_C h0 a0 a1 a2 a3 cA w pr vo vf k) [(cA, .int)])) (QcRead (bb_cho w k vo vf b)) 0 0 (fun _ => False) := by
  refine Met.ofW (cc := cX0_chosenValue) (maxL := 2) (ret := some .int) (by decide) rfl ?_
  intro p e s m args below meth c s₁ B hml hv
  obtain ⟨rfl, hP, hK⟩ := hv
  have hx := B.exec
  have hb := B.bytes
  have hr := B.returns
  have hts := atoms_spec (ws := wsX0_chosenValue) B.pre
  have hown : s.vm.findClass RX0 = some m.cls := findClass_of_methodNamed B.named
  have hlocks := B.notSynchronized
  have hin : ∀ w9 ∈ u_ws RX0 TX0 5, w9 ∈ wsX0_chosenValue := fun w9 h9 => List.mem_cons_of_mem _ (bb_inX0 w9 h9)
  have hf16 := hts _ (List.mem_cons_of_mem _ bb_fX0_16)
  have hf19 := hts _ (List.mem_cons_of_mem _ bb_fX0_19)
  have hl := lv_entry ([.ref h0, .int (nI b)]) (n := 2) (Nat.le_of_ble_eq_true rfl)
  rw [lg_entry_eq]
  generalize (lg_sl ([.ref h0, .int (nI b)]) ++ List.replicate (2 - (lg_sl ([.ref h0, .int (nI b)])).length) Slot.unset).toArray = ls at hl ⊢
  have hl : lv_has ls 2 [(0, .ref h0), (1, .int (nI b))] := hl
  refine lv_aload_n hx hb dX0_chosenValue_0 rfl (lv_at hl 0 rfl) ?_
  refine lv_aload_n hx hb dX0_chosenValue_1 rfl (lv_at hl 0 rfl) ?_
  refine va_get (D := (dC, dI)) (ci := 0) (v := .ref a2) (C := RX0) (T := TX0) (N := 5) hx hb hts hin hown hK hP 0 rfl rfl 2 (by decide) hf16 (fun _ h9 => h9) rfl dX0_chosenValue_2 ?_
  refine lv_iload_n hx hb dX0_chosenValue_5 rfl (lv_at hl 1 rfl) ?_
  refine bb_ald hx hb hK hP 3 0 rfl rfl b (by omega) (by decide) dX0_chosenValue_6 ?_
  refine bb_cV (As := [.int (vo b)]) (rest := []) (r := bb_I (bb_en w k (vo b))) 0 ⟨hx, hb, hml, hown, hts⟩ (k_isEnough l dC dI cA h0 a0 a1 a2 a3 w pr vo vf k (vo b)) (cwV 1 hts gX0_chosenValue_X0_isEnough rfl rfl rfl (by decide +kernel) ⟨Nat.le_of_ble_eq_true rfl, Nat.le_of_ble_eq_true rfl⟩) hP hK rfl rfl rfl hl.1 rfl (Nat.le_of_ble_eq_true rfl) dX0_chosenValue_7 (Nat.zero_le _) (Nat.zero_le _) ?_
  refine lv_if_eq (tgt := 22) hx hb dX0_chosenValue_10 rfl (fun h10 => ?_) (fun h10 => ?_)
  · skip
    have q10 := bb_I_0.mp h10
    refine lv_iconst (v := (-1)) hx hb dX0_chosenValue_22 (by decide) ?_
    have er : bb_cho w k vo vf b = (-1) := by simp [bb_cho, h10, q10]
    exact W.iret (v := (-1)) hx hb hr (fun t ht _ => ⟨by rw [er], ht⟩) (fun _ h => nomatch h) dX0_chosenValue_23
  · skip
    have q10 := bb_nz h10
    refine lv_aload_n hx hb dX0_chosenValue_13 rfl (lv_at hl 0 rfl) ?_
    refine va_get (D := (dC, dI)) (ci := 0) (v := .ref a3) (C := RX0) (T := TX0) (N := 5) hx hb hts hin hown hK hP 0 rfl rfl 3 (by decide) hf19 (fun _ h9 => h9) rfl dX0_chosenValue_14 ?_
    refine lv_iload_n hx hb dX0_chosenValue_17 rfl (lv_at hl 1 rfl) ?_
    refine bb_ald hx hb hK hP 4 0 rfl rfl b (by omega) (by decide) dX0_chosenValue_18 ?_
    refine lv_goto (tgt := 23) hx hb dX0_chosenValue_19 rfl ?_
    have er : bb_cho w k vo vf b = vf b := by simp [bb_cho, h10, q10]
    exact W.iret (v := vf b) hx hb hr (fun t ht _ => ⟨by rw [er], ht⟩) (fun _ h => nomatch h) dX0_chosenValue_23

set_option maxHeartbeats 4000000 in
set_option maxRecDepth 100000 in
theorem k_highestPromise (l : Launch) (dC : Nat → ClassId) (dI : Nat → Nat → Nat) (cA : ClassId) (h0 a0 a1 a2 a3 : Nat) (w pr vo vf : Nat → Int32) (k : Int32) (st : Int32) : Met l yX0_highestPromise wsX0_highestPromise ({ frames := 1, cells := 0, slots := 0, locals := 21 }) (va_Pc [.ref h0, .int st] (bb_B (dC, dI) vwCl (bb_C h0 a0 a1 a2 a3 cA w pr vo vf k) [(cA, .int)])) (QcRead (bb_hm pr st 10)) 0 0 (fun _ => False) := by
  refine Met.ofW (cc := cX0_highestPromise) (maxL := 4) (ret := some .int) (by decide) rfl ?_
  intro p e s m args below meth c s₁ B hml hv
  obtain ⟨rfl, hP, hK⟩ := hv
  have hx := B.exec
  have hb := B.bytes
  have hr := B.returns
  have hts := atoms_spec (ws := wsX0_highestPromise) B.pre
  have hown : s.vm.findClass RX0 = some m.cls := findClass_of_methodNamed B.named
  have hlocks := B.notSynchronized
  have hin : ∀ w9 ∈ u_ws RX0 TX0 5, w9 ∈ wsX0_highestPromise := fun w9 h9 => List.mem_cons_of_mem _ (bb_inX0 w9 h9)
  have hf13 := hts _ (List.mem_cons_of_mem _ bb_fX0_13)
  have hl := lv_entry ([.ref h0, .int st]) (n := 4) (Nat.le_of_ble_eq_true rfl)
  rw [lg_entry_eq]
  generalize (lg_sl ([.ref h0, .int st]) ++ List.replicate (4 - (lg_sl ([.ref h0, .int st])).length) Slot.unset).toArray = ls at hl ⊢
  have hl : lv_has ls 4 [(0, .ref h0), (1, .int st)] := hl
  refine lv_iconst (v := 0) hx hb dX0_highestPromise_0 (by decide) ?_
  refine lv_istore_n (lv' := [(2, .int 0), (0, .ref h0), (1, .int st)]) hx hb dX0_highestPromise_1 rfl hl (by decide) rfl (fun ls hl => ?_)
  refine lv_iconst (v := 0) hx hb dX0_highestPromise_2 (by decide) ?_
  refine lv_istore_n (lv' := [(3, .int 0), (2, .int 0), (0, .ref h0), (1, .int st)]) hx hb dX0_highestPromise_3 rfl hl (by decide) rfl (fun ls hl => ?_)
  have hl : lv_has ls 4 [(0, .ref h0), (1, .int st), (2, .int 0), (3, .int 0)] := lv_sub hl [2, 3, 1, 0] rfl
  refine bb_forW (pc := 4) (I := fun j9 ls => lv_has ls 4 [(0, .ref h0), (1, .int st), (2, .int (bb_hm pr st j9)), (3, .int (nI j9))]) 10 ?_ ?_ 0 ls (Nat.zero_le _) hl
  · skip
    intro j ls hj hI ihj
    have hl := hI
    refine lv_iload_n hx hb dX0_highestPromise_4 rfl (lv_at hl 3 rfl) ?_
    refine lv_bipush (v := nI 10) hx hb dX0_highestPromise_5 (by decide) ?_
    refine lv_icmp_ge (tgt := 35) hx hb dX0_highestPromise_7 rfl (fun h7 => absurd h7 (nI_ge hj (by decide))) (fun h7 => ?_)
    have q7 := bb_lt h7
    refine lv_iload_n hx hb dX0_highestPromise_10 rfl (lv_at hl 1 rfl) ?_
    refine lv_iload_n hx hb dX0_highestPromise_11 rfl (lv_at hl 3 rfl) ?_
    refine bb_cS (As := [.int st, .int (nI j)]) (rest := []) (r := bb_I (bb_hb st j)) ⟨hx, hb, hml, hown, hts⟩ (k_holds l st j) (cwS 2 hts gX0_highestPromise_X0_holds rfl rfl rfl (by decide +kernel) ⟨Nat.le_of_ble_eq_true rfl, Nat.le_of_ble_eq_true rfl⟩) rfl hl.1 rfl (Nat.le_of_ble_eq_true rfl) dX0_highestPromise_12 (Nat.zero_le _) (Nat.zero_le _) ?_
    refine lv_if_eq (tgt := 29) hx hb dX0_highestPromise_15 rfl (fun h15 => ?_) (fun h15 => ?_)
    · skip
      have q15 := bb_I_0.mp h15
      refine lv_iinc (v := nI (j + 1)) (lv' := [(3, .int (nI (j + 1))), (0, .ref h0), (1, .int st), (2, .int (bb_hm pr st j))]) hx hb dX0_highestPromise_29 hl (k := 3) rfl (bb_inc _) (by decide) rfl (fun ls hl => ?_)
      refine lv_goto (tgt := 4) hx hb dX0_highestPromise_32 rfl ?_
      have hl : lv_has ls 4 [(0, .ref h0), (1, .int st), (2, .int (bb_hm pr st j)), (3, .int (nI (j + 1)))] := lv_sub hl [1, 2, 3, 0] rfl
      have e1 : (bb_hm pr st j) = bb_hm pr st (j + 1) := by simp [bb_hm, h7, q7, h15, q15]
      have hl : lv_has ls 4 [(0, .ref h0), (1, .int st), (2, .int (bb_hm pr st (j + 1))), (3, .int (nI (j + 1)))] := by rw [← e1]; exact hl
      exact ihj ls hl
    · skip
      have q15 := bb_nz h15
      refine lv_iload_n hx hb dX0_highestPromise_18 rfl (lv_at hl 2 rfl) ?_
      refine lv_aload_n hx hb dX0_highestPromise_19 rfl (lv_at hl 0 rfl) ?_
      refine va_get (D := (dC, dI)) (ci := 0) (v := .ref a1) (C := RX0) (T := TX0) (N := 5) hx hb hts hin hown hK hP 0 rfl rfl 1 (by decide) hf13 (fun _ h9 => h9) rfl dX0_highestPromise_20 ?_
      refine lv_iload_n hx hb dX0_highestPromise_23 rfl (lv_at hl 3 rfl) ?_
      refine bb_ald hx hb hK hP 2 0 rfl rfl j (by omega) (by decide) dX0_highestPromise_24 ?_
      refine va_mmax hx hb (hml.trans hl.1.symm) (own := RX0) (index := 150) hown (hts _ (List.mem_cons_of_mem _ bb_mmax_l)) (hts _ (List.mem_cons_of_mem _ bb_mmax_s)) (hts _ (List.mem_cons_of_mem _ bb_mini)) (hts _ (List.mem_cons_of_mem _ bb_mmax_c)) (Nat.le_of_ble_eq_true rfl) (Nat.le_of_ble_eq_true rfl) (Nat.zero_le _) (Nat.zero_le _) dX0_highestPromise_25 ?_
      refine lv_istore_n (lv' := [(2, .int (if (bb_hm pr st j) < (pr j) then (pr j) else (bb_hm pr st j))), (0, .ref h0), (1, .int st), (3, .int (nI j))]) hx hb dX0_highestPromise_28 rfl hl (by decide) rfl (fun ls hl => ?_)
      refine lv_iinc (v := nI (j + 1)) (lv' := [(3, .int (nI (j + 1))), (2, .int (if (bb_hm pr st j) < (pr j) then (pr j) else (bb_hm pr st j))), (0, .ref h0), (1, .int st)]) hx hb dX0_highestPromise_29 hl (k := 3) rfl (bb_inc _) (by decide) rfl (fun ls hl => ?_)
      refine lv_goto (tgt := 4) hx hb dX0_highestPromise_32 rfl ?_
      have hl : lv_has ls 4 [(0, .ref h0), (1, .int st), (2, .int (if (bb_hm pr st j) < (pr j) then (pr j) else (bb_hm pr st j))), (3, .int (nI (j + 1)))] := lv_sub hl [2, 3, 1, 0] rfl
      have e2 : (if (bb_hm pr st j) < (pr j) then (pr j) else (bb_hm pr st j)) = bb_hm pr st (j + 1) := by simp [bb_hm, h7, q7, h15, q15]
      have hl : lv_has ls 4 [(0, .ref h0), (1, .int st), (2, .int (bb_hm pr st (j + 1))), (3, .int (nI (j + 1)))] := by rw [← e2]; exact hl
      exact ihj ls hl
  · skip
    intro ls hI
    have hl := hI
    refine lv_iload_n hx hb dX0_highestPromise_4 rfl (lv_at hl 3 rfl) ?_
    refine lv_bipush (v := nI 10) hx hb dX0_highestPromise_5 (by decide) ?_
    refine lv_icmp_ge (tgt := 35) hx hb dX0_highestPromise_7 rfl (fun h7 => ?_) (fun h7 => absurd (nI_le (Nat.le_refl _) (by decide)) h7)
    have q7 := bb_nlt h7
    refine lv_iload_n hx hb dX0_highestPromise_35 rfl (lv_at hl 2 rfl) ?_
    exact W.iret (v := bb_hm pr st 10) hx hb hr (fun t ht _ => ⟨rfl, ht⟩) (fun _ h => nomatch h) dX0_highestPromise_36

set_option maxHeartbeats 4000000 in
set_option maxRecDepth 100000 in
theorem k_ballotsVotedIn (l : Launch) (dC : Nat → ClassId) (dI : Nat → Nat → Nat) (cA : ClassId) (h0 a0 a1 a2 a3 : Nat) (w pr vo vf : Nat → Int32) (k : Int32) (n : Nat) : Met l yX0_ballotsVotedIn wsX0_ballotsVotedIn ({ frames := 1, cells := 0, slots := 0, locals := 21 }) (va_Pc [.ref h0, .int (nI n)] (bb_B (dC, dI) vwCl (bb_C h0 a0 a1 a2 a3 cA w pr vo vf k) [(cA, .int)])) (QcRead (nI (bb_cn (fun b9 => bb_hb (vo b9) n) 31))) 0 0 (fun _ => False) := by
  refine Met.ofW (cc := cX0_ballotsVotedIn) (maxL := 4) (ret := some .int) (by decide) rfl ?_
  intro p e s m args below meth c s₁ B hml hv
  obtain ⟨rfl, hP, hK⟩ := hv
  have hx := B.exec
  have hb := B.bytes
  have hr := B.returns
  have hts := atoms_spec (ws := wsX0_ballotsVotedIn) B.pre
  have hown : s.vm.findClass RX0 = some m.cls := findClass_of_methodNamed B.named
  have hlocks := B.notSynchronized
  have hin : ∀ w9 ∈ u_ws RX0 TX0 5, w9 ∈ wsX0_ballotsVotedIn := fun w9 h9 => List.mem_cons_of_mem _ (bb_inX0 w9 h9)
  have hf16 := hts _ (List.mem_cons_of_mem _ bb_fX0_16)
  have hl := lv_entry ([.ref h0, .int (nI n)]) (n := 4) (Nat.le_of_ble_eq_true rfl)
  rw [lg_entry_eq]
  generalize (lg_sl ([.ref h0, .int (nI n)]) ++ List.replicate (4 - (lg_sl ([.ref h0, .int (nI n)])).length) Slot.unset).toArray = ls at hl ⊢
  have hl : lv_has ls 4 [(0, .ref h0), (1, .int (nI n))] := hl
  refine lv_iconst (v := 0) hx hb dX0_ballotsVotedIn_0 (by decide) ?_
  refine lv_istore_n (lv' := [(2, .int 0), (0, .ref h0), (1, .int (nI n))]) hx hb dX0_ballotsVotedIn_1 rfl hl (by decide) rfl (fun ls hl => ?_)
  refine lv_iconst (v := 0) hx hb dX0_ballotsVotedIn_2 (by decide) ?_
  refine lv_istore_n (lv' := [(3, .int 0), (2, .int 0), (0, .ref h0), (1, .int (nI n))]) hx hb dX0_ballotsVotedIn_3 rfl hl (by decide) rfl (fun ls hl => ?_)
  have hl : lv_has ls 4 [(0, .ref h0), (1, .int (nI n)), (2, .int 0), (3, .int 0)] := lv_sub hl [2, 3, 1, 0] rfl
  refine bb_forW (pc := 4) (I := fun j9 ls => lv_has ls 4 [(0, .ref h0), (1, .int (nI n)), (2, .int (nI (bb_cn (fun b9 => bb_hb (vo b9) n) j9))), (3, .int (nI j9))]) 31 ?_ ?_ 0 ls (Nat.zero_le _) hl
  · skip
    intro j ls hj hI ihj
    have hl := hI
    refine lv_iload_n hx hb dX0_ballotsVotedIn_4 rfl (lv_at hl 3 rfl) ?_
    refine lv_bipush (v := nI 31) hx hb dX0_ballotsVotedIn_5 (by decide) ?_
    refine lv_icmp_ge (tgt := 32) hx hb dX0_ballotsVotedIn_7 rfl (fun h7 => absurd h7 (nI_ge hj (by decide))) (fun h7 => ?_)
    have q7 := bb_lt h7
    refine lv_aload_n hx hb dX0_ballotsVotedIn_10 rfl (lv_at hl 0 rfl) ?_
    refine va_get (D := (dC, dI)) (ci := 0) (v := .ref a2) (C := RX0) (T := TX0) (N := 5) hx hb hts hin hown hK hP 0 rfl rfl 2 (by decide) hf16 (fun _ h9 => h9) rfl dX0_ballotsVotedIn_11 ?_
    refine lv_iload_n hx hb dX0_ballotsVotedIn_14 rfl (lv_at hl 3 rfl) ?_
    refine bb_ald hx hb hK hP 3 0 rfl rfl j (by omega) (by decide) dX0_ballotsVotedIn_15 ?_
    refine lv_iload_n hx hb dX0_ballotsVotedIn_16 rfl (lv_at hl 1 rfl) ?_
    refine bb_cS (As := [.int (vo j), .int (nI n)]) (rest := []) (r := bb_I (bb_hb (vo j) n)) ⟨hx, hb, hml, hown, hts⟩ (k_holds l (vo j) n) (cwS 2 hts gX0_ballotsVotedIn_X0_holds rfl rfl rfl (by decide +kernel) ⟨Nat.le_of_ble_eq_true rfl, Nat.le_of_ble_eq_true rfl⟩) rfl hl.1 rfl (Nat.le_of_ble_eq_true rfl) dX0_ballotsVotedIn_17 (Nat.zero_le _) (Nat.zero_le _) ?_
    refine lv_if_eq (tgt := 26) hx hb dX0_ballotsVotedIn_20 rfl (fun h20 => ?_) (fun h20 => ?_)
    · skip
      have q20 := bb_I_0.mp h20
      refine lv_iinc (v := nI (j + 1)) (lv' := [(3, .int (nI (j + 1))), (0, .ref h0), (1, .int (nI n)), (2, .int (nI (bb_cn (fun b9 => bb_hb (vo b9) n) j)))]) hx hb dX0_ballotsVotedIn_26 hl (k := 3) rfl (bb_inc _) (by decide) rfl (fun ls hl => ?_)
      refine lv_goto (tgt := 4) hx hb dX0_ballotsVotedIn_29 rfl ?_
      have hl : lv_has ls 4 [(0, .ref h0), (1, .int (nI n)), (2, .int (nI (bb_cn (fun b9 => bb_hb (vo b9) n) j))), (3, .int (nI (j + 1)))] := lv_sub hl [1, 2, 3, 0] rfl
      have e1 : (nI (bb_cn (fun b9 => bb_hb (vo b9) n) j)) = nI (bb_cn (fun b9 => bb_hb (vo b9) n) (j + 1)) := by simp [bb_cn, h7, q7, h20, q20]
      have hl : lv_has ls 4 [(0, .ref h0), (1, .int (nI n)), (2, .int (nI (bb_cn (fun b9 => bb_hb (vo b9) n) (j + 1)))), (3, .int (nI (j + 1)))] := by rw [← e1]; exact hl
      exact ihj ls hl
    · skip
      have q20 := bb_nz h20
      refine lv_iinc (v := nI ((bb_cn (fun b9 => bb_hb (vo b9) n) j) + 1)) (lv' := [(2, .int (nI ((bb_cn (fun b9 => bb_hb (vo b9) n) j) + 1))), (0, .ref h0), (1, .int (nI n)), (3, .int (nI j))]) hx hb dX0_ballotsVotedIn_23 hl (k := 2) rfl (bb_inc _) (by decide) rfl (fun ls hl => ?_)
      refine lv_iinc (v := nI (j + 1)) (lv' := [(3, .int (nI (j + 1))), (2, .int (nI ((bb_cn (fun b9 => bb_hb (vo b9) n) j) + 1))), (0, .ref h0), (1, .int (nI n))]) hx hb dX0_ballotsVotedIn_26 hl (k := 3) rfl (bb_inc _) (by decide) rfl (fun ls hl => ?_)
      refine lv_goto (tgt := 4) hx hb dX0_ballotsVotedIn_29 rfl ?_
      have hl : lv_has ls 4 [(0, .ref h0), (1, .int (nI n)), (2, .int (nI ((bb_cn (fun b9 => bb_hb (vo b9) n) j) + 1))), (3, .int (nI (j + 1)))] := lv_sub hl [2, 3, 1, 0] rfl
      have e2 : (nI ((bb_cn (fun b9 => bb_hb (vo b9) n) j) + 1)) = nI (bb_cn (fun b9 => bb_hb (vo b9) n) (j + 1)) := by simp [bb_cn, h7, q7, h20, q20]
      have hl : lv_has ls 4 [(0, .ref h0), (1, .int (nI n)), (2, .int (nI (bb_cn (fun b9 => bb_hb (vo b9) n) (j + 1)))), (3, .int (nI (j + 1)))] := by rw [← e2]; exact hl
      exact ihj ls hl
  · skip
    intro ls hI
    have hl := hI
    refine lv_iload_n hx hb dX0_ballotsVotedIn_4 rfl (lv_at hl 3 rfl) ?_
    refine lv_bipush (v := nI 31) hx hb dX0_ballotsVotedIn_5 (by decide) ?_
    refine lv_icmp_ge (tgt := 32) hx hb dX0_ballotsVotedIn_7 rfl (fun h7 => ?_) (fun h7 => absurd (nI_le (Nat.le_refl _) (by decide)) h7)
    have q7 := bb_nlt h7
    refine lv_iload_n hx hb dX0_ballotsVotedIn_32 rfl (lv_at hl 2 rfl) ?_
    exact W.iret (v := nI (bb_cn (fun b9 => bb_hb (vo b9) n) 31)) hx hb hr (fun t ht _ => ⟨rfl, ht⟩) (fun _ h => nomatch h) dX0_ballotsVotedIn_33

set_option maxHeartbeats 4000000 in
set_option maxRecDepth 100000 in
theorem k_lastBallotBelow (l : Launch) (dC : Nat → ClassId) (dI : Nat → Nat → Nat) (cA : ClassId) (h0 a0 a1 a2 a3 : Nat) (w pr vo vf : Nat → Int32) (k : Int32) (b : Nat) (st : Int32) (hb0 : b ≤ 31) : Met l yX0_lastBallotBelow wsX0_lastBallotBelow ({ frames := 0, cells := 0, slots := 0, locals := 0 }) (va_Pc [.ref h0, .int (nI b), .int st] (bb_B (dC, dI) vwCl (bb_C h0 a0 a1 a2 a3 cA w pr vo vf k) [(cA, .int)])) (QcRead (bb_la (fun c9 => decide (vo c9 &&& st ≠ 0)) b)) 0 0 (fun _ => False) := by
  refine Met.ofW (cc := cX0_lastBallotBelow) (maxL := 4) (ret := some .int) (by decide) rfl ?_
  intro p e s m args below meth c s₁ B hml hv
  obtain ⟨rfl, hP, hK⟩ := hv
  have hx := B.exec
  have hb := B.bytes
  have hr := B.returns
  have hts := atoms_spec (ws := wsX0_lastBallotBelow) B.pre
  have hown : s.vm.findClass RX0 = some m.cls := findClass_of_methodNamed B.named
  have hlocks := B.notSynchronized
  have hin : ∀ w9 ∈ u_ws RX0 TX0 5, w9 ∈ wsX0_lastBallotBelow := fun w9 h9 => List.mem_cons_of_mem _ (bb_inX0 w9 h9)
  have hf16 := hts _ (List.mem_cons_of_mem _ bb_fX0_16)
  have hl := lv_entry ([.ref h0, .int (nI b), .int st]) (n := 4) (Nat.le_of_ble_eq_true rfl)
  rw [lg_entry_eq]
  generalize (lg_sl ([.ref h0, .int (nI b), .int st]) ++ List.replicate (4 - (lg_sl ([.ref h0, .int (nI b), .int st])).length) Slot.unset).toArray = ls at hl ⊢
  have hl : lv_has ls 4 [(0, .ref h0), (1, .int (nI b)), (2, .int st)] := hl
  refine lv_iload_n hx hb dX0_lastBallotBelow_0 rfl (lv_at hl 1 rfl) ?_
  refine lv_iconst (v := 1) hx hb dX0_lastBallotBelow_1 (by decide) ?_
  refine lv_isub hx hb dX0_lastBallotBelow_2 ?_
  refine lv_istore_n (lv' := [(3, .int ((nI b) - 1)), (0, .ref h0), (1, .int (nI b)), (2, .int st)]) hx hb dX0_lastBallotBelow_3 rfl hl (by decide) rfl (fun ls hl => ?_)
  have hl : lv_has ls 4 [(0, .ref h0), (1, .int (nI b)), (2, .int st), (3, .int ((nI b) - 1))] := lv_sub hl [1, 2, 3, 0] rfl
  refine bb_downW (pc := 4) (I := fun j9 ls => lv_has ls 4 [(0, .ref h0), (1, .int (nI b)), (2, .int st), (3, .int (nI j9 - 1))] ∧ bb_la (fun c9 => decide (vo c9 &&& st ≠ 0)) b = bb_la (fun c9 => decide (vo c9 &&& st ≠ 0)) j9 ∧ j9 ≤ b) ?_ ?_ b ls ⟨hl, rfl, Nat.le_refl _⟩
  · skip
    intro j ls hI ihj
    obtain ⟨hl, hla, hjb⟩ := hI
    refine lv_iload_n hx hb dX0_lastBallotBelow_4 rfl (lv_at hl 3 rfl) ?_
    refine lv_if_lt (tgt := 27) hx hb dX0_lastBallotBelow_5 rfl (fun h5 => absurd h5 (by rw [nI_pred]; exact nI_pos (by omega))) (fun h5 => ?_)
    refine lv_aload_n hx hb dX0_lastBallotBelow_8 rfl (lv_at hl 0 rfl) ?_
    refine va_get (D := (dC, dI)) (ci := 0) (v := .ref a2) (C := RX0) (T := TX0) (N := 5) hx hb hts hin hown hK hP 0 rfl rfl 2 (by decide) hf16 (fun _ h9 => h9) rfl dX0_lastBallotBelow_9 ?_
    refine lv_iload_n hx hb dX0_lastBallotBelow_12 rfl (lv_at hl 3 rfl) ?_
    refine bb_topi (y := nI j) (nI_pred j) ?_
    refine bb_ald hx hb hK hP 3 0 rfl rfl j (by omega) (by decide) dX0_lastBallotBelow_13 ?_
    refine lv_iload_n hx hb dX0_lastBallotBelow_14 rfl (lv_at hl 2 rfl) ?_
    refine lv_iand hx hb dX0_lastBallotBelow_15 ?_
    refine lv_if_eq (tgt := 21) hx hb dX0_lastBallotBelow_16 rfl (fun h16 => ?_) (fun h16 => ?_)
    · skip
      refine lv_iinc (v := nI j - 1) (lv' := [(3, .int (nI j - 1)), (0, .ref h0), (1, .int (nI b)), (2, .int st)]) hx hb dX0_lastBallotBelow_21 hl (k := 3) rfl (bb_dec _) (by decide) rfl (fun ls hl => ?_)
      refine lv_goto (tgt := 4) hx hb dX0_lastBallotBelow_24 rfl ?_
      have hl : lv_has ls 4 [(0, .ref h0), (1, .int (nI b)), (2, .int st), (3, .int (nI j - 1))] := lv_sub hl [1, 2, 3, 0] rfl
      exact ihj ls ⟨hl, by rw [hla]; simp [bb_la, h5, h16], by omega⟩
    · skip
      refine lv_iload_n hx hb dX0_lastBallotBelow_19 rfl (lv_at hl 3 rfl) ?_
      refine bb_topi (y := nI j) (nI_pred j) ?_
      have er : bb_la (fun c9 => decide (vo c9 &&& st ≠ 0)) b = nI j := by rw [hla]; simp [bb_la, h5, h16]
      exact W.iret (v := nI j) hx hb hr (fun t ht _ => ⟨by rw [er], ht⟩) (fun _ h => nomatch h) dX0_lastBallotBelow_20
  · skip
    intro ls hI
    obtain ⟨hl, hla, hjb⟩ := hI
    refine lv_iload_n hx hb dX0_lastBallotBelow_4 rfl (lv_at hl 3 rfl) ?_
    refine lv_if_lt (tgt := 27) hx hb dX0_lastBallotBelow_5 rfl (fun h5 => ?_) (fun h5 => absurd (by decide) h5)
    refine lv_iconst (v := (-1)) hx hb dX0_lastBallotBelow_27 (by decide) ?_
    have er : bb_la (fun c9 => decide (vo c9 &&& st ≠ 0)) b = (-1) := by rw [hla]; simp [bb_la, h5]
    exact W.iret (v := (-1)) hx hb hr (fun t ht _ => ⟨by rw [er], ht⟩) (fun _ h => nomatch h) dX0_lastBallotBelow_28

set_option maxHeartbeats 4000000 in
set_option maxRecDepth 100000 in
theorem k_ballotsWithChosen (l : Launch) (dC : Nat → ClassId) (dI : Nat → Nat → Nat) (cA : ClassId) (h0 a0 a1 a2 a3 : Nat) (w pr vo vf : Nat → Int32) (k : Int32)  : Met l yX0_ballotsWithChosen wsX0_ballotsWithChosen ({ frames := 4, cells := 0, slots := 0, locals := 86 }) (va_Pc [.ref h0] (bb_B (dC, dI) vwCl (bb_C h0 a0 a1 a2 a3 cA w pr vo vf k) [(cA, .int)])) (QcRead (nI (bb_cn (fun b9 => decide (bb_cho w k vo vf b9 ≠ -1)) 31))) 0 0 (fun _ => False) := by
  refine Met.ofW (cc := cX0_ballotsWithChosen) (maxL := 3) (ret := some .int) (by decide) rfl ?_
  intro p e s m args below meth c s₁ B hml hv
  obtain ⟨rfl, hP, hK⟩ := hv
  have hx := B.exec
  have hb := B.bytes
  have hr := B.returns
  have hts := atoms_spec (ws := wsX0_ballotsWithChosen) B.pre
  have hown : s.vm.findClass RX0 = some m.cls := findClass_of_methodNamed B.named
  have hlocks := B.notSynchronized
  have hl := lv_entry ([.ref h0]) (n := 3) (Nat.le_of_ble_eq_true rfl)
  rw [lg_entry_eq]
  generalize (lg_sl ([.ref h0]) ++ List.replicate (3 - (lg_sl ([.ref h0])).length) Slot.unset).toArray = ls at hl ⊢
  have hl : lv_has ls 3 [(0, .ref h0)] := hl
  refine lv_iconst (v := 0) hx hb dX0_ballotsWithChosen_0 (by decide) ?_
  refine lv_istore_n (lv' := [(1, .int 0), (0, .ref h0)]) hx hb dX0_ballotsWithChosen_1 rfl hl (by decide) rfl (fun ls hl => ?_)
  refine lv_iconst (v := 0) hx hb dX0_ballotsWithChosen_2 (by decide) ?_
  refine lv_istore_n (lv' := [(2, .int 0), (1, .int 0), (0, .ref h0)]) hx hb dX0_ballotsWithChosen_3 rfl hl (by decide) rfl (fun ls hl => ?_)
  have hl : lv_has ls 3 [(0, .ref h0), (1, .int 0), (2, .int 0)] := lv_sub hl [2, 1, 0] rfl
  refine bb_forW (pc := 4) (I := fun j9 ls => lv_has ls 3 [(0, .ref h0), (1, .int (nI (bb_cn (fun b9 => decide (bb_cho w k vo vf b9 ≠ -1)) j9))), (2, .int (nI j9))]) 31 ?_ ?_ 0 ls (Nat.zero_le _) hl
  · skip
    intro j ls hj hI ihj
    have hl := hI
    refine lv_iload_n hx hb dX0_ballotsWithChosen_4 rfl (lv_at hl 2 rfl) ?_
    refine lv_bipush (v := nI 31) hx hb dX0_ballotsWithChosen_5 (by decide) ?_
    refine lv_icmp_ge (tgt := 28) hx hb dX0_ballotsWithChosen_7 rfl (fun h7 => absurd h7 (nI_ge hj (by decide))) (fun h7 => ?_)
    have q7 := bb_lt h7
    refine lv_aload_n hx hb dX0_ballotsWithChosen_10 rfl (lv_at hl 0 rfl) ?_
    refine lv_iload_n hx hb dX0_ballotsWithChosen_11 rfl (lv_at hl 2 rfl) ?_
    refine bb_cV (As := [.int (nI j)]) (rest := []) (r := bb_cho w k vo vf j) 0 ⟨hx, hb, hml, hown, hts⟩ (k_chosenValue l dC dI cA h0 a0 a1 a2 a3 w pr vo vf k j (by omega)) (cwV 1 hts gX0_ballotsWithChosen_X0_chosenValue rfl rfl rfl (by decide +kernel) ⟨Nat.le_of_ble_eq_true rfl, Nat.le_of_ble_eq_true rfl⟩) hP hK rfl rfl rfl hl.1 rfl (Nat.le_of_ble_eq_true rfl) dX0_ballotsWithChosen_12 (Nat.zero_le _) (Nat.zero_le _) ?_
    refine lv_iconst (v := (-1)) hx hb dX0_ballotsWithChosen_15 (by decide) ?_
    refine lv_icmp_eq (tgt := 22) hx hb dX0_ballotsWithChosen_16 rfl (fun h16 => ?_) (fun h16 => ?_)
    · skip
      refine lv_iinc (v := nI (j + 1)) (lv' := [(2, .int (nI (j + 1))), (0, .ref h0), (1, .int (nI (bb_cn (fun b9 => decide (bb_cho w k vo vf b9 ≠ -1)) j)))]) hx hb dX0_ballotsWithChosen_22 hl (k := 2) rfl (bb_inc _) (by decide) rfl (fun ls hl => ?_)
      refine lv_goto (tgt := 4) hx hb dX0_ballotsWithChosen_25 rfl ?_
      have hl : lv_has ls 3 [(0, .ref h0), (1, .int (nI (bb_cn (fun b9 => decide (bb_cho w k vo vf b9 ≠ -1)) j))), (2, .int (nI (j + 1)))] := lv_sub hl [1, 2, 0] rfl
      have e1 : (nI (bb_cn (fun b9 => decide (bb_cho w k vo vf b9 ≠ -1)) j)) = nI (bb_cn (fun b9 => decide (bb_cho w k vo vf b9 ≠ -1)) (j + 1)) := by simp [bb_cn, h7, q7, h16]
      have hl : lv_has ls 3 [(0, .ref h0), (1, .int (nI (bb_cn (fun b9 => decide (bb_cho w k vo vf b9 ≠ -1)) (j + 1)))), (2, .int (nI (j + 1)))] := by rw [← e1]; exact hl
      exact ihj ls hl
    · skip
      refine lv_iinc (v := nI ((bb_cn (fun b9 => decide (bb_cho w k vo vf b9 ≠ -1)) j) + 1)) (lv' := [(1, .int (nI ((bb_cn (fun b9 => decide (bb_cho w k vo vf b9 ≠ -1)) j) + 1))), (0, .ref h0), (2, .int (nI j))]) hx hb dX0_ballotsWithChosen_19 hl (k := 1) rfl (bb_inc _) (by decide) rfl (fun ls hl => ?_)
      refine lv_iinc (v := nI (j + 1)) (lv' := [(2, .int (nI (j + 1))), (1, .int (nI ((bb_cn (fun b9 => decide (bb_cho w k vo vf b9 ≠ -1)) j) + 1))), (0, .ref h0)]) hx hb dX0_ballotsWithChosen_22 hl (k := 2) rfl (bb_inc _) (by decide) rfl (fun ls hl => ?_)
      refine lv_goto (tgt := 4) hx hb dX0_ballotsWithChosen_25 rfl ?_
      have hl : lv_has ls 3 [(0, .ref h0), (1, .int (nI ((bb_cn (fun b9 => decide (bb_cho w k vo vf b9 ≠ -1)) j) + 1))), (2, .int (nI (j + 1)))] := lv_sub hl [2, 1, 0] rfl
      have e2 : (nI ((bb_cn (fun b9 => decide (bb_cho w k vo vf b9 ≠ -1)) j) + 1)) = nI (bb_cn (fun b9 => decide (bb_cho w k vo vf b9 ≠ -1)) (j + 1)) := by simp [bb_cn, h7, q7, h16]
      have hl : lv_has ls 3 [(0, .ref h0), (1, .int (nI (bb_cn (fun b9 => decide (bb_cho w k vo vf b9 ≠ -1)) (j + 1)))), (2, .int (nI (j + 1)))] := by rw [← e2]; exact hl
      exact ihj ls hl
  · skip
    intro ls hI
    have hl := hI
    refine lv_iload_n hx hb dX0_ballotsWithChosen_4 rfl (lv_at hl 2 rfl) ?_
    refine lv_bipush (v := nI 31) hx hb dX0_ballotsWithChosen_5 (by decide) ?_
    refine lv_icmp_ge (tgt := 28) hx hb dX0_ballotsWithChosen_7 rfl (fun h7 => ?_) (fun h7 => absurd (nI_le (Nat.le_refl _) (by decide)) h7)
    have q7 := bb_nlt h7
    refine lv_iload_n hx hb dX0_ballotsWithChosen_28 rfl (lv_at hl 1 rfl) ?_
    exact W.iret (v := nI (bb_cn (fun b9 => decide (bb_cho w k vo vf b9 ≠ -1)) 31)) hx hb hr (fun t ht _ => ⟨rfl, ht⟩) (fun _ h => nomatch h) dX0_ballotsWithChosen_29

set_option maxHeartbeats 4000000 in
set_option maxRecDepth 100000 in
theorem k_allVotes (l : Launch) (dC : Nat → ClassId) (dI : Nat → Nat → Nat) (cA : ClassId) (h0 a0 a1 a2 a3 : Nat) (w pr vo vf : Nat → Int32) (k : Int32)  : Met l yX0_allVotes wsX0_allVotes ({ frames := 1, cells := 0, slots := 0, locals := 20 }) (va_Pc [.ref h0] (bb_B (dC, dI) vwCl (bb_C h0 a0 a1 a2 a3 cA w pr vo vf k) [(cA, .int)])) (QcRead (bb_vs vo 31)) 0 0 (fun _ => False) := by
  refine Met.ofW (cc := cX0_allVotes) (maxL := 3) (ret := some .int) (by decide) rfl ?_
  intro p e s m args below meth c s₁ B hml hv
  obtain ⟨rfl, hP, hK⟩ := hv
  have hx := B.exec
  have hb := B.bytes
  have hr := B.returns
  have hts := atoms_spec (ws := wsX0_allVotes) B.pre
  have hown : s.vm.findClass RX0 = some m.cls := findClass_of_methodNamed B.named
  have hlocks := B.notSynchronized
  have hin : ∀ w9 ∈ u_ws RX0 TX0 5, w9 ∈ wsX0_allVotes := fun w9 h9 => List.mem_cons_of_mem _ (bb_inX0 w9 h9)
  have hf16 := hts _ (List.mem_cons_of_mem _ bb_fX0_16)
  have hl := lv_entry ([.ref h0]) (n := 3) (Nat.le_of_ble_eq_true rfl)
  rw [lg_entry_eq]
  generalize (lg_sl ([.ref h0]) ++ List.replicate (3 - (lg_sl ([.ref h0])).length) Slot.unset).toArray = ls at hl ⊢
  have hl : lv_has ls 3 [(0, .ref h0)] := hl
  refine lv_iconst (v := 0) hx hb dX0_allVotes_0 (by decide) ?_
  refine lv_istore_n (lv' := [(1, .int 0), (0, .ref h0)]) hx hb dX0_allVotes_1 rfl hl (by decide) rfl (fun ls hl => ?_)
  refine lv_iconst (v := 0) hx hb dX0_allVotes_2 (by decide) ?_
  refine lv_istore_n (lv' := [(2, .int 0), (1, .int 0), (0, .ref h0)]) hx hb dX0_allVotes_3 rfl hl (by decide) rfl (fun ls hl => ?_)
  have hl : lv_has ls 3 [(0, .ref h0), (1, .int 0), (2, .int 0)] := lv_sub hl [2, 1, 0] rfl
  refine bb_forW (pc := 4) (I := fun j9 ls => lv_has ls 3 [(0, .ref h0), (1, .int (bb_vs vo j9)), (2, .int (nI j9))]) 31 ?_ ?_ 0 ls (Nat.zero_le _) hl
  · skip
    intro j ls hj hI ihj
    have hl := hI
    refine lv_iload_n hx hb dX0_allVotes_4 rfl (lv_at hl 2 rfl) ?_
    refine lv_bipush (v := nI 31) hx hb dX0_allVotes_5 (by decide) ?_
    refine lv_icmp_ge (tgt := 28) hx hb dX0_allVotes_7 rfl (fun h7 => absurd h7 (nI_ge hj (by decide))) (fun h7 => ?_)
    have q7 := bb_lt h7
    refine lv_iload_n hx hb dX0_allVotes_10 rfl (lv_at hl 1 rfl) ?_
    refine lv_aload_n hx hb dX0_allVotes_11 rfl (lv_at hl 0 rfl) ?_
    refine va_get (D := (dC, dI)) (ci := 0) (v := .ref a2) (C := RX0) (T := TX0) (N := 5) hx hb hts hin hown hK hP 0 rfl rfl 2 (by decide) hf16 (fun _ h9 => h9) rfl dX0_allVotes_12 ?_
    refine lv_iload_n hx hb dX0_allVotes_15 rfl (lv_at hl 2 rfl) ?_
    refine bb_ald hx hb hK hP 3 0 rfl rfl j (by omega) (by decide) dX0_allVotes_16 ?_
    refine bb_cS (As := [.int (vo j)]) (rest := [.int (bb_vs vo j)]) (r := bb_bc (vo j)) ⟨hx, hb, hml, hown, hts⟩ (k_bitCount l (vo j)) (va_cwS 1 hts gX0_allVotes_J_bitCount rfl rfl rfl (by decide +kernel) ⟨Nat.le_of_ble_eq_true rfl, Nat.le_of_ble_eq_true rfl⟩) rfl hl.1 rfl (Nat.le_of_ble_eq_true rfl) dX0_allVotes_17 (Nat.zero_le _) (Nat.zero_le _) ?_
    refine lv_iadd hx hb dX0_allVotes_20 ?_
    refine lv_istore_n (lv' := [(1, .int ((bb_vs vo j) + (bb_bc (vo j)))), (0, .ref h0), (2, .int (nI j))]) hx hb dX0_allVotes_21 rfl hl (by decide) rfl (fun ls hl => ?_)
    refine lv_iinc (v := nI (j + 1)) (lv' := [(2, .int (nI (j + 1))), (1, .int ((bb_vs vo j) + (bb_bc (vo j)))), (0, .ref h0)]) hx hb dX0_allVotes_22 hl (k := 2) rfl (bb_inc _) (by decide) rfl (fun ls hl => ?_)
    refine lv_goto (tgt := 4) hx hb dX0_allVotes_25 rfl ?_
    have hl : lv_has ls 3 [(0, .ref h0), (1, .int ((bb_vs vo j) + (bb_bc (vo j)))), (2, .int (nI (j + 1)))] := lv_sub hl [2, 1, 0] rfl
    have e1 : ((bb_vs vo j) + (bb_bc (vo j))) = bb_vs vo (j + 1) := by simp [bb_vs, h7, q7]
    have hl : lv_has ls 3 [(0, .ref h0), (1, .int (bb_vs vo (j + 1))), (2, .int (nI (j + 1)))] := by rw [← e1]; exact hl
    exact ihj ls hl
  · skip
    intro ls hI
    have hl := hI
    refine lv_iload_n hx hb dX0_allVotes_4 rfl (lv_at hl 2 rfl) ?_
    refine lv_bipush (v := nI 31) hx hb dX0_allVotes_5 (by decide) ?_
    refine lv_icmp_ge (tgt := 28) hx hb dX0_allVotes_7 rfl (fun h7 => ?_) (fun h7 => absurd (nI_le (Nat.le_refl _) (by decide)) h7)
    have q7 := bb_nlt h7
    refine lv_iload_n hx hb dX0_allVotes_28 rfl (lv_at hl 1 rfl) ?_
    exact W.iret (v := bb_vs vo 31) hx hb hr (fun t ht _ => ⟨rfl, ht⟩) (fun _ h => nomatch h) dX0_allVotes_29

set_option maxHeartbeats 4000000 in
set_option maxRecDepth 100000 in
theorem k_differentChosen (l : Launch) (dC : Nat → ClassId) (dI : Nat → Nat → Nat) (cA : ClassId) (h0 a0 a1 a2 a3 : Nat) (w pr vo vf : Nat → Int32) (k : Int32)  : Met l yX0_differentChosen wsX0_differentChosen ({ frames := 4, cells := 0, slots := 0, locals := 86 }) (va_Pc [.ref h0] (bb_B (dC, dI) vwCl (bb_C h0 a0 a1 a2 a3 cA w pr vo vf k) [(cA, .int)])) (QcRead (bb_bc (bb_se (bb_cho w k vo vf) 31))) 0 0 (fun _ => False) := by
  refine Met.ofW (cc := cX0_differentChosen) (maxL := 4) (ret := some .int) (by decide) rfl ?_
  intro p e s m args below meth c s₁ B hml hv
  obtain ⟨rfl, hP, hK⟩ := hv
  have hx := B.exec
  have hb := B.bytes
  have hr := B.returns
  have hts := atoms_spec (ws := wsX0_differentChosen) B.pre
  have hown : s.vm.findClass RX0 = some m.cls := findClass_of_methodNamed B.named
  have hlocks := B.notSynchronized
  have hl := lv_entry ([.ref h0]) (n := 4) (Nat.le_of_ble_eq_true rfl)
  rw [lg_entry_eq]
  generalize (lg_sl ([.ref h0]) ++ List.replicate (4 - (lg_sl ([.ref h0])).length) Slot.unset).toArray = ls at hl ⊢
  have hl : lv_has ls 4 [(0, .ref h0)] := hl
  refine lv_iconst (v := 0) hx hb dX0_differentChosen_0 (by decide) ?_
  refine lv_istore_n (lv' := [(1, .int 0), (0, .ref h0)]) hx hb dX0_differentChosen_1 rfl hl (by decide) rfl (fun ls hl => ?_)
  refine lv_iconst (v := 0) hx hb dX0_differentChosen_2 (by decide) ?_
  refine lv_istore_n (lv' := [(2, .int 0), (1, .int 0), (0, .ref h0)]) hx hb dX0_differentChosen_3 rfl hl (by decide) rfl (fun ls hl => ?_)
  have hl : lv_has ls 4 [(0, .ref h0), (1, .int 0), (2, .int 0)] := lv_sub hl [2, 1, 0] rfl
  refine bb_forW (pc := 4) (I := fun j9 ls => lv_has ls 4 [(0, .ref h0), (1, .int (bb_se (bb_cho w k vo vf) j9)), (2, .int (nI j9))]) 31 ?_ ?_ 0 ls (Nat.zero_le _) hl
  · skip
    intro j ls hj hI ihj
    have hl := hI
    refine lv_iload_n hx hb dX0_differentChosen_4 rfl (lv_at hl 2 rfl) ?_
    refine lv_bipush (v := nI 31) hx hb dX0_differentChosen_5 (by decide) ?_
    refine lv_icmp_ge (tgt := 33) hx hb dX0_differentChosen_7 rfl (fun h7 => absurd h7 (nI_ge hj (by decide))) (fun h7 => ?_)
    have q7 := bb_lt h7
    refine lv_aload_n hx hb dX0_differentChosen_10 rfl (lv_at hl 0 rfl) ?_
    refine lv_iload_n hx hb dX0_differentChosen_11 rfl (lv_at hl 2 rfl) ?_
    refine bb_cV (As := [.int (nI j)]) (rest := []) (r := bb_cho w k vo vf j) 0 ⟨hx, hb, hml, hown, hts⟩ (k_chosenValue l dC dI cA h0 a0 a1 a2 a3 w pr vo vf k j (by omega)) (cwV 1 hts gX0_differentChosen_X0_chosenValue rfl rfl rfl (by decide +kernel) ⟨Nat.le_of_ble_eq_true rfl, Nat.le_of_ble_eq_true rfl⟩) hP hK rfl rfl rfl hl.1 rfl (Nat.le_of_ble_eq_true rfl) dX0_differentChosen_12 (Nat.zero_le _) (Nat.zero_le _) ?_
    refine lv_istore_n (lv' := [(3, .int (bb_cho w k vo vf j)), (0, .ref h0), (1, .int (bb_se (bb_cho w k vo vf) j)), (2, .int (nI j))]) hx hb dX0_differentChosen_15 rfl hl (by decide) rfl (fun ls hl => ?_)
    refine lv_iload_n hx hb dX0_differentChosen_16 rfl (lv_at hl 0 rfl) ?_
    refine lv_iconst (v := (-1)) hx hb dX0_differentChosen_17 (by decide) ?_
    refine lv_icmp_eq (tgt := 27) hx hb dX0_differentChosen_18 rfl (fun h18 => ?_) (fun h18 => ?_)
    · skip
      refine lv_iinc (v := nI (j + 1)) (lv' := [(2, .int (nI (j + 1))), (3, .int (bb_cho w k vo vf j)), (0, .ref h0), (1, .int (bb_se (bb_cho w k vo vf) j))]) hx hb dX0_differentChosen_27 hl (k := 3) rfl (bb_inc _) (by decide) rfl (fun ls hl => ?_)
      refine lv_goto (tgt := 4) hx hb dX0_differentChosen_30 rfl ?_
      have hl : lv_has ls 4 [(0, .ref h0), (1, .int (bb_se (bb_cho w k vo vf) j)), (2, .int (nI (j + 1)))] := lv_sub hl [2, 3, 0] rfl
      have e1 : (bb_se (bb_cho w k vo vf) j) = bb_se (bb_cho w k vo vf) (j + 1) := by simp [bb_se, h7, q7, h18]
      have hl : lv_has ls 4 [(0, .ref h0), (1, .int (bb_se (bb_cho w k vo vf) (j + 1))), (2, .int (nI (j + 1)))] := by rw [← e1]; exact hl
      exact ihj ls hl
    · skip
      refine lv_iload_n hx hb dX0_differentChosen_21 rfl (lv_at hl 2 rfl) ?_
      refine lv_iconst (v := 1) hx hb dX0_differentChosen_22 (by decide) ?_
      refine lv_iload_n hx hb dX0_differentChosen_23 rfl (lv_at hl 0 rfl) ?_
      refine lv_ishl hx hb dX0_differentChosen_24 ?_
      refine lv_ior hx hb dX0_differentChosen_25 ?_
      refine lv_istore_n (lv' := [(1, .int ((bb_se (bb_cho w k vo vf) j) ||| (1 <<< ((bb_cho w k vo vf j) &&& 31)))), (3, .int (bb_cho w k vo vf j)), (0, .ref h0), (2, .int (nI j))]) hx hb dX0_differentChosen_26 rfl hl (by decide) rfl (fun ls hl => ?_)
      refine lv_iinc (v := nI (j + 1)) (lv' := [(2, .int (nI (j + 1))), (1, .int ((bb_se (bb_cho w k vo vf) j) ||| (1 <<< ((bb_cho w k vo vf j) &&& 31)))), (3, .int (bb_cho w k vo vf j)), (0, .ref h0)]) hx hb dX0_differentChosen_27 hl (k := 3) rfl (bb_inc _) (by decide) rfl (fun ls hl => ?_)
      refine lv_goto (tgt := 4) hx hb dX0_differentChosen_30 rfl ?_
      have hl : lv_has ls 4 [(0, .ref h0), (1, .int ((bb_se (bb_cho w k vo vf) j) ||| (1 <<< ((bb_cho w k vo vf j) &&& 31)))), (2, .int (nI (j + 1)))] := lv_sub hl [3, 1, 0] rfl
      have e2 : ((bb_se (bb_cho w k vo vf) j) ||| (1 <<< ((bb_cho w k vo vf j) &&& 31))) = bb_se (bb_cho w k vo vf) (j + 1) := by simp [bb_se, h7, q7, h18]
      have hl : lv_has ls 4 [(0, .ref h0), (1, .int (bb_se (bb_cho w k vo vf) (j + 1))), (2, .int (nI (j + 1)))] := by rw [← e2]; exact hl
      exact ihj ls hl
  · skip
    intro ls hI
    have hl := hI
    refine lv_iload_n hx hb dX0_differentChosen_4 rfl (lv_at hl 2 rfl) ?_
    refine lv_bipush (v := nI 31) hx hb dX0_differentChosen_5 (by decide) ?_
    refine lv_icmp_ge (tgt := 33) hx hb dX0_differentChosen_7 rfl (fun h7 => ?_) (fun h7 => absurd (nI_le (Nat.le_refl _) (by decide)) h7)
    have q7 := bb_nlt h7
    refine lv_iload_n hx hb dX0_differentChosen_33 rfl (lv_at hl 1 rfl) ?_
    refine bb_cS (As := [.int (bb_se (bb_cho w k vo vf) 31)]) (rest := []) (r := bb_bc (bb_se (bb_cho w k vo vf) 31)) ⟨hx, hb, hml, hown, hts⟩ (k_bitCount l (bb_se (bb_cho w k vo vf) 31)) (va_cwS 1 hts gX0_differentChosen_J_bitCount rfl rfl rfl (by decide +kernel) ⟨Nat.le_of_ble_eq_true rfl, Nat.le_of_ble_eq_true rfl⟩) rfl hl.1 rfl (Nat.le_of_ble_eq_true rfl) dX0_differentChosen_34 (Nat.zero_le _) (Nat.zero_le _) ?_
    exact W.iret (v := bb_bc (bb_se (bb_cho w k vo vf) 31)) hx hb hr (fun t ht _ => ⟨rfl, ht⟩) (fun _ h => nomatch h) dX0_differentChosen_37
