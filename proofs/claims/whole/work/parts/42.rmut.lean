set_option maxHeartbeats 4000000 in
set_option maxRecDepth 100000 in
theorem r_ask2 (l : Launch) (dC : Nat → ClassId) (dI : Nat → Nat → Nat) (cA : ClassId) (g0 b0 b1 b2 : Nat) (w pr vt : Nat → Int32) (k th : Int32) (sz : Nat) (a : Nat) (ha0 : a < 1024) (b : Nat) (hb0 : b < 31) (hb2 : (!bb_en w k (nI a) || bb_ex (fun i9 => bb_hb (nI a) i9 && decide (nI b < pr i9)) 10) = true) : Met l yX1_ask wsX1_ask ({ frames := 1, cells := 0, slots := 0, locals := 23 }) (bb_Pm [.ref g0, .int (nI a), .int (nI b)] (dC, dI) vwCl [(g0, .inr (1, [.ref b0, .ref b1, .ref b2, .int k, .int th])), (b0, .inl (cA, 10, .inl w)), (b1, .inl (cA, 10, .inl pr)), (b2, .inl (cA, 310, .inl vt))] [(cA, .int)] sz) (bb_Qm (0) (dC, dI) vwCl [(g0, .inr (1, [.ref b0, .ref b1, .ref b2, .int k, .int 2])), (b0, .inl (cA, 10, .inl w)), (b1, .inl (cA, 10, .inl pr)), (b2, .inl (cA, 310, .inl vt))] (va_A [(g0, .inr (1, [.ref b0, .ref b1, .ref b2, .int k, .int th])), (b0, .inl (cA, 10, .inl w)), (b1, .inl (cA, 10, .inl pr)), (b2, .inl (cA, 310, .inl vt))] sz)) 0 0 (va_A [(g0, .inr (1, [.ref b0, .ref b1, .ref b2, .int k, .int th])), (b0, .inl (cA, 10, .inl w)), (b1, .inl (cA, 10, .inl pr)), (b2, .inl (cA, 310, .inl vt))] sz) := by
  refine Met.ofW (cc := cX1_ask) (maxL := 7) (ret := some .int) (by decide) rfl ?_
  intro p e s m args below meth c s₁ B hml hv
  obtain ⟨rfl, hsz, hP, hK, hD0⟩ := hv
  have hx := B.exec
  have hb := B.bytes
  have hr := B.returns
  have hts := atoms_spec (ws := wsX1_ask) B.pre
  have hown : s.vm.findClass RX1 = some m.cls := findClass_of_methodNamed B.named
  have hlocks := B.notSynchronized
  subst hsz
  have hD := hD0.self (sz := s.heap.size)
  generalize hAe : va_A [(g0, .inr (1, [.ref b0, .ref b1, .ref b2, .int k, .int th])), (b0, .inl (cA, 10, .inl w)), (b1, .inl (cA, 10, .inl pr)), (b2, .inl (cA, 310, .inl vt))] s.heap.size = A at hD ⊢
  have hA : ∀ q : Nat, s.heap.size ≤ q → A q := fun q h => by rw [← hAe]; exact Or.inr h
  have hin : ∀ w9 ∈ u_ws RX1 TX1 5, w9 ∈ wsX1_ask := fun w9 h9 => List.mem_cons_of_mem _ (bb_inX1 w9 h9)
  have hf13 := hts _ (List.mem_cons_of_mem _ bb_fX1_13)
  have hf23 := hts _ (List.mem_cons_of_mem _ bb_fX1_23)
  have hl := lv_entry ([.ref g0, .int (nI a), .int (nI b)]) (n := 7) (Nat.le_of_ble_eq_true rfl)
  rw [lg_entry_eq]
  generalize (lg_sl ([.ref g0, .int (nI a), .int (nI b)]) ++ List.replicate (7 - (lg_sl ([.ref g0, .int (nI a), .int (nI b)])).length) Slot.unset).toArray = ls at hl ⊢
  have hl : lv_has ls 7 [(0, .ref g0), (1, .int (nI a)), (2, .int (nI b))] := hl
  refine bb_gen hP hD (fun H locs hP hD hS => ?_)
  refine lv_aload_n hx hb dX1_ask_0 rfl (lv_at hl 0 rfl) ?_
  refine lv_iload_n hx hb dX1_ask_1 rfl (lv_at hl 1 rfl) ?_
  refine lv_sipush (v := nI 1024) hx hb dX1_ask_2 (by decide) ?_
  refine bb_cS (As := [.int (nI a), .int (nI 1024)]) (rest := [.ref g0]) (r := bb_I (bb_out (nI a) (nI 1024))) ⟨hx, hb, hml, hown, hts⟩ (m_out l (nI a) (nI 1024)) (cwS 2 hts gX1_ask_X1_out rfl rfl rfl (by decide +kernel) ⟨Nat.le_of_ble_eq_true rfl, Nat.le_of_ble_eq_true rfl⟩) rfl hl.1 rfl (Nat.le_of_ble_eq_true rfl) dX1_ask_5 (Nat.zero_le _) (Nat.zero_le _) ?_
  refine bb_topi (y := 0) (by rw [bb_out_no ha0 (by decide)]; rfl) ?_
  refine lv_if_ne (tgt := 20) hx hb dX1_ask_8 rfl (fun h8 => absurd rfl h8) (fun h8 => ?_)
  refine lv_iload_n hx hb dX1_ask_11 rfl (lv_at hl 2 rfl) ?_
  refine lv_bipush (v := nI 31) hx hb dX1_ask_12 (by decide) ?_
  refine bb_cS (As := [.int (nI b), .int (nI 31)]) (rest := [.ref g0]) (r := bb_I (bb_out (nI b) (nI 31))) ⟨hx, hb, hml, hown, hts⟩ (m_out l (nI b) (nI 31)) (cwS 2 hts gX1_ask_X1_out rfl rfl rfl (by decide +kernel) ⟨Nat.le_of_ble_eq_true rfl, Nat.le_of_ble_eq_true rfl⟩) rfl hl.1 rfl (Nat.le_of_ble_eq_true rfl) dX1_ask_14 (Nat.zero_le _) (Nat.zero_le _) ?_
  refine bb_topi (y := 0) (by rw [bb_out_no hb0 (by decide)]; rfl) ?_
  refine lv_if_eq (tgt := 24) hx hb dX1_ask_17 rfl (fun h17 => ?_) (fun h17 => absurd rfl h17)
  refine lv_iconst (v := 0) hx hb dX1_ask_24 (by decide) ?_
  refine va_put (D := (dC, dI)) (ci := 1) (v := .int 0) (ty := .int) (C := RX1) (T := TX1) (N := 5) hx hb hts hin tyX1 tyX1_ok nX1 hown hK hP hD hS 0 rfl rfl 4 (by decide) hf23 (fun _ h9 => h9) rfl (by decide +kernel) rfl rfl (Nat.le_of_ble_eq_true rfl) dX1_ask_25 (fun H locs hP hD hS => ?_)
  have hP : va_P (dC, dI) vwCl [(g0, .inr (1, [.ref b0, .ref b1, .ref b2, .int k, .int 0])), (b0, .inl (cA, 10, .inl w)), (b1, .inl (cA, 10, .inl pr)), (b2, .inl (cA, 310, .inl vt))] H := hP
  have hD : va_D A [(g0, .inr (1, [.ref b0, .ref b1, .ref b2, .int k, .int 0])), (b0, .inl (cA, 10, .inl w)), (b1, .inl (cA, 10, .inl pr)), (b2, .inl (cA, 310, .inl vt))] := hD
  refine lv_aload_n hx hb dX1_ask_28 rfl (lv_at hl 0 rfl) ?_
  refine va_get (D := (dC, dI)) (ci := 1) (v := .int 0) (C := RX1) (T := TX1) (N := 5) hx hb hts hin hown hK hP 0 rfl rfl 4 (by decide) hf23 (fun _ h9 => h9) rfl dX1_ask_29 ?_
  refine lv_if_le (tgt := 37) hx hb dX1_ask_32 rfl (fun h32 => ?_) (fun h32 => absurd (by decide) h32)
  refine lv_iconst (v := 0) hx hb dX1_ask_37 (by decide) ?_
  refine lv_istore_n (lv' := [(3, .int 0), (0, .ref g0), (1, .int (nI a)), (2, .int (nI b))]) hx hb dX1_ask_38 rfl hl (by decide) rfl (fun ls hl => ?_)
  refine lv_iconst (v := 0) hx hb dX1_ask_39 (by decide) ?_
  refine lv_istore (lv' := [(4, .int 0), (3, .int 0), (0, .ref g0), (1, .int (nI a)), (2, .int (nI b))]) hx hb dX1_ask_40 hl (by decide) rfl (fun ls hl => ?_)
  have hl : lv_has ls 7 [(0, .ref g0), (1, .int (nI a)), (2, .int (nI b)), (3, .int 0), (4, .int 0)] := lv_sub hl [2, 3, 4, 1, 0] rfl
  refine bb_forW (pc := 42) (I := fun j9 ls => lv_has ls 7 [(0, .ref g0), (1, .int (nI a)), (2, .int (nI b)), (3, .int (bb_I (bb_ex (fun i9 => bb_hb (nI a) i9 && decide (nI b < pr i9)) j9))), (4, .int (nI j9))]) 10 ?_ ?_ 0 ls (Nat.zero_le _) hl
  · skip
    intro j ls hj hI ihj
    have hl := hI
    refine lv_iload hx hb dX1_ask_42 (lv_at hl 4 rfl) ?_
    refine lv_bipush (v := nI 10) hx hb dX1_ask_44 (by decide) ?_
    refine lv_icmp_ge (tgt := 84) hx hb dX1_ask_46 rfl (fun h46 => absurd h46 (nI_ge hj (by decide))) (fun h46 => ?_)
    have q46 := bb_lt h46
    refine lv_iload_n hx hb dX1_ask_49 rfl (lv_at hl 3 rfl) ?_
    refine lv_iload_n hx hb dX1_ask_50 rfl (lv_at hl 1 rfl) ?_
    refine lv_iload hx hb dX1_ask_51 (lv_at hl 4 rfl) ?_
    refine lv_ishr hx hb dX1_ask_53 ?_
    refine lv_iconst (v := 1) hx hb dX1_ask_54 (by decide) ?_
    refine lv_iand hx hb dX1_ask_55 ?_
    refine lv_iconst (v := 1) hx hb dX1_ask_56 (by decide) ?_
    refine lv_icmp_ne (tgt := 75) hx hb dX1_ask_57 rfl (fun h57 => ?_) (fun h57 => ?_)
    · skip
      refine lv_iconst (v := 0) hx hb dX1_ask_75 (by decide) ?_
      refine lv_ior hx hb dX1_ask_76 ?_
      refine lv_istore_n (lv' := [(3, .int ((bb_I (bb_ex (fun i9 => bb_hb (nI a) i9 && decide (nI b < pr i9)) j)) ||| 0)), (0, .ref g0), (1, .int (nI a)), (2, .int (nI b)), (4, .int (nI j))]) hx hb dX1_ask_77 rfl hl (by decide) rfl (fun ls hl => ?_)
      refine lv_iinc (v := nI (j + 1)) (lv' := [(4, .int (nI (j + 1))), (3, .int ((bb_I (bb_ex (fun i9 => bb_hb (nI a) i9 && decide (nI b < pr i9)) j)) ||| 0)), (0, .ref g0), (1, .int (nI a)), (2, .int (nI b))]) hx hb dX1_ask_78 hl (k := 4) rfl (bb_inc _) (by decide) rfl (fun ls hl => ?_)
      refine lv_goto (tgt := 42) hx hb dX1_ask_81 rfl ?_
      have hl : lv_has ls 7 [(0, .ref g0), (1, .int (nI a)), (2, .int (nI b)), (3, .int ((bb_I (bb_ex (fun i9 => bb_hb (nI a) i9 && decide (nI b < pr i9)) j)) ||| 0)), (4, .int (nI (j + 1)))] := lv_sub hl [2, 3, 4, 1, 0] rfl
      have e1 : ((bb_I (bb_ex (fun i9 => bb_hb (nI a) i9 && decide (nI b < pr i9)) j)) ||| 0) = bb_I (bb_ex (fun i9 => bb_hb (nI a) i9 && decide (nI b < pr i9)) (j + 1)) := by simp [bb_ex, bb_hb, bb_or1, bb_or0, bb_I_t, h8, h17, h32, h46, q46, h57]
      have hl : lv_has ls 7 [(0, .ref g0), (1, .int (nI a)), (2, .int (nI b)), (3, .int (bb_I (bb_ex (fun i9 => bb_hb (nI a) i9 && decide (nI b < pr i9)) (j + 1)))), (4, .int (nI (j + 1)))] := by rw [← e1]; exact hl
      exact ihj ls hl
    · skip
      refine lv_aload_n hx hb dX1_ask_60 rfl (lv_at hl 0 rfl) ?_
      refine va_get (D := (dC, dI)) (ci := 1) (v := .ref b1) (C := RX1) (T := TX1) (N := 5) hx hb hts hin hown hK hP 0 rfl rfl 1 (by decide) hf13 (fun _ h9 => h9) rfl dX1_ask_61 ?_
      refine lv_iload hx hb dX1_ask_64 (lv_at hl 4 rfl) ?_
      refine bb_ald hx hb hK hP 2 0 rfl rfl j (by omega) (by decide) dX1_ask_66 ?_
      refine lv_iload_n hx hb dX1_ask_67 rfl (lv_at hl 2 rfl) ?_
      refine lv_icmp_le (tgt := 75) hx hb dX1_ask_68 rfl (fun h68 => ?_) (fun h68 => ?_)
      · skip
        have q68 := bb_nlt h68
        refine lv_iconst (v := 0) hx hb dX1_ask_75 (by decide) ?_
        refine lv_ior hx hb dX1_ask_76 ?_
        refine lv_istore_n (lv' := [(3, .int ((bb_I (bb_ex (fun i9 => bb_hb (nI a) i9 && decide (nI b < pr i9)) j)) ||| 0)), (0, .ref g0), (1, .int (nI a)), (2, .int (nI b)), (4, .int (nI j))]) hx hb dX1_ask_77 rfl hl (by decide) rfl (fun ls hl => ?_)
        refine lv_iinc (v := nI (j + 1)) (lv' := [(4, .int (nI (j + 1))), (3, .int ((bb_I (bb_ex (fun i9 => bb_hb (nI a) i9 && decide (nI b < pr i9)) j)) ||| 0)), (0, .ref g0), (1, .int (nI a)), (2, .int (nI b))]) hx hb dX1_ask_78 hl (k := 4) rfl (bb_inc _) (by decide) rfl (fun ls hl => ?_)
        refine lv_goto (tgt := 42) hx hb dX1_ask_81 rfl ?_
        have hl : lv_has ls 7 [(0, .ref g0), (1, .int (nI a)), (2, .int (nI b)), (3, .int ((bb_I (bb_ex (fun i9 => bb_hb (nI a) i9 && decide (nI b < pr i9)) j)) ||| 0)), (4, .int (nI (j + 1)))] := lv_sub hl [2, 3, 4, 1, 0] rfl
        have e2 : ((bb_I (bb_ex (fun i9 => bb_hb (nI a) i9 && decide (nI b < pr i9)) j)) ||| 0) = bb_I (bb_ex (fun i9 => bb_hb (nI a) i9 && decide (nI b < pr i9)) (j + 1)) := by simp [bb_ex, bb_hb, bb_or1, bb_or0, bb_I_t, h8, h17, h32, h46, q46, h57, h68, q68]
        have hl : lv_has ls 7 [(0, .ref g0), (1, .int (nI a)), (2, .int (nI b)), (3, .int (bb_I (bb_ex (fun i9 => bb_hb (nI a) i9 && decide (nI b < pr i9)) (j + 1)))), (4, .int (nI (j + 1)))] := by rw [← e2]; exact hl
        exact ihj ls hl
      · skip
        have q68 := bb_lt h68
        refine lv_iconst (v := 1) hx hb dX1_ask_71 (by decide) ?_
        refine lv_goto (tgt := 76) hx hb dX1_ask_72 rfl ?_
        refine lv_ior hx hb dX1_ask_76 ?_
        refine lv_istore_n (lv' := [(3, .int ((bb_I (bb_ex (fun i9 => bb_hb (nI a) i9 && decide (nI b < pr i9)) j)) ||| 1)), (0, .ref g0), (1, .int (nI a)), (2, .int (nI b)), (4, .int (nI j))]) hx hb dX1_ask_77 rfl hl (by decide) rfl (fun ls hl => ?_)
        refine lv_iinc (v := nI (j + 1)) (lv' := [(4, .int (nI (j + 1))), (3, .int ((bb_I (bb_ex (fun i9 => bb_hb (nI a) i9 && decide (nI b < pr i9)) j)) ||| 1)), (0, .ref g0), (1, .int (nI a)), (2, .int (nI b))]) hx hb dX1_ask_78 hl (k := 4) rfl (bb_inc _) (by decide) rfl (fun ls hl => ?_)
        refine lv_goto (tgt := 42) hx hb dX1_ask_81 rfl ?_
        have hl : lv_has ls 7 [(0, .ref g0), (1, .int (nI a)), (2, .int (nI b)), (3, .int ((bb_I (bb_ex (fun i9 => bb_hb (nI a) i9 && decide (nI b < pr i9)) j)) ||| 1)), (4, .int (nI (j + 1)))] := lv_sub hl [2, 3, 4, 1, 0] rfl
        have e3 : ((bb_I (bb_ex (fun i9 => bb_hb (nI a) i9 && decide (nI b < pr i9)) j)) ||| 1) = bb_I (bb_ex (fun i9 => bb_hb (nI a) i9 && decide (nI b < pr i9)) (j + 1)) := by simp [bb_ex, bb_hb, bb_or1, bb_or0, bb_I_t, h8, h17, h32, h46, q46, h57, h68, q68]
        have hl : lv_has ls 7 [(0, .ref g0), (1, .int (nI a)), (2, .int (nI b)), (3, .int (bb_I (bb_ex (fun i9 => bb_hb (nI a) i9 && decide (nI b < pr i9)) (j + 1)))), (4, .int (nI (j + 1)))] := by rw [← e3]; exact hl
        exact ihj ls hl
  · skip
    intro ls hI
    have hl := hI
    refine lv_iload hx hb dX1_ask_42 (lv_at hl 4 rfl) ?_
    refine lv_bipush (v := nI 10) hx hb dX1_ask_44 (by decide) ?_
    refine lv_icmp_ge (tgt := 84) hx hb dX1_ask_46 rfl (fun h46 => ?_) (fun h46 => absurd (nI_le (Nat.le_refl _) (by decide)) h46)
    have q46 := bb_nlt h46
    refine lv_aload_n hx hb dX1_ask_84 rfl (lv_at hl 0 rfl) ?_
    refine lv_iload_n hx hb dX1_ask_85 rfl (lv_at hl 1 rfl) ?_
    refine bb_cV (As := [.int (nI a)]) (rest := []) (r := bb_I (bb_en w k (nI a))) 0 ⟨hx, hb, hml, hown, hts⟩ (m_isEnough l dC dI cA g0 b0 b1 b2 w pr vt k 0 (nI a)) (cwV 1 hts gX1_ask_X1_isEnough rfl rfl rfl (by decide +kernel) ⟨Nat.le_of_ble_eq_true rfl, Nat.le_of_ble_eq_true rfl⟩) hP hK rfl rfl rfl hl.1 rfl (Nat.le_of_ble_eq_true rfl) dX1_ask_86 (Nat.zero_le _) (Nat.zero_le _) ?_
    refine lv_if_eq (tgt := 96) hx hb dX1_ask_89 rfl (fun h89 => ?_) (fun h89 => ?_)
    · skip
      have q89 := bb_I_0.mp h89
      refine lv_aload_n hx hb dX1_ask_96 rfl (lv_at hl 0 rfl) ?_
      refine lv_iconst (v := 2) hx hb dX1_ask_97 (by decide) ?_
      refine bb_cVm (As := [.int 2]) (rest := []) (r := 0) (wd' := [(g0, .inr (1, [.ref b0, .ref b1, .ref b2, .int k, .int 2])), (b0, .inl (cA, 10, .inl w)), (b1, .inl (cA, 10, .inl pr)), (b2, .inl (cA, 310, .inl vt))]) 0 ⟨hx, hb, hml, hown, hts⟩ (r_fail l dC dI cA g0 b0 b1 b2 w pr vt k 0 H.size 2) (cwV 1 hts gX1_ask_X1_fail rfl rfl rfl (by decide +kernel) ⟨Nat.le_of_ble_eq_true rfl, Nat.le_of_ble_eq_true rfl⟩) hP hK hD hS hA rfl rfl rfl rfl hl.1 rfl (Nat.le_of_ble_eq_true rfl) dX1_ask_98 (Nat.zero_le _) (Nat.zero_le _) (fun H locs hP hD hS => ?_)
      have hP : va_P (dC, dI) vwCl [(g0, .inr (1, [.ref b0, .ref b1, .ref b2, .int k, .int 2])), (b0, .inl (cA, 10, .inl w)), (b1, .inl (cA, 10, .inl pr)), (b2, .inl (cA, 310, .inl vt))] H := hP
      have hD : va_D A [(g0, .inr (1, [.ref b0, .ref b1, .ref b2, .int k, .int 2])), (b0, .inl (cA, 10, .inl w)), (b1, .inl (cA, 10, .inl pr)), (b2, .inl (cA, 310, .inl vt))] := hD
      exact W.iret (v := 0) hx hb hr (fun t ht _ => ⟨⟨0, (), rfl, rfl, by show va_P _ _ _ t.heap; rw [ht]; exact hP⟩, hS.F ht⟩) hS.2.2 dX1_ask_101
    · skip
      have q89 := bb_nz h89
      refine lv_iload_n hx hb dX1_ask_92 rfl (lv_at hl 3 rfl) ?_
      refine lv_if_eq (tgt := 102) hx hb dX1_ask_93 rfl (fun h93 => absurd hb2 (by simp [bb_I_0.mp h93, q89])) (fun h93 => ?_)
      have q93 := bb_nz h93
      refine lv_aload_n hx hb dX1_ask_96 rfl (lv_at hl 0 rfl) ?_
      refine lv_iconst (v := 2) hx hb dX1_ask_97 (by decide) ?_
      refine bb_cVm (As := [.int 2]) (rest := []) (r := 0) (wd' := [(g0, .inr (1, [.ref b0, .ref b1, .ref b2, .int k, .int 2])), (b0, .inl (cA, 10, .inl w)), (b1, .inl (cA, 10, .inl pr)), (b2, .inl (cA, 310, .inl vt))]) 0 ⟨hx, hb, hml, hown, hts⟩ (r_fail l dC dI cA g0 b0 b1 b2 w pr vt k 0 H.size 2) (cwV 1 hts gX1_ask_X1_fail rfl rfl rfl (by decide +kernel) ⟨Nat.le_of_ble_eq_true rfl, Nat.le_of_ble_eq_true rfl⟩) hP hK hD hS hA rfl rfl rfl rfl hl.1 rfl (Nat.le_of_ble_eq_true rfl) dX1_ask_98 (Nat.zero_le _) (Nat.zero_le _) (fun H locs hP hD hS => ?_)
      have hP : va_P (dC, dI) vwCl [(g0, .inr (1, [.ref b0, .ref b1, .ref b2, .int k, .int 2])), (b0, .inl (cA, 10, .inl w)), (b1, .inl (cA, 10, .inl pr)), (b2, .inl (cA, 310, .inl vt))] H := hP
      have hD : va_D A [(g0, .inr (1, [.ref b0, .ref b1, .ref b2, .int k, .int 2])), (b0, .inl (cA, 10, .inl w)), (b1, .inl (cA, 10, .inl pr)), (b2, .inl (cA, 310, .inl vt))] := hD
      exact W.iret (v := 0) hx hb hr (fun t ht _ => ⟨⟨0, (), rfl, rfl, by show va_P _ _ _ t.heap; rw [ht]; exact hP⟩, hS.F ht⟩) hS.2.2 dX1_ask_101

set_option maxHeartbeats 4000000 in
set_option maxRecDepth 100000 in
theorem r_chosen (l : Launch) (dC : Nat → ClassId) (dI : Nat → Nat → Nat) (cA : ClassId) (g0 b0 b1 b2 : Nat) (w pr vt : Nat → Int32) (k th : Int32) (sz : Nat) (b : Nat) (hb0 : b < 31) : Met l yX1_chosen wsX1_chosen ({ frames := 2, cells := 0, slots := 0, locals := 47 }) (bb_Pm [.ref g0, .int (nI b)] (dC, dI) vwCl [(g0, .inr (1, [.ref b0, .ref b1, .ref b2, .int k, .int th])), (b0, .inl (cA, 10, .inl w)), (b1, .inl (cA, 10, .inl pr)), (b2, .inl (cA, 310, .inl vt))] [(cA, .int)] sz) (bb_Qm (bb_rch w k vt b) (dC, dI) vwCl [(g0, .inr (1, [.ref b0, .ref b1, .ref b2, .int k, .int 0])), (b0, .inl (cA, 10, .inl w)), (b1, .inl (cA, 10, .inl pr)), (b2, .inl (cA, 310, .inl vt))] (va_A [(g0, .inr (1, [.ref b0, .ref b1, .ref b2, .int k, .int th])), (b0, .inl (cA, 10, .inl w)), (b1, .inl (cA, 10, .inl pr)), (b2, .inl (cA, 310, .inl vt))] sz)) 0 0 (va_A [(g0, .inr (1, [.ref b0, .ref b1, .ref b2, .int k, .int th])), (b0, .inl (cA, 10, .inl w)), (b1, .inl (cA, 10, .inl pr)), (b2, .inl (cA, 310, .inl vt))] sz) := by
  refine Met.ofW (cc := cX1_chosen) (maxL := 2) (ret := some .int) (by decide) rfl ?_
  intro p e s m args below meth c s₁ B hml hv
  obtain ⟨rfl, hsz, hP, hK, hD0⟩ := hv
  have hx := B.exec
  have hb := B.bytes
  have hr := B.returns
  have hts := atoms_spec (ws := wsX1_chosen) B.pre
  have hown : s.vm.findClass RX1 = some m.cls := findClass_of_methodNamed B.named
  have hlocks := B.notSynchronized
  subst hsz
  have hD := hD0.self (sz := s.heap.size)
  generalize hAe : va_A [(g0, .inr (1, [.ref b0, .ref b1, .ref b2, .int k, .int th])), (b0, .inl (cA, 10, .inl w)), (b1, .inl (cA, 10, .inl pr)), (b2, .inl (cA, 310, .inl vt))] s.heap.size = A at hD ⊢
  have hA : ∀ q : Nat, s.heap.size ≤ q → A q := fun q h => by rw [← hAe]; exact Or.inr h
  have hin : ∀ w9 ∈ u_ws RX1 TX1 5, w9 ∈ wsX1_chosen := fun w9 h9 => List.mem_cons_of_mem _ (bb_inX1 w9 h9)
  have hf23 := hts _ (List.mem_cons_of_mem _ bb_fX1_23)
  have hl := lv_entry ([.ref g0, .int (nI b)]) (n := 2) (Nat.le_of_ble_eq_true rfl)
  rw [lg_entry_eq]
  generalize (lg_sl ([.ref g0, .int (nI b)]) ++ List.replicate (2 - (lg_sl ([.ref g0, .int (nI b)])).length) Slot.unset).toArray = ls at hl ⊢
  have hl : lv_has ls 2 [(0, .ref g0), (1, .int (nI b))] := hl
  refine bb_gen hP hD (fun H locs hP hD hS => ?_)
  refine lv_aload_n hx hb dX1_chosen_0 rfl (lv_at hl 0 rfl) ?_
  refine lv_iload_n hx hb dX1_chosen_1 rfl (lv_at hl 1 rfl) ?_
  refine lv_bipush (v := nI 31) hx hb dX1_chosen_2 (by decide) ?_
  refine bb_cS (As := [.int (nI b), .int (nI 31)]) (rest := [.ref g0]) (r := bb_I (bb_out (nI b) (nI 31))) ⟨hx, hb, hml, hown, hts⟩ (m_out l (nI b) (nI 31)) (cwS 2 hts gX1_chosen_X1_out rfl rfl rfl (by decide +kernel) ⟨Nat.le_of_ble_eq_true rfl, Nat.le_of_ble_eq_true rfl⟩) rfl hl.1 rfl (Nat.le_of_ble_eq_true rfl) dX1_chosen_4 (Nat.zero_le _) (Nat.zero_le _) ?_
  refine bb_topi (y := 0) (by rw [bb_out_no hb0 (by decide)]; rfl) ?_
  refine lv_if_eq (tgt := 14) hx hb dX1_chosen_7 rfl (fun h7 => ?_) (fun h7 => absurd rfl h7)
  refine lv_iconst (v := 0) hx hb dX1_chosen_14 (by decide) ?_
  refine va_put (D := (dC, dI)) (ci := 1) (v := .int 0) (ty := .int) (C := RX1) (T := TX1) (N := 5) hx hb hts hin tyX1 tyX1_ok nX1 hown hK hP hD hS 0 rfl rfl 4 (by decide) hf23 (fun _ h9 => h9) rfl (by decide +kernel) rfl rfl (Nat.le_of_ble_eq_true rfl) dX1_chosen_15 (fun H locs hP hD hS => ?_)
  have hP : va_P (dC, dI) vwCl [(g0, .inr (1, [.ref b0, .ref b1, .ref b2, .int k, .int 0])), (b0, .inl (cA, 10, .inl w)), (b1, .inl (cA, 10, .inl pr)), (b2, .inl (cA, 310, .inl vt))] H := hP
  have hD : va_D A [(g0, .inr (1, [.ref b0, .ref b1, .ref b2, .int k, .int 0])), (b0, .inl (cA, 10, .inl w)), (b1, .inl (cA, 10, .inl pr)), (b2, .inl (cA, 310, .inl vt))] := hD
  refine lv_aload_n hx hb dX1_chosen_18 rfl (lv_at hl 0 rfl) ?_
  refine va_get (D := (dC, dI)) (ci := 1) (v := .int 0) (C := RX1) (T := TX1) (N := 5) hx hb hts hin hown hK hP 0 rfl rfl 4 (by decide) hf23 (fun _ h9 => h9) rfl dX1_chosen_19 ?_
  refine lv_if_le (tgt := 29) hx hb dX1_chosen_22 rfl (fun h22 => ?_) (fun h22 => absurd (by decide) h22)
  refine lv_aload_n hx hb dX1_chosen_29 rfl (lv_at hl 0 rfl) ?_
  refine lv_iload_n hx hb dX1_chosen_30 rfl (lv_at hl 1 rfl) ?_
  refine bb_cV (As := [.int (nI b)]) (rest := []) (r := bb_rch w k vt b) 0 ⟨hx, hb, hml, hown, hts⟩ (m_isChosen l dC dI cA g0 b0 b1 b2 w pr vt k 0 b (by omega)) (cwV 1 hts gX1_chosen_X1_isChosen rfl rfl rfl (by decide +kernel) ⟨Nat.le_of_ble_eq_true rfl, Nat.le_of_ble_eq_true rfl⟩) hP hK rfl rfl rfl hl.1 rfl (Nat.le_of_ble_eq_true rfl) dX1_chosen_31 (Nat.zero_le _) (Nat.zero_le _) ?_
  exact W.iret (v := bb_rch w k vt b) hx hb hr (fun t ht _ => ⟨⟨bb_rch w k vt b, (), rfl, rfl, by show va_P _ _ _ t.heap; rw [ht]; exact hP⟩, hS.F ht⟩) hS.2.2 dX1_chosen_34

set_option maxHeartbeats 4000000 in
set_option maxRecDepth 100000 in
theorem r_chosen1 (l : Launch) (dC : Nat → ClassId) (dI : Nat → Nat → Nat) (cA : ClassId) (g0 b0 b1 b2 : Nat) (w pr vt : Nat → Int32) (k th : Int32) (sz : Nat) (x0 : Int32) (hbad : bb_out x0 (nI 31) = true) : Met l yX1_chosen wsX1_chosen ({ frames := 2, cells := 0, slots := 0, locals := 47 }) (bb_Pm [.ref g0, .int x0] (dC, dI) vwCl [(g0, .inr (1, [.ref b0, .ref b1, .ref b2, .int k, .int th])), (b0, .inl (cA, 10, .inl w)), (b1, .inl (cA, 10, .inl pr)), (b2, .inl (cA, 310, .inl vt))] [(cA, .int)] sz) (bb_Qm (0) (dC, dI) vwCl [(g0, .inr (1, [.ref b0, .ref b1, .ref b2, .int k, .int 1])), (b0, .inl (cA, 10, .inl w)), (b1, .inl (cA, 10, .inl pr)), (b2, .inl (cA, 310, .inl vt))] (va_A [(g0, .inr (1, [.ref b0, .ref b1, .ref b2, .int k, .int th])), (b0, .inl (cA, 10, .inl w)), (b1, .inl (cA, 10, .inl pr)), (b2, .inl (cA, 310, .inl vt))] sz)) 0 0 (va_A [(g0, .inr (1, [.ref b0, .ref b1, .ref b2, .int k, .int th])), (b0, .inl (cA, 10, .inl w)), (b1, .inl (cA, 10, .inl pr)), (b2, .inl (cA, 310, .inl vt))] sz) := by
  refine Met.ofW (cc := cX1_chosen) (maxL := 2) (ret := some .int) (by decide) rfl ?_
  intro p e s m args below meth c s₁ B hml hv
  obtain ⟨rfl, hsz, hP, hK, hD0⟩ := hv
  have hx := B.exec
  have hb := B.bytes
  have hr := B.returns
  have hts := atoms_spec (ws := wsX1_chosen) B.pre
  have hown : s.vm.findClass RX1 = some m.cls := findClass_of_methodNamed B.named
  have hlocks := B.notSynchronized
  subst hsz
  have hD := hD0.self (sz := s.heap.size)
  generalize hAe : va_A [(g0, .inr (1, [.ref b0, .ref b1, .ref b2, .int k, .int th])), (b0, .inl (cA, 10, .inl w)), (b1, .inl (cA, 10, .inl pr)), (b2, .inl (cA, 310, .inl vt))] s.heap.size = A at hD ⊢
  have hA : ∀ q : Nat, s.heap.size ≤ q → A q := fun q h => by rw [← hAe]; exact Or.inr h
  have hin : ∀ w9 ∈ u_ws RX1 TX1 5, w9 ∈ wsX1_chosen := fun w9 h9 => List.mem_cons_of_mem _ (bb_inX1 w9 h9)
  have hf23 := hts _ (List.mem_cons_of_mem _ bb_fX1_23)
  have hl := lv_entry ([.ref g0, .int x0]) (n := 2) (Nat.le_of_ble_eq_true rfl)
  rw [lg_entry_eq]
  generalize (lg_sl ([.ref g0, .int x0]) ++ List.replicate (2 - (lg_sl ([.ref g0, .int x0])).length) Slot.unset).toArray = ls at hl ⊢
  have hl : lv_has ls 2 [(0, .ref g0), (1, .int x0)] := hl
  refine bb_gen hP hD (fun H locs hP hD hS => ?_)
  refine lv_aload_n hx hb dX1_chosen_0 rfl (lv_at hl 0 rfl) ?_
  refine lv_iload_n hx hb dX1_chosen_1 rfl (lv_at hl 1 rfl) ?_
  refine lv_bipush (v := nI 31) hx hb dX1_chosen_2 (by decide) ?_
  refine bb_cS (As := [.int x0, .int (nI 31)]) (rest := [.ref g0]) (r := bb_I (bb_out x0 (nI 31))) ⟨hx, hb, hml, hown, hts⟩ (m_out l x0 (nI 31)) (cwS 2 hts gX1_chosen_X1_out rfl rfl rfl (by decide +kernel) ⟨Nat.le_of_ble_eq_true rfl, Nat.le_of_ble_eq_true rfl⟩) rfl hl.1 rfl (Nat.le_of_ble_eq_true rfl) dX1_chosen_4 (Nat.zero_le _) (Nat.zero_le _) ?_
  refine bb_topi (y := 1) (by rw [hbad]; rfl) ?_
  refine lv_if_eq (tgt := 14) hx hb dX1_chosen_7 rfl (fun h7 => absurd h7 (by decide)) (fun h7 => ?_)
  refine lv_iconst (v := 1) hx hb dX1_chosen_10 (by decide) ?_
  refine lv_goto (tgt := 15) hx hb dX1_chosen_11 rfl ?_
  refine va_put (D := (dC, dI)) (ci := 1) (v := .int 1) (ty := .int) (C := RX1) (T := TX1) (N := 5) hx hb hts hin tyX1 tyX1_ok nX1 hown hK hP hD hS 0 rfl rfl 4 (by decide) hf23 (fun _ h9 => h9) rfl (by decide +kernel) rfl rfl (Nat.le_of_ble_eq_true rfl) dX1_chosen_15 (fun H locs hP hD hS => ?_)
  have hP : va_P (dC, dI) vwCl [(g0, .inr (1, [.ref b0, .ref b1, .ref b2, .int k, .int 1])), (b0, .inl (cA, 10, .inl w)), (b1, .inl (cA, 10, .inl pr)), (b2, .inl (cA, 310, .inl vt))] H := hP
  have hD : va_D A [(g0, .inr (1, [.ref b0, .ref b1, .ref b2, .int k, .int 1])), (b0, .inl (cA, 10, .inl w)), (b1, .inl (cA, 10, .inl pr)), (b2, .inl (cA, 310, .inl vt))] := hD
  refine lv_aload_n hx hb dX1_chosen_18 rfl (lv_at hl 0 rfl) ?_
  refine va_get (D := (dC, dI)) (ci := 1) (v := .int 1) (C := RX1) (T := TX1) (N := 5) hx hb hts hin hown hK hP 0 rfl rfl 4 (by decide) hf23 (fun _ h9 => h9) rfl dX1_chosen_19 ?_
  refine lv_if_le (tgt := 29) hx hb dX1_chosen_22 rfl (fun h22 => absurd h22 (by decide)) (fun h22 => ?_)
  refine lv_iconst (v := 0) hx hb dX1_chosen_25 (by decide) ?_
  refine lv_goto (tgt := 34) hx hb dX1_chosen_26 rfl ?_
  exact W.iret (v := 0) hx hb hr (fun t ht _ => ⟨⟨0, (), rfl, rfl, by show va_P _ _ _ t.heap; rw [ht]; exact hP⟩, hS.F ht⟩) hS.2.2 dX1_chosen_34

set_option maxHeartbeats 4000000 in
set_option maxRecDepth 100000 in
theorem r_can (l : Launch) (dC : Nat → ClassId) (dI : Nat → Nat → Nat) (cA : ClassId) (g0 b0 b1 b2 : Nat) (w pr vt : Nat → Int32) (k th : Int32) (sz : Nat) (b : Nat) (hb0 : b < 31) (v : Nat) (hv0 : v < 10) : Met l yX1_can wsX1_can ({ frames := 3, cells := 0, slots := 0, locals := 69 }) (bb_Pm [.ref g0, .int (nI b), .int (nI v)] (dC, dI) vwCl [(g0, .inr (1, [.ref b0, .ref b1, .ref b2, .int k, .int th])), (b0, .inl (cA, 10, .inl w)), (b1, .inl (cA, 10, .inl pr)), (b2, .inl (cA, 310, .inl vt))] [(cA, .int)] sz) (bb_Qm (bb_I (bb_rcan w k pr vt b (nI v))) (dC, dI) vwCl [(g0, .inr (1, [.ref b0, .ref b1, .ref b2, .int k, .int 0])), (b0, .inl (cA, 10, .inl w)), (b1, .inl (cA, 10, .inl pr)), (b2, .inl (cA, 310, .inl vt))] (va_A [(g0, .inr (1, [.ref b0, .ref b1, .ref b2, .int k, .int th])), (b0, .inl (cA, 10, .inl w)), (b1, .inl (cA, 10, .inl pr)), (b2, .inl (cA, 310, .inl vt))] sz)) 0 0 (va_A [(g0, .inr (1, [.ref b0, .ref b1, .ref b2, .int k, .int th])), (b0, .inl (cA, 10, .inl w)), (b1, .inl (cA, 10, .inl pr)), (b2, .inl (cA, 310, .inl vt))] sz) := by
  refine Met.ofW (cc := cX1_can) (maxL := 3) (ret := some .boolean) (by decide) rfl ?_
  intro p e s m args below meth c s₁ B hml hv
  obtain ⟨rfl, hsz, hP, hK, hD0⟩ := hv
  have hx := B.exec
  have hb := B.bytes
  have hr := B.returns
  have hts := atoms_spec (ws := wsX1_can) B.pre
  have hown : s.vm.findClass RX1 = some m.cls := findClass_of_methodNamed B.named
  have hlocks := B.notSynchronized
  subst hsz
  have hD := hD0.self (sz := s.heap.size)
  generalize hAe : va_A [(g0, .inr (1, [.ref b0, .ref b1, .ref b2, .int k, .int th])), (b0, .inl (cA, 10, .inl w)), (b1, .inl (cA, 10, .inl pr)), (b2, .inl (cA, 310, .inl vt))] s.heap.size = A at hD ⊢
  have hA : ∀ q : Nat, s.heap.size ≤ q → A q := fun q h => by rw [← hAe]; exact Or.inr h
  have hin : ∀ w9 ∈ u_ws RX1 TX1 5, w9 ∈ wsX1_can := fun w9 h9 => List.mem_cons_of_mem _ (bb_inX1 w9 h9)
  have hf23 := hts _ (List.mem_cons_of_mem _ bb_fX1_23)
  have hl := lv_entry ([.ref g0, .int (nI b), .int (nI v)]) (n := 3) (Nat.le_of_ble_eq_true rfl)
  rw [lg_entry_eq]
  generalize (lg_sl ([.ref g0, .int (nI b), .int (nI v)]) ++ List.replicate (3 - (lg_sl ([.ref g0, .int (nI b), .int (nI v)])).length) Slot.unset).toArray = ls at hl ⊢
  have hl : lv_has ls 3 [(0, .ref g0), (1, .int (nI b)), (2, .int (nI v))] := hl
  refine bb_gen hP hD (fun H locs hP hD hS => ?_)
  refine lv_aload_n hx hb dX1_can_0 rfl (lv_at hl 0 rfl) ?_
  refine lv_iload_n hx hb dX1_can_1 rfl (lv_at hl 1 rfl) ?_
  refine lv_bipush (v := nI 31) hx hb dX1_can_2 (by decide) ?_
  refine bb_cS (As := [.int (nI b), .int (nI 31)]) (rest := [.ref g0]) (r := bb_I (bb_out (nI b) (nI 31))) ⟨hx, hb, hml, hown, hts⟩ (m_out l (nI b) (nI 31)) (cwS 2 hts gX1_can_X1_out rfl rfl rfl (by decide +kernel) ⟨Nat.le_of_ble_eq_true rfl, Nat.le_of_ble_eq_true rfl⟩) rfl hl.1 rfl (Nat.le_of_ble_eq_true rfl) dX1_can_4 (Nat.zero_le _) (Nat.zero_le _) ?_
  refine bb_topi (y := 0) (by rw [bb_out_no hb0 (by decide)]; rfl) ?_
  refine lv_if_ne (tgt := 19) hx hb dX1_can_7 rfl (fun h7 => absurd rfl h7) (fun h7 => ?_)
  refine lv_iload_n hx hb dX1_can_10 rfl (lv_at hl 2 rfl) ?_
  refine lv_bipush (v := nI 10) hx hb dX1_can_11 (by decide) ?_
  refine bb_cS (As := [.int (nI v), .int (nI 10)]) (rest := [.ref g0]) (r := bb_I (bb_out (nI v) (nI 10))) ⟨hx, hb, hml, hown, hts⟩ (m_out l (nI v) (nI 10)) (cwS 2 hts gX1_can_X1_out rfl rfl rfl (by decide +kernel) ⟨Nat.le_of_ble_eq_true rfl, Nat.le_of_ble_eq_true rfl⟩) rfl hl.1 rfl (Nat.le_of_ble_eq_true rfl) dX1_can_13 (Nat.zero_le _) (Nat.zero_le _) ?_
  refine bb_topi (y := 0) (by rw [bb_out_no hv0 (by decide)]; rfl) ?_
  refine lv_if_eq (tgt := 23) hx hb dX1_can_16 rfl (fun h16 => ?_) (fun h16 => absurd rfl h16)
  refine lv_iconst (v := 0) hx hb dX1_can_23 (by decide) ?_
  refine va_put (D := (dC, dI)) (ci := 1) (v := .int 0) (ty := .int) (C := RX1) (T := TX1) (N := 5) hx hb hts hin tyX1 tyX1_ok nX1 hown hK hP hD hS 0 rfl rfl 4 (by decide) hf23 (fun _ h9 => h9) rfl (by decide +kernel) rfl rfl (Nat.le_of_ble_eq_true rfl) dX1_can_24 (fun H locs hP hD hS => ?_)
  have hP : va_P (dC, dI) vwCl [(g0, .inr (1, [.ref b0, .ref b1, .ref b2, .int k, .int 0])), (b0, .inl (cA, 10, .inl w)), (b1, .inl (cA, 10, .inl pr)), (b2, .inl (cA, 310, .inl vt))] H := hP
  have hD : va_D A [(g0, .inr (1, [.ref b0, .ref b1, .ref b2, .int k, .int 0])), (b0, .inl (cA, 10, .inl w)), (b1, .inl (cA, 10, .inl pr)), (b2, .inl (cA, 310, .inl vt))] := hD
  refine lv_aload_n hx hb dX1_can_27 rfl (lv_at hl 0 rfl) ?_
  refine va_get (D := (dC, dI)) (ci := 1) (v := .int 0) (C := RX1) (T := TX1) (N := 5) hx hb hts hin hown hK hP 0 rfl rfl 4 (by decide) hf23 (fun _ h9 => h9) rfl dX1_can_28 ?_
  refine lv_if_ne (tgt := 47) hx hb dX1_can_31 rfl (fun h31 => absurd rfl h31) (fun h31 => ?_)
  refine lv_aload_n hx hb dX1_can_34 rfl (lv_at hl 0 rfl) ?_
  refine lv_iload_n hx hb dX1_can_35 rfl (lv_at hl 1 rfl) ?_
  refine lv_iload_n hx hb dX1_can_36 rfl (lv_at hl 2 rfl) ?_
  refine bb_cV (As := [.int (nI b), .int (nI v)]) (rest := []) (r := bb_I (bb_rcan w k pr vt b (nI v))) 0 ⟨hx, hb, hml, hown, hts⟩ (m_canBe l dC dI cA g0 b0 b1 b2 w pr vt k 0 b (nI v) (by omega)) (cwV 2 hts gX1_can_X1_canBe rfl rfl rfl (by decide +kernel) ⟨Nat.le_of_ble_eq_true rfl, Nat.le_of_ble_eq_true rfl⟩) hP hK rfl rfl rfl hl.1 rfl (Nat.le_of_ble_eq_true rfl) dX1_can_37 (Nat.zero_le _) (Nat.zero_le _) ?_
  refine lv_if_eq (tgt := 47) hx hb dX1_can_40 rfl (fun h40 => ?_) (fun h40 => ?_)
  · skip
    have q40 := bb_I_0.mp h40
    refine lv_iconst (v := 0) hx hb dX1_can_47 (by decide) ?_
    have er : 0 = bb_I (bb_rcan w k pr vt b (nI v)) := by simp [bb_I, h7, h16, h31, h40, q40]
    exact W.zret (v := 0) hx hb hr bb_z0 (fun t ht _ => ⟨⟨0, (), rfl, er, by show va_P _ _ _ t.heap; rw [ht]; exact hP⟩, hS.F ht⟩) hS.2.2 dX1_can_48
  · skip
    have q40 := bb_nz h40
    refine lv_iconst (v := 1) hx hb dX1_can_43 (by decide) ?_
    refine lv_goto (tgt := 48) hx hb dX1_can_44 rfl ?_
    have er : 1 = bb_I (bb_rcan w k pr vt b (nI v)) := by simp [bb_I, h7, h16, h31, h40, q40]
    exact W.zret (v := 1) hx hb hr bb_z1 (fun t ht _ => ⟨⟨1, (), rfl, er, by show va_P _ _ _ t.heap; rw [ht]; exact hP⟩, hS.F ht⟩) hS.2.2 dX1_can_48

set_option maxHeartbeats 4000000 in
set_option maxRecDepth 100000 in
theorem r_can1 (l : Launch) (dC : Nat → ClassId) (dI : Nat → Nat → Nat) (cA : ClassId) (g0 b0 b1 b2 : Nat) (w pr vt : Nat → Int32) (k th : Int32) (sz : Nat) (x0 x1 : Int32) (hbad : (bb_out x0 (nI 31) || bb_out x1 (nI 10)) = true) : Met l yX1_can wsX1_can ({ frames := 3, cells := 0, slots := 0, locals := 69 }) (bb_Pm [.ref g0, .int x0, .int x1] (dC, dI) vwCl [(g0, .inr (1, [.ref b0, .ref b1, .ref b2, .int k, .int th])), (b0, .inl (cA, 10, .inl w)), (b1, .inl (cA, 10, .inl pr)), (b2, .inl (cA, 310, .inl vt))] [(cA, .int)] sz) (bb_Qm (0) (dC, dI) vwCl [(g0, .inr (1, [.ref b0, .ref b1, .ref b2, .int k, .int 1])), (b0, .inl (cA, 10, .inl w)), (b1, .inl (cA, 10, .inl pr)), (b2, .inl (cA, 310, .inl vt))] (va_A [(g0, .inr (1, [.ref b0, .ref b1, .ref b2, .int k, .int th])), (b0, .inl (cA, 10, .inl w)), (b1, .inl (cA, 10, .inl pr)), (b2, .inl (cA, 310, .inl vt))] sz)) 0 0 (va_A [(g0, .inr (1, [.ref b0, .ref b1, .ref b2, .int k, .int th])), (b0, .inl (cA, 10, .inl w)), (b1, .inl (cA, 10, .inl pr)), (b2, .inl (cA, 310, .inl vt))] sz) := by
  refine Met.ofW (cc := cX1_can) (maxL := 3) (ret := some .boolean) (by decide) rfl ?_
  intro p e s m args below meth c s₁ B hml hv
  obtain ⟨rfl, hsz, hP, hK, hD0⟩ := hv
  have hx := B.exec
  have hb := B.bytes
  have hr := B.returns
  have hts := atoms_spec (ws := wsX1_can) B.pre
  have hown : s.vm.findClass RX1 = some m.cls := findClass_of_methodNamed B.named
  have hlocks := B.notSynchronized
  subst hsz
  have hD := hD0.self (sz := s.heap.size)
  generalize hAe : va_A [(g0, .inr (1, [.ref b0, .ref b1, .ref b2, .int k, .int th])), (b0, .inl (cA, 10, .inl w)), (b1, .inl (cA, 10, .inl pr)), (b2, .inl (cA, 310, .inl vt))] s.heap.size = A at hD ⊢
  have hA : ∀ q : Nat, s.heap.size ≤ q → A q := fun q h => by rw [← hAe]; exact Or.inr h
  have hin : ∀ w9 ∈ u_ws RX1 TX1 5, w9 ∈ wsX1_can := fun w9 h9 => List.mem_cons_of_mem _ (bb_inX1 w9 h9)
  have hf23 := hts _ (List.mem_cons_of_mem _ bb_fX1_23)
  have hl := lv_entry ([.ref g0, .int x0, .int x1]) (n := 3) (Nat.le_of_ble_eq_true rfl)
  rw [lg_entry_eq]
  generalize (lg_sl ([.ref g0, .int x0, .int x1]) ++ List.replicate (3 - (lg_sl ([.ref g0, .int x0, .int x1])).length) Slot.unset).toArray = ls at hl ⊢
  have hl : lv_has ls 3 [(0, .ref g0), (1, .int x0), (2, .int x1)] := hl
  refine bb_gen hP hD (fun H locs hP hD hS => ?_)
  refine lv_aload_n hx hb dX1_can_0 rfl (lv_at hl 0 rfl) ?_
  refine lv_iload_n hx hb dX1_can_1 rfl (lv_at hl 1 rfl) ?_
  refine lv_bipush (v := nI 31) hx hb dX1_can_2 (by decide) ?_
  refine bb_cS (As := [.int x0, .int (nI 31)]) (rest := [.ref g0]) (r := bb_I (bb_out x0 (nI 31))) ⟨hx, hb, hml, hown, hts⟩ (m_out l x0 (nI 31)) (cwS 2 hts gX1_can_X1_out rfl rfl rfl (by decide +kernel) ⟨Nat.le_of_ble_eq_true rfl, Nat.le_of_ble_eq_true rfl⟩) rfl hl.1 rfl (Nat.le_of_ble_eq_true rfl) dX1_can_4 (Nat.zero_le _) (Nat.zero_le _) ?_
  refine lv_if_ne (tgt := 19) hx hb dX1_can_7 rfl (fun h7 => ?_) (fun h7 => ?_)
  · skip
    have q7 := bb_nz h7
    refine lv_iconst (v := 1) hx hb dX1_can_19 (by decide) ?_
    refine lv_goto (tgt := 24) hx hb dX1_can_20 rfl ?_
    refine va_put (D := (dC, dI)) (ci := 1) (v := .int 1) (ty := .int) (C := RX1) (T := TX1) (N := 5) hx hb hts hin tyX1 tyX1_ok nX1 hown hK hP hD hS 0 rfl rfl 4 (by decide) hf23 (fun _ h9 => h9) rfl (by decide +kernel) rfl rfl (Nat.le_of_ble_eq_true rfl) dX1_can_24 (fun H locs hP hD hS => ?_)
    have hP : va_P (dC, dI) vwCl [(g0, .inr (1, [.ref b0, .ref b1, .ref b2, .int k, .int 1])), (b0, .inl (cA, 10, .inl w)), (b1, .inl (cA, 10, .inl pr)), (b2, .inl (cA, 310, .inl vt))] H := hP
    have hD : va_D A [(g0, .inr (1, [.ref b0, .ref b1, .ref b2, .int k, .int 1])), (b0, .inl (cA, 10, .inl w)), (b1, .inl (cA, 10, .inl pr)), (b2, .inl (cA, 310, .inl vt))] := hD
    refine lv_aload_n hx hb dX1_can_27 rfl (lv_at hl 0 rfl) ?_
    refine va_get (D := (dC, dI)) (ci := 1) (v := .int 1) (C := RX1) (T := TX1) (N := 5) hx hb hts hin hown hK hP 0 rfl rfl 4 (by decide) hf23 (fun _ h9 => h9) rfl dX1_can_28 ?_
    refine lv_if_ne (tgt := 47) hx hb dX1_can_31 rfl (fun h31 => ?_) (fun h31 => absurd h31 (by decide))
    refine lv_iconst (v := 0) hx hb dX1_can_47 (by decide) ?_
    exact W.zret (v := 0) hx hb hr bb_z0 (fun t ht _ => ⟨⟨0, (), rfl, rfl, by show va_P _ _ _ t.heap; rw [ht]; exact hP⟩, hS.F ht⟩) hS.2.2 dX1_can_48
  · skip
    have q7 := bb_I_0.mp h7
    refine lv_iload_n hx hb dX1_can_10 rfl (lv_at hl 2 rfl) ?_
    refine lv_bipush (v := nI 10) hx hb dX1_can_11 (by decide) ?_
    refine bb_cS (As := [.int x1, .int (nI 10)]) (rest := [.ref g0]) (r := bb_I (bb_out x1 (nI 10))) ⟨hx, hb, hml, hown, hts⟩ (m_out l x1 (nI 10)) (cwS 2 hts gX1_can_X1_out rfl rfl rfl (by decide +kernel) ⟨Nat.le_of_ble_eq_true rfl, Nat.le_of_ble_eq_true rfl⟩) rfl hl.1 rfl (Nat.le_of_ble_eq_true rfl) dX1_can_13 (Nat.zero_le _) (Nat.zero_le _) ?_
    refine lv_if_eq (tgt := 23) hx hb dX1_can_16 rfl (fun h16 => absurd hbad (by simp [bb_I_0.mp h16, q7])) (fun h16 => ?_)
    have q16 := bb_nz h16
    refine lv_iconst (v := 1) hx hb dX1_can_19 (by decide) ?_
    refine lv_goto (tgt := 24) hx hb dX1_can_20 rfl ?_
    refine va_put (D := (dC, dI)) (ci := 1) (v := .int 1) (ty := .int) (C := RX1) (T := TX1) (N := 5) hx hb hts hin tyX1 tyX1_ok nX1 hown hK hP hD hS 0 rfl rfl 4 (by decide) hf23 (fun _ h9 => h9) rfl (by decide +kernel) rfl rfl (Nat.le_of_ble_eq_true rfl) dX1_can_24 (fun H locs hP hD hS => ?_)
    have hP : va_P (dC, dI) vwCl [(g0, .inr (1, [.ref b0, .ref b1, .ref b2, .int k, .int 1])), (b0, .inl (cA, 10, .inl w)), (b1, .inl (cA, 10, .inl pr)), (b2, .inl (cA, 310, .inl vt))] H := hP
    have hD : va_D A [(g0, .inr (1, [.ref b0, .ref b1, .ref b2, .int k, .int 1])), (b0, .inl (cA, 10, .inl w)), (b1, .inl (cA, 10, .inl pr)), (b2, .inl (cA, 310, .inl vt))] := hD
    refine lv_aload_n hx hb dX1_can_27 rfl (lv_at hl 0 rfl) ?_
    refine va_get (D := (dC, dI)) (ci := 1) (v := .int 1) (C := RX1) (T := TX1) (N := 5) hx hb hts hin hown hK hP 0 rfl rfl 4 (by decide) hf23 (fun _ h9 => h9) rfl dX1_can_28 ?_
    refine lv_if_ne (tgt := 47) hx hb dX1_can_31 rfl (fun h31 => ?_) (fun h31 => absurd h31 (by decide))
    refine lv_iconst (v := 0) hx hb dX1_can_47 (by decide) ?_
    exact W.zret (v := 0) hx hb hr bb_z0 (fun t ht _ => ⟨⟨0, (), rfl, rfl, by show va_P _ _ _ t.heap; rw [ht]; exact hP⟩, hS.F ht⟩) hS.2.2 dX1_can_48

set_option maxHeartbeats 4000000 in
set_option maxRecDepth 100000 in
theorem r_safe (l : Launch) (dC : Nat → ClassId) (dI : Nat → Nat → Nat) (cA : ClassId) (g0 b0 b1 b2 : Nat) (w pr vt : Nat → Int32) (k th : Int32) (sz : Nat) (b : Nat) (hb0 : b < 31) (v : Nat) (hv0 : v < 10) : Met l yX1_safe wsX1_safe ({ frames := 4, cells := 0, slots := 0, locals := 93 }) (bb_Pm [.ref g0, .int (nI b), .int (nI v)] (dC, dI) vwCl [(g0, .inr (1, [.ref b0, .ref b1, .ref b2, .int k, .int th])), (b0, .inl (cA, 10, .inl w)), (b1, .inl (cA, 10, .inl pr)), (b2, .inl (cA, 310, .inl vt))] [(cA, .int)] sz) (bb_Qm (bb_I (bb_rsaf w k pr vt b (nI v))) (dC, dI) vwCl [(g0, .inr (1, [.ref b0, .ref b1, .ref b2, .int k, .int 0])), (b0, .inl (cA, 10, .inl w)), (b1, .inl (cA, 10, .inl pr)), (b2, .inl (cA, 310, .inl vt))] (va_A [(g0, .inr (1, [.ref b0, .ref b1, .ref b2, .int k, .int th])), (b0, .inl (cA, 10, .inl w)), (b1, .inl (cA, 10, .inl pr)), (b2, .inl (cA, 310, .inl vt))] sz)) 0 0 (va_A [(g0, .inr (1, [.ref b0, .ref b1, .ref b2, .int k, .int th])), (b0, .inl (cA, 10, .inl w)), (b1, .inl (cA, 10, .inl pr)), (b2, .inl (cA, 310, .inl vt))] sz) := by
  refine Met.ofW (cc := cX1_safe) (maxL := 3) (ret := some .boolean) (by decide) rfl ?_
  intro p e s m args below meth c s₁ B hml hv
  obtain ⟨rfl, hsz, hP, hK, hD0⟩ := hv
  have hx := B.exec
  have hb := B.bytes
  have hr := B.returns
  have hts := atoms_spec (ws := wsX1_safe) B.pre
  have hown : s.vm.findClass RX1 = some m.cls := findClass_of_methodNamed B.named
  have hlocks := B.notSynchronized
  subst hsz
  have hD := hD0.self (sz := s.heap.size)
  generalize hAe : va_A [(g0, .inr (1, [.ref b0, .ref b1, .ref b2, .int k, .int th])), (b0, .inl (cA, 10, .inl w)), (b1, .inl (cA, 10, .inl pr)), (b2, .inl (cA, 310, .inl vt))] s.heap.size = A at hD ⊢
  have hA : ∀ q : Nat, s.heap.size ≤ q → A q := fun q h => by rw [← hAe]; exact Or.inr h
  have hin : ∀ w9 ∈ u_ws RX1 TX1 5, w9 ∈ wsX1_safe := fun w9 h9 => List.mem_cons_of_mem _ (bb_inX1 w9 h9)
  have hf23 := hts _ (List.mem_cons_of_mem _ bb_fX1_23)
  have hl := lv_entry ([.ref g0, .int (nI b), .int (nI v)]) (n := 3) (Nat.le_of_ble_eq_true rfl)
  rw [lg_entry_eq]
  generalize (lg_sl ([.ref g0, .int (nI b), .int (nI v)]) ++ List.replicate (3 - (lg_sl ([.ref g0, .int (nI b), .int (nI v)])).length) Slot.unset).toArray = ls at hl ⊢
  have hl : lv_has ls 3 [(0, .ref g0), (1, .int (nI b)), (2, .int (nI v))] := hl
  refine bb_gen hP hD (fun H locs hP hD hS => ?_)
  refine lv_aload_n hx hb dX1_safe_0 rfl (lv_at hl 0 rfl) ?_
  refine lv_iload_n hx hb dX1_safe_1 rfl (lv_at hl 1 rfl) ?_
  refine lv_bipush (v := nI 31) hx hb dX1_safe_2 (by decide) ?_
  refine bb_cS (As := [.int (nI b), .int (nI 31)]) (rest := [.ref g0]) (r := bb_I (bb_out (nI b) (nI 31))) ⟨hx, hb, hml, hown, hts⟩ (m_out l (nI b) (nI 31)) (cwS 2 hts gX1_safe_X1_out rfl rfl rfl (by decide +kernel) ⟨Nat.le_of_ble_eq_true rfl, Nat.le_of_ble_eq_true rfl⟩) rfl hl.1 rfl (Nat.le_of_ble_eq_true rfl) dX1_safe_4 (Nat.zero_le _) (Nat.zero_le _) ?_
  refine bb_topi (y := 0) (by rw [bb_out_no hb0 (by decide)]; rfl) ?_
  refine lv_if_ne (tgt := 19) hx hb dX1_safe_7 rfl (fun h7 => absurd rfl h7) (fun h7 => ?_)
  refine lv_iload_n hx hb dX1_safe_10 rfl (lv_at hl 2 rfl) ?_
  refine lv_bipush (v := nI 10) hx hb dX1_safe_11 (by decide) ?_
  refine bb_cS (As := [.int (nI v), .int (nI 10)]) (rest := [.ref g0]) (r := bb_I (bb_out (nI v) (nI 10))) ⟨hx, hb, hml, hown, hts⟩ (m_out l (nI v) (nI 10)) (cwS 2 hts gX1_safe_X1_out rfl rfl rfl (by decide +kernel) ⟨Nat.le_of_ble_eq_true rfl, Nat.le_of_ble_eq_true rfl⟩) rfl hl.1 rfl (Nat.le_of_ble_eq_true rfl) dX1_safe_13 (Nat.zero_le _) (Nat.zero_le _) ?_
  refine bb_topi (y := 0) (by rw [bb_out_no hv0 (by decide)]; rfl) ?_
  refine lv_if_eq (tgt := 23) hx hb dX1_safe_16 rfl (fun h16 => ?_) (fun h16 => absurd rfl h16)
  refine lv_iconst (v := 0) hx hb dX1_safe_23 (by decide) ?_
  refine va_put (D := (dC, dI)) (ci := 1) (v := .int 0) (ty := .int) (C := RX1) (T := TX1) (N := 5) hx hb hts hin tyX1 tyX1_ok nX1 hown hK hP hD hS 0 rfl rfl 4 (by decide) hf23 (fun _ h9 => h9) rfl (by decide +kernel) rfl rfl (Nat.le_of_ble_eq_true rfl) dX1_safe_24 (fun H locs hP hD hS => ?_)
  have hP : va_P (dC, dI) vwCl [(g0, .inr (1, [.ref b0, .ref b1, .ref b2, .int k, .int 0])), (b0, .inl (cA, 10, .inl w)), (b1, .inl (cA, 10, .inl pr)), (b2, .inl (cA, 310, .inl vt))] H := hP
  have hD : va_D A [(g0, .inr (1, [.ref b0, .ref b1, .ref b2, .int k, .int 0])), (b0, .inl (cA, 10, .inl w)), (b1, .inl (cA, 10, .inl pr)), (b2, .inl (cA, 310, .inl vt))] := hD
  refine lv_aload_n hx hb dX1_safe_27 rfl (lv_at hl 0 rfl) ?_
  refine va_get (D := (dC, dI)) (ci := 1) (v := .int 0) (C := RX1) (T := TX1) (N := 5) hx hb hts hin hown hK hP 0 rfl rfl 4 (by decide) hf23 (fun _ h9 => h9) rfl dX1_safe_28 ?_
  refine lv_if_ne (tgt := 47) hx hb dX1_safe_31 rfl (fun h31 => absurd rfl h31) (fun h31 => ?_)
  refine lv_aload_n hx hb dX1_safe_34 rfl (lv_at hl 0 rfl) ?_
  refine lv_iload_n hx hb dX1_safe_35 rfl (lv_at hl 1 rfl) ?_
  refine lv_iload_n hx hb dX1_safe_36 rfl (lv_at hl 2 rfl) ?_
  refine bb_cV (As := [.int (nI b), .int (nI v)]) (rest := []) (r := bb_I (bb_rsaf w k pr vt b (nI v))) 0 ⟨hx, hb, hml, hown, hts⟩ (m_isSafe l dC dI cA g0 b0 b1 b2 w pr vt k 0 b (nI v) (by omega)) (cwV 2 hts gX1_safe_X1_isSafe rfl rfl rfl (by decide +kernel) ⟨Nat.le_of_ble_eq_true rfl, Nat.le_of_ble_eq_true rfl⟩) hP hK rfl rfl rfl hl.1 rfl (Nat.le_of_ble_eq_true rfl) dX1_safe_37 (Nat.zero_le _) (Nat.zero_le _) ?_
  refine lv_if_eq (tgt := 47) hx hb dX1_safe_40 rfl (fun h40 => ?_) (fun h40 => ?_)
  · skip
    have q40 := bb_I_0.mp h40
    refine lv_iconst (v := 0) hx hb dX1_safe_47 (by decide) ?_
    have er : 0 = bb_I (bb_rsaf w k pr vt b (nI v)) := by simp [bb_I, h7, h16, h31, h40, q40]
    exact W.zret (v := 0) hx hb hr bb_z0 (fun t ht _ => ⟨⟨0, (), rfl, er, by show va_P _ _ _ t.heap; rw [ht]; exact hP⟩, hS.F ht⟩) hS.2.2 dX1_safe_48
  · skip
    have q40 := bb_nz h40
    refine lv_iconst (v := 1) hx hb dX1_safe_43 (by decide) ?_
    refine lv_goto (tgt := 48) hx hb dX1_safe_44 rfl ?_
    have er : 1 = bb_I (bb_rsaf w k pr vt b (nI v)) := by simp [bb_I, h7, h16, h31, h40, q40]
    exact W.zret (v := 1) hx hb hr bb_z1 (fun t ht _ => ⟨⟨1, (), rfl, er, by show va_P _ _ _ t.heap; rw [ht]; exact hP⟩, hS.F ht⟩) hS.2.2 dX1_safe_48

set_option maxHeartbeats 4000000 in
set_option maxRecDepth 100000 in
theorem r_safe1 (l : Launch) (dC : Nat → ClassId) (dI : Nat → Nat → Nat) (cA : ClassId) (g0 b0 b1 b2 : Nat) (w pr vt : Nat → Int32) (k th : Int32) (sz : Nat) (x0 x1 : Int32) (hbad : (bb_out x0 (nI 31) || bb_out x1 (nI 10)) = true) : Met l yX1_safe wsX1_safe ({ frames := 4, cells := 0, slots := 0, locals := 93 }) (bb_Pm [.ref g0, .int x0, .int x1] (dC, dI) vwCl [(g0, .inr (1, [.ref b0, .ref b1, .ref b2, .int k, .int th])), (b0, .inl (cA, 10, .inl w)), (b1, .inl (cA, 10, .inl pr)), (b2, .inl (cA, 310, .inl vt))] [(cA, .int)] sz) (bb_Qm (0) (dC, dI) vwCl [(g0, .inr (1, [.ref b0, .ref b1, .ref b2, .int k, .int 1])), (b0, .inl (cA, 10, .inl w)), (b1, .inl (cA, 10, .inl pr)), (b2, .inl (cA, 310, .inl vt))] (va_A [(g0, .inr (1, [.ref b0, .ref b1, .ref b2, .int k, .int th])), (b0, .inl (cA, 10, .inl w)), (b1, .inl (cA, 10, .inl pr)), (b2, .inl (cA, 310, .inl vt))] sz)) 0 0 (va_A [(g0, .inr (1, [.ref b0, .ref b1, .ref b2, .int k, .int th])), (b0, .inl (cA, 10, .inl w)), (b1, .inl (cA, 10, .inl pr)), (b2, .inl (cA, 310, .inl vt))] sz) := by
  refine Met.ofW (cc := cX1_safe) (maxL := 3) (ret := some .boolean) (by decide) rfl ?_
  intro p e s m args below meth c s₁ B hml hv
  obtain ⟨rfl, hsz, hP, hK, hD0⟩ := hv
  have hx := B.exec
  have hb := B.bytes
  have hr := B.returns
  have hts := atoms_spec (ws := wsX1_safe) B.pre
  have hown : s.vm.findClass RX1 = some m.cls := findClass_of_methodNamed B.named
  have hlocks := B.notSynchronized
  subst hsz
  have hD := hD0.self (sz := s.heap.size)
  generalize hAe : va_A [(g0, .inr (1, [.ref b0, .ref b1, .ref b2, .int k, .int th])), (b0, .inl (cA, 10, .inl w)), (b1, .inl (cA, 10, .inl pr)), (b2, .inl (cA, 310, .inl vt))] s.heap.size = A at hD ⊢
  have hA : ∀ q : Nat, s.heap.size ≤ q → A q := fun q h => by rw [← hAe]; exact Or.inr h
  have hin : ∀ w9 ∈ u_ws RX1 TX1 5, w9 ∈ wsX1_safe := fun w9 h9 => List.mem_cons_of_mem _ (bb_inX1 w9 h9)
  have hf23 := hts _ (List.mem_cons_of_mem _ bb_fX1_23)
  have hl := lv_entry ([.ref g0, .int x0, .int x1]) (n := 3) (Nat.le_of_ble_eq_true rfl)
  rw [lg_entry_eq]
  generalize (lg_sl ([.ref g0, .int x0, .int x1]) ++ List.replicate (3 - (lg_sl ([.ref g0, .int x0, .int x1])).length) Slot.unset).toArray = ls at hl ⊢
  have hl : lv_has ls 3 [(0, .ref g0), (1, .int x0), (2, .int x1)] := hl
  refine bb_gen hP hD (fun H locs hP hD hS => ?_)
  refine lv_aload_n hx hb dX1_safe_0 rfl (lv_at hl 0 rfl) ?_
  refine lv_iload_n hx hb dX1_safe_1 rfl (lv_at hl 1 rfl) ?_
  refine lv_bipush (v := nI 31) hx hb dX1_safe_2 (by decide) ?_
  refine bb_cS (As := [.int x0, .int (nI 31)]) (rest := [.ref g0]) (r := bb_I (bb_out x0 (nI 31))) ⟨hx, hb, hml, hown, hts⟩ (m_out l x0 (nI 31)) (cwS 2 hts gX1_safe_X1_out rfl rfl rfl (by decide +kernel) ⟨Nat.le_of_ble_eq_true rfl, Nat.le_of_ble_eq_true rfl⟩) rfl hl.1 rfl (Nat.le_of_ble_eq_true rfl) dX1_safe_4 (Nat.zero_le _) (Nat.zero_le _) ?_
  refine lv_if_ne (tgt := 19) hx hb dX1_safe_7 rfl (fun h7 => ?_) (fun h7 => ?_)
  · skip
    have q7 := bb_nz h7
    refine lv_iconst (v := 1) hx hb dX1_safe_19 (by decide) ?_
    refine lv_goto (tgt := 24) hx hb dX1_safe_20 rfl ?_
    refine va_put (D := (dC, dI)) (ci := 1) (v := .int 1) (ty := .int) (C := RX1) (T := TX1) (N := 5) hx hb hts hin tyX1 tyX1_ok nX1 hown hK hP hD hS 0 rfl rfl 4 (by decide) hf23 (fun _ h9 => h9) rfl (by decide +kernel) rfl rfl (Nat.le_of_ble_eq_true rfl) dX1_safe_24 (fun H locs hP hD hS => ?_)
    have hP : va_P (dC, dI) vwCl [(g0, .inr (1, [.ref b0, .ref b1, .ref b2, .int k, .int 1])), (b0, .inl (cA, 10, .inl w)), (b1, .inl (cA, 10, .inl pr)), (b2, .inl (cA, 310, .inl vt))] H := hP
    have hD : va_D A [(g0, .inr (1, [.ref b0, .ref b1, .ref b2, .int k, .int 1])), (b0, .inl (cA, 10, .inl w)), (b1, .inl (cA, 10, .inl pr)), (b2, .inl (cA, 310, .inl vt))] := hD
    refine lv_aload_n hx hb dX1_safe_27 rfl (lv_at hl 0 rfl) ?_
    refine va_get (D := (dC, dI)) (ci := 1) (v := .int 1) (C := RX1) (T := TX1) (N := 5) hx hb hts hin hown hK hP 0 rfl rfl 4 (by decide) hf23 (fun _ h9 => h9) rfl dX1_safe_28 ?_
    refine lv_if_ne (tgt := 47) hx hb dX1_safe_31 rfl (fun h31 => ?_) (fun h31 => absurd h31 (by decide))
    refine lv_iconst (v := 0) hx hb dX1_safe_47 (by decide) ?_
    exact W.zret (v := 0) hx hb hr bb_z0 (fun t ht _ => ⟨⟨0, (), rfl, rfl, by show va_P _ _ _ t.heap; rw [ht]; exact hP⟩, hS.F ht⟩) hS.2.2 dX1_safe_48
  · skip
    have q7 := bb_I_0.mp h7
    refine lv_iload_n hx hb dX1_safe_10 rfl (lv_at hl 2 rfl) ?_
    refine lv_bipush (v := nI 10) hx hb dX1_safe_11 (by decide) ?_
    refine bb_cS (As := [.int x1, .int (nI 10)]) (rest := [.ref g0]) (r := bb_I (bb_out x1 (nI 10))) ⟨hx, hb, hml, hown, hts⟩ (m_out l x1 (nI 10)) (cwS 2 hts gX1_safe_X1_out rfl rfl rfl (by decide +kernel) ⟨Nat.le_of_ble_eq_true rfl, Nat.le_of_ble_eq_true rfl⟩) rfl hl.1 rfl (Nat.le_of_ble_eq_true rfl) dX1_safe_13 (Nat.zero_le _) (Nat.zero_le _) ?_
    refine lv_if_eq (tgt := 23) hx hb dX1_safe_16 rfl (fun h16 => absurd hbad (by simp [bb_I_0.mp h16, q7])) (fun h16 => ?_)
    have q16 := bb_nz h16
    refine lv_iconst (v := 1) hx hb dX1_safe_19 (by decide) ?_
    refine lv_goto (tgt := 24) hx hb dX1_safe_20 rfl ?_
    refine va_put (D := (dC, dI)) (ci := 1) (v := .int 1) (ty := .int) (C := RX1) (T := TX1) (N := 5) hx hb hts hin tyX1 tyX1_ok nX1 hown hK hP hD hS 0 rfl rfl 4 (by decide) hf23 (fun _ h9 => h9) rfl (by decide +kernel) rfl rfl (Nat.le_of_ble_eq_true rfl) dX1_safe_24 (fun H locs hP hD hS => ?_)
    have hP : va_P (dC, dI) vwCl [(g0, .inr (1, [.ref b0, .ref b1, .ref b2, .int k, .int 1])), (b0, .inl (cA, 10, .inl w)), (b1, .inl (cA, 10, .inl pr)), (b2, .inl (cA, 310, .inl vt))] H := hP
    have hD : va_D A [(g0, .inr (1, [.ref b0, .ref b1, .ref b2, .int k, .int 1])), (b0, .inl (cA, 10, .inl w)), (b1, .inl (cA, 10, .inl pr)), (b2, .inl (cA, 310, .inl vt))] := hD
    refine lv_aload_n hx hb dX1_safe_27 rfl (lv_at hl 0 rfl) ?_
    refine va_get (D := (dC, dI)) (ci := 1) (v := .int 1) (C := RX1) (T := TX1) (N := 5) hx hb hts hin hown hK hP 0 rfl rfl 4 (by decide) hf23 (fun _ h9 => h9) rfl dX1_safe_28 ?_
    refine lv_if_ne (tgt := 47) hx hb dX1_safe_31 rfl (fun h31 => ?_) (fun h31 => absurd h31 (by decide))
    refine lv_iconst (v := 0) hx hb dX1_safe_47 (by decide) ?_
    exact W.zret (v := 0) hx hb hr bb_z0 (fun t ht _ => ⟨⟨0, (), rfl, rfl, by show va_P _ _ _ t.heap; rw [ht]; exact hP⟩, hS.F ht⟩) hS.2.2 dX1_safe_48

set_option maxHeartbeats 4000000 in
set_option maxRecDepth 100000 in
theorem r_free (l : Launch) (dC : Nat → ClassId) (dI : Nat → Nat → Nat) (cA : ClassId) (g0 b0 b1 b2 : Nat) (w pr vt : Nat → Int32) (k th : Int32) (sz : Nat) (b : Nat) (hb0 : b < 31) : Met l yX1_free wsX1_free ({ frames := 4, cells := 0, slots := 0, locals := 93 }) (bb_Pm [.ref g0, .int (nI b)] (dC, dI) vwCl [(g0, .inr (1, [.ref b0, .ref b1, .ref b2, .int k, .int th])), (b0, .inl (cA, 10, .inl w)), (b1, .inl (cA, 10, .inl pr)), (b2, .inl (cA, 310, .inl vt))] [(cA, .int)] sz) (bb_Qm (nI (bb_cn (fun v9 => bb_rsaf w k pr vt b (nI v9)) 10)) (dC, dI) vwCl [(g0, .inr (1, [.ref b0, .ref b1, .ref b2, .int k, .int 0])), (b0, .inl (cA, 10, .inl w)), (b1, .inl (cA, 10, .inl pr)), (b2, .inl (cA, 310, .inl vt))] (va_A [(g0, .inr (1, [.ref b0, .ref b1, .ref b2, .int k, .int th])), (b0, .inl (cA, 10, .inl w)), (b1, .inl (cA, 10, .inl pr)), (b2, .inl (cA, 310, .inl vt))] sz)) 0 0 (va_A [(g0, .inr (1, [.ref b0, .ref b1, .ref b2, .int k, .int th])), (b0, .inl (cA, 10, .inl w)), (b1, .inl (cA, 10, .inl pr)), (b2, .inl (cA, 310, .inl vt))] sz) := by
  refine Met.ofW (cc := cX1_free) (maxL := 4) (ret := some .int) (by decide) rfl ?_
  intro p e s m args below meth c s₁ B hml hv
  obtain ⟨rfl, hsz, hP, hK, hD0⟩ := hv
  have hx := B.exec
  have hb := B.bytes
  have hr := B.returns
  have hts := atoms_spec (ws := wsX1_free) B.pre
  have hown : s.vm.findClass RX1 = some m.cls := findClass_of_methodNamed B.named
  have hlocks := B.notSynchronized
  subst hsz
  have hD := hD0.self (sz := s.heap.size)
  generalize hAe : va_A [(g0, .inr (1, [.ref b0, .ref b1, .ref b2, .int k, .int th])), (b0, .inl (cA, 10, .inl w)), (b1, .inl (cA, 10, .inl pr)), (b2, .inl (cA, 310, .inl vt))] s.heap.size = A at hD ⊢
  have hA : ∀ q : Nat, s.heap.size ≤ q → A q := fun q h => by rw [← hAe]; exact Or.inr h
  have hin : ∀ w9 ∈ u_ws RX1 TX1 5, w9 ∈ wsX1_free := fun w9 h9 => List.mem_cons_of_mem _ (bb_inX1 w9 h9)
  have hf23 := hts _ (List.mem_cons_of_mem _ bb_fX1_23)
  have hl := lv_entry ([.ref g0, .int (nI b)]) (n := 4) (Nat.le_of_ble_eq_true rfl)
  rw [lg_entry_eq]
  generalize (lg_sl ([.ref g0, .int (nI b)]) ++ List.replicate (4 - (lg_sl ([.ref g0, .int (nI b)])).length) Slot.unset).toArray = ls at hl ⊢
  have hl : lv_has ls 4 [(0, .ref g0), (1, .int (nI b))] := hl
  refine bb_gen hP hD (fun H locs hP hD hS => ?_)
  refine lv_aload_n hx hb dX1_free_0 rfl (lv_at hl 0 rfl) ?_
  refine lv_iload_n hx hb dX1_free_1 rfl (lv_at hl 1 rfl) ?_
  refine lv_bipush (v := nI 31) hx hb dX1_free_2 (by decide) ?_
  refine bb_cS (As := [.int (nI b), .int (nI 31)]) (rest := [.ref g0]) (r := bb_I (bb_out (nI b) (nI 31))) ⟨hx, hb, hml, hown, hts⟩ (m_out l (nI b) (nI 31)) (cwS 2 hts gX1_free_X1_out rfl rfl rfl (by decide +kernel) ⟨Nat.le_of_ble_eq_true rfl, Nat.le_of_ble_eq_true rfl⟩) rfl hl.1 rfl (Nat.le_of_ble_eq_true rfl) dX1_free_4 (Nat.zero_le _) (Nat.zero_le _) ?_
  refine bb_topi (y := 0) (by rw [bb_out_no hb0 (by decide)]; rfl) ?_
  refine lv_if_eq (tgt := 14) hx hb dX1_free_7 rfl (fun h7 => ?_) (fun h7 => absurd rfl h7)
  refine lv_iconst (v := 0) hx hb dX1_free_14 (by decide) ?_
  refine va_put (D := (dC, dI)) (ci := 1) (v := .int 0) (ty := .int) (C := RX1) (T := TX1) (N := 5) hx hb hts hin tyX1 tyX1_ok nX1 hown hK hP hD hS 0 rfl rfl 4 (by decide) hf23 (fun _ h9 => h9) rfl (by decide +kernel) rfl rfl (Nat.le_of_ble_eq_true rfl) dX1_free_15 (fun H locs hP hD hS => ?_)
  have hP : va_P (dC, dI) vwCl [(g0, .inr (1, [.ref b0, .ref b1, .ref b2, .int k, .int 0])), (b0, .inl (cA, 10, .inl w)), (b1, .inl (cA, 10, .inl pr)), (b2, .inl (cA, 310, .inl vt))] H := hP
  have hD : va_D A [(g0, .inr (1, [.ref b0, .ref b1, .ref b2, .int k, .int 0])), (b0, .inl (cA, 10, .inl w)), (b1, .inl (cA, 10, .inl pr)), (b2, .inl (cA, 310, .inl vt))] := hD
  refine lv_iconst (v := 0) hx hb dX1_free_18 (by decide) ?_
  refine lv_istore_n (lv' := [(2, .int 0), (0, .ref g0), (1, .int (nI b))]) hx hb dX1_free_19 rfl hl (by decide) rfl (fun ls hl => ?_)
  refine lv_iconst (v := 0) hx hb dX1_free_20 (by decide) ?_
  refine lv_istore_n (lv' := [(3, .int 0), (2, .int 0), (0, .ref g0), (1, .int (nI b))]) hx hb dX1_free_21 rfl hl (by decide) rfl (fun ls hl => ?_)
  have hl : lv_has ls 4 [(0, .ref g0), (1, .int (nI b)), (2, .int 0), (3, .int 0)] := lv_sub hl [2, 3, 1, 0] rfl
  refine bb_forW (pc := 22) (I := fun j9 ls => lv_has ls 4 [(0, .ref g0), (1, .int (nI b)), (2, .int (nI (bb_cn (fun v9 => bb_rsaf w k pr vt b (nI v9)) j9))), (3, .int (nI j9))]) 10 ?_ ?_ 0 ls (Nat.zero_le _) hl
  · skip
    intro j ls hj hI ihj
    have hl := hI
    refine lv_iload_n hx hb dX1_free_22 rfl (lv_at hl 3 rfl) ?_
    refine lv_bipush (v := nI 10) hx hb dX1_free_23 (by decide) ?_
    refine lv_icmp_ge (tgt := 53) hx hb dX1_free_25 rfl (fun h25 => absurd h25 (nI_ge hj (by decide))) (fun h25 => ?_)
    have q25 := bb_lt h25
    refine lv_aload_n hx hb dX1_free_28 rfl (lv_at hl 0 rfl) ?_
    refine va_get (D := (dC, dI)) (ci := 1) (v := .int 0) (C := RX1) (T := TX1) (N := 5) hx hb hts hin hown hK hP 0 rfl rfl 4 (by decide) hf23 (fun _ h9 => h9) rfl dX1_free_29 ?_
    refine lv_if_ne (tgt := 53) hx hb dX1_free_32 rfl (fun h32 => absurd rfl h32) (fun h32 => ?_)
    refine lv_aload_n hx hb dX1_free_35 rfl (lv_at hl 0 rfl) ?_
    refine lv_iload_n hx hb dX1_free_36 rfl (lv_at hl 1 rfl) ?_
    refine lv_iload_n hx hb dX1_free_37 rfl (lv_at hl 3 rfl) ?_
    refine bb_cV (As := [.int (nI b), .int (nI j)]) (rest := []) (r := bb_I (bb_rsaf w k pr vt b (nI j))) 0 ⟨hx, hb, hml, hown, hts⟩ (m_isSafe l dC dI cA g0 b0 b1 b2 w pr vt k 0 b (nI j) (by omega)) (cwV 2 hts gX1_free_X1_isSafe rfl rfl rfl (by decide +kernel) ⟨Nat.le_of_ble_eq_true rfl, Nat.le_of_ble_eq_true rfl⟩) hP hK rfl rfl rfl hl.1 rfl (Nat.le_of_ble_eq_true rfl) dX1_free_38 (Nat.zero_le _) (Nat.zero_le _) ?_
    refine lv_if_eq (tgt := 47) hx hb dX1_free_41 rfl (fun h41 => ?_) (fun h41 => ?_)
    · skip
      have q41 := bb_I_0.mp h41
      refine lv_iinc (v := nI (j + 1)) (lv' := [(3, .int (nI (j + 1))), (0, .ref g0), (1, .int (nI b)), (2, .int (nI (bb_cn (fun v9 => bb_rsaf w k pr vt b (nI v9)) j)))]) hx hb dX1_free_47 hl (k := 3) rfl (bb_inc _) (by decide) rfl (fun ls hl => ?_)
      refine lv_goto (tgt := 22) hx hb dX1_free_50 rfl ?_
      have hl : lv_has ls 4 [(0, .ref g0), (1, .int (nI b)), (2, .int (nI (bb_cn (fun v9 => bb_rsaf w k pr vt b (nI v9)) j))), (3, .int (nI (j + 1)))] := lv_sub hl [1, 2, 3, 0] rfl
      have e1 : (nI (bb_cn (fun v9 => bb_rsaf w k pr vt b (nI v9)) j)) = nI (bb_cn (fun v9 => bb_rsaf w k pr vt b (nI v9)) (j + 1)) := by simp [bb_cn, h7, h25, q25, h32, h41, q41]
      have hl : lv_has ls 4 [(0, .ref g0), (1, .int (nI b)), (2, .int (nI (bb_cn (fun v9 => bb_rsaf w k pr vt b (nI v9)) (j + 1)))), (3, .int (nI (j + 1)))] := by rw [← e1]; exact hl
      exact ihj ls hl
    · skip
      have q41 := bb_nz h41
      refine lv_iinc (v := nI ((bb_cn (fun v9 => bb_rsaf w k pr vt b (nI v9)) j) + 1)) (lv' := [(2, .int (nI ((bb_cn (fun v9 => bb_rsaf w k pr vt b (nI v9)) j) + 1))), (0, .ref g0), (1, .int (nI b)), (3, .int (nI j))]) hx hb dX1_free_44 hl (k := 2) rfl (bb_inc _) (by decide) rfl (fun ls hl => ?_)
      refine lv_iinc (v := nI (j + 1)) (lv' := [(3, .int (nI (j + 1))), (2, .int (nI ((bb_cn (fun v9 => bb_rsaf w k pr vt b (nI v9)) j) + 1))), (0, .ref g0), (1, .int (nI b))]) hx hb dX1_free_47 hl (k := 3) rfl (bb_inc _) (by decide) rfl (fun ls hl => ?_)
      refine lv_goto (tgt := 22) hx hb dX1_free_50 rfl ?_
      have hl : lv_has ls 4 [(0, .ref g0), (1, .int (nI b)), (2, .int (nI ((bb_cn (fun v9 => bb_rsaf w k pr vt b (nI v9)) j) + 1))), (3, .int (nI (j + 1)))] := lv_sub hl [2, 3, 1, 0] rfl
      have e2 : (nI ((bb_cn (fun v9 => bb_rsaf w k pr vt b (nI v9)) j) + 1)) = nI (bb_cn (fun v9 => bb_rsaf w k pr vt b (nI v9)) (j + 1)) := by simp [bb_cn, h7, h25, q25, h32, h41, q41]
      have hl : lv_has ls 4 [(0, .ref g0), (1, .int (nI b)), (2, .int (nI (bb_cn (fun v9 => bb_rsaf w k pr vt b (nI v9)) (j + 1)))), (3, .int (nI (j + 1)))] := by rw [← e2]; exact hl
      exact ihj ls hl
  · skip
    intro ls hI
    have hl := hI
    refine lv_iload_n hx hb dX1_free_22 rfl (lv_at hl 3 rfl) ?_
    refine lv_bipush (v := nI 10) hx hb dX1_free_23 (by decide) ?_
    refine lv_icmp_ge (tgt := 53) hx hb dX1_free_25 rfl (fun h25 => ?_) (fun h25 => absurd (nI_le (Nat.le_refl _) (by decide)) h25)
    have q25 := bb_nlt h25
    refine lv_iload_n hx hb dX1_free_53 rfl (lv_at hl 2 rfl) ?_
    exact W.iret (v := nI (bb_cn (fun v9 => bb_rsaf w k pr vt b (nI v9)) 10)) hx hb hr (fun t ht _ => ⟨⟨nI (bb_cn (fun v9 => bb_rsaf w k pr vt b (nI v9)) 10), (), rfl, rfl, by show va_P _ _ _ t.heap; rw [ht]; exact hP⟩, hS.F ht⟩) hS.2.2 dX1_free_54

set_option maxHeartbeats 4000000 in
set_option maxRecDepth 100000 in
theorem r_free1 (l : Launch) (dC : Nat → ClassId) (dI : Nat → Nat → Nat) (cA : ClassId) (g0 b0 b1 b2 : Nat) (w pr vt : Nat → Int32) (k th : Int32) (sz : Nat) (x0 : Int32) (hbad : bb_out x0 (nI 31) = true) : Met l yX1_free wsX1_free ({ frames := 4, cells := 0, slots := 0, locals := 93 }) (bb_Pm [.ref g0, .int x0] (dC, dI) vwCl [(g0, .inr (1, [.ref b0, .ref b1, .ref b2, .int k, .int th])), (b0, .inl (cA, 10, .inl w)), (b1, .inl (cA, 10, .inl pr)), (b2, .inl (cA, 310, .inl vt))] [(cA, .int)] sz) (bb_Qm (0) (dC, dI) vwCl [(g0, .inr (1, [.ref b0, .ref b1, .ref b2, .int k, .int 1])), (b0, .inl (cA, 10, .inl w)), (b1, .inl (cA, 10, .inl pr)), (b2, .inl (cA, 310, .inl vt))] (va_A [(g0, .inr (1, [.ref b0, .ref b1, .ref b2, .int k, .int th])), (b0, .inl (cA, 10, .inl w)), (b1, .inl (cA, 10, .inl pr)), (b2, .inl (cA, 310, .inl vt))] sz)) 0 0 (va_A [(g0, .inr (1, [.ref b0, .ref b1, .ref b2, .int k, .int th])), (b0, .inl (cA, 10, .inl w)), (b1, .inl (cA, 10, .inl pr)), (b2, .inl (cA, 310, .inl vt))] sz) := by
  refine Met.ofW (cc := cX1_free) (maxL := 4) (ret := some .int) (by decide) rfl ?_
  intro p e s m args below meth c s₁ B hml hv
  obtain ⟨rfl, hsz, hP, hK, hD0⟩ := hv
  have hx := B.exec
  have hb := B.bytes
  have hr := B.returns
  have hts := atoms_spec (ws := wsX1_free) B.pre
  have hown : s.vm.findClass RX1 = some m.cls := findClass_of_methodNamed B.named
  have hlocks := B.notSynchronized
  subst hsz
  have hD := hD0.self (sz := s.heap.size)
  generalize hAe : va_A [(g0, .inr (1, [.ref b0, .ref b1, .ref b2, .int k, .int th])), (b0, .inl (cA, 10, .inl w)), (b1, .inl (cA, 10, .inl pr)), (b2, .inl (cA, 310, .inl vt))] s.heap.size = A at hD ⊢
  have hA : ∀ q : Nat, s.heap.size ≤ q → A q := fun q h => by rw [← hAe]; exact Or.inr h
  have hin : ∀ w9 ∈ u_ws RX1 TX1 5, w9 ∈ wsX1_free := fun w9 h9 => List.mem_cons_of_mem _ (bb_inX1 w9 h9)
  have hf23 := hts _ (List.mem_cons_of_mem _ bb_fX1_23)
  have hl := lv_entry ([.ref g0, .int x0]) (n := 4) (Nat.le_of_ble_eq_true rfl)
  rw [lg_entry_eq]
  generalize (lg_sl ([.ref g0, .int x0]) ++ List.replicate (4 - (lg_sl ([.ref g0, .int x0])).length) Slot.unset).toArray = ls at hl ⊢
  have hl : lv_has ls 4 [(0, .ref g0), (1, .int x0)] := hl
  refine bb_gen hP hD (fun H locs hP hD hS => ?_)
  refine lv_aload_n hx hb dX1_free_0 rfl (lv_at hl 0 rfl) ?_
  refine lv_iload_n hx hb dX1_free_1 rfl (lv_at hl 1 rfl) ?_
  refine lv_bipush (v := nI 31) hx hb dX1_free_2 (by decide) ?_
  refine bb_cS (As := [.int x0, .int (nI 31)]) (rest := [.ref g0]) (r := bb_I (bb_out x0 (nI 31))) ⟨hx, hb, hml, hown, hts⟩ (m_out l x0 (nI 31)) (cwS 2 hts gX1_free_X1_out rfl rfl rfl (by decide +kernel) ⟨Nat.le_of_ble_eq_true rfl, Nat.le_of_ble_eq_true rfl⟩) rfl hl.1 rfl (Nat.le_of_ble_eq_true rfl) dX1_free_4 (Nat.zero_le _) (Nat.zero_le _) ?_
  refine bb_topi (y := 1) (by rw [hbad]; rfl) ?_
  refine lv_if_eq (tgt := 14) hx hb dX1_free_7 rfl (fun h7 => absurd h7 (by decide)) (fun h7 => ?_)
  refine lv_iconst (v := 1) hx hb dX1_free_10 (by decide) ?_
  refine lv_goto (tgt := 15) hx hb dX1_free_11 rfl ?_
  refine va_put (D := (dC, dI)) (ci := 1) (v := .int 1) (ty := .int) (C := RX1) (T := TX1) (N := 5) hx hb hts hin tyX1 tyX1_ok nX1 hown hK hP hD hS 0 rfl rfl 4 (by decide) hf23 (fun _ h9 => h9) rfl (by decide +kernel) rfl rfl (Nat.le_of_ble_eq_true rfl) dX1_free_15 (fun H locs hP hD hS => ?_)
  have hP : va_P (dC, dI) vwCl [(g0, .inr (1, [.ref b0, .ref b1, .ref b2, .int k, .int 1])), (b0, .inl (cA, 10, .inl w)), (b1, .inl (cA, 10, .inl pr)), (b2, .inl (cA, 310, .inl vt))] H := hP
  have hD : va_D A [(g0, .inr (1, [.ref b0, .ref b1, .ref b2, .int k, .int 1])), (b0, .inl (cA, 10, .inl w)), (b1, .inl (cA, 10, .inl pr)), (b2, .inl (cA, 310, .inl vt))] := hD
  refine lv_iconst (v := 0) hx hb dX1_free_18 (by decide) ?_
  refine lv_istore_n (lv' := [(2, .int 0), (0, .ref g0), (1, .int x0)]) hx hb dX1_free_19 rfl hl (by decide) rfl (fun ls hl => ?_)
  refine lv_iconst (v := 0) hx hb dX1_free_20 (by decide) ?_
  refine lv_istore_n (lv' := [(3, .int 0), (2, .int 0), (0, .ref g0), (1, .int x0)]) hx hb dX1_free_21 rfl hl (by decide) rfl (fun ls hl => ?_)
  refine lv_iload_n hx hb dX1_free_22 rfl (lv_at hl 0 rfl) ?_
  refine lv_bipush (v := nI 10) hx hb dX1_free_23 (by decide) ?_
  refine lv_icmp_ge (tgt := 53) hx hb dX1_free_25 rfl (fun h25 => absurd h25 (by decide)) (fun h25 => ?_)
  have q25 := bb_lt h25
  refine lv_aload_n hx hb dX1_free_28 rfl (lv_at hl 2 rfl) ?_
  refine va_get (D := (dC, dI)) (ci := 1) (v := .int 1) (C := RX1) (T := TX1) (N := 5) hx hb hts hin hown hK hP 0 rfl rfl 4 (by decide) hf23 (fun _ h9 => h9) rfl dX1_free_29 ?_
  refine lv_if_ne (tgt := 53) hx hb dX1_free_32 rfl (fun h32 => ?_) (fun h32 => absurd h32 (by decide))
  refine lv_iload_n hx hb dX1_free_53 rfl (lv_at hl 1 rfl) ?_
  exact W.iret (v := 0) hx hb hr (fun t ht _ => ⟨⟨0, (), rfl, rfl, by show va_P _ _ _ t.heap; rw [ht]; exact hP⟩, hS.F ht⟩) hS.2.2 dX1_free_54

set_option maxHeartbeats 4000000 in
set_option maxRecDepth 100000 in
theorem r_enough (l : Launch) (dC : Nat → ClassId) (dI : Nat → Nat → Nat) (cA : ClassId) (g0 b0 b1 b2 : Nat) (w pr vt : Nat → Int32) (k th : Int32) (sz : Nat) (a : Nat) (ha0 : a < 1024) : Met l yX1_enough wsX1_enough ({ frames := 1, cells := 0, slots := 0, locals := 23 }) (bb_Pm [.ref g0, .int (nI a)] (dC, dI) vwCl [(g0, .inr (1, [.ref b0, .ref b1, .ref b2, .int k, .int th])), (b0, .inl (cA, 10, .inl w)), (b1, .inl (cA, 10, .inl pr)), (b2, .inl (cA, 310, .inl vt))] [(cA, .int)] sz) (bb_Qm (bb_I (bb_en w k (nI a))) (dC, dI) vwCl [(g0, .inr (1, [.ref b0, .ref b1, .ref b2, .int k, .int 0])), (b0, .inl (cA, 10, .inl w)), (b1, .inl (cA, 10, .inl pr)), (b2, .inl (cA, 310, .inl vt))] (va_A [(g0, .inr (1, [.ref b0, .ref b1, .ref b2, .int k, .int th])), (b0, .inl (cA, 10, .inl w)), (b1, .inl (cA, 10, .inl pr)), (b2, .inl (cA, 310, .inl vt))] sz)) 0 0 (va_A [(g0, .inr (1, [.ref b0, .ref b1, .ref b2, .int k, .int th])), (b0, .inl (cA, 10, .inl w)), (b1, .inl (cA, 10, .inl pr)), (b2, .inl (cA, 310, .inl vt))] sz) := by
  refine Met.ofW (cc := cX1_enough) (maxL := 2) (ret := some .boolean) (by decide) rfl ?_
  intro p e s m args below meth c s₁ B hml hv
  obtain ⟨rfl, hsz, hP, hK, hD0⟩ := hv
  have hx := B.exec
  have hb := B.bytes
  have hr := B.returns
  have hts := atoms_spec (ws := wsX1_enough) B.pre
  have hown : s.vm.findClass RX1 = some m.cls := findClass_of_methodNamed B.named
  have hlocks := B.notSynchronized
  subst hsz
  have hD := hD0.self (sz := s.heap.size)
  generalize hAe : va_A [(g0, .inr (1, [.ref b0, .ref b1, .ref b2, .int k, .int th])), (b0, .inl (cA, 10, .inl w)), (b1, .inl (cA, 10, .inl pr)), (b2, .inl (cA, 310, .inl vt))] s.heap.size = A at hD ⊢
  have hA : ∀ q : Nat, s.heap.size ≤ q → A q := fun q h => by rw [← hAe]; exact Or.inr h
  have hin : ∀ w9 ∈ u_ws RX1 TX1 5, w9 ∈ wsX1_enough := fun w9 h9 => List.mem_cons_of_mem _ (bb_inX1 w9 h9)
  have hf23 := hts _ (List.mem_cons_of_mem _ bb_fX1_23)
  have hl := lv_entry ([.ref g0, .int (nI a)]) (n := 2) (Nat.le_of_ble_eq_true rfl)
  rw [lg_entry_eq]
  generalize (lg_sl ([.ref g0, .int (nI a)]) ++ List.replicate (2 - (lg_sl ([.ref g0, .int (nI a)])).length) Slot.unset).toArray = ls at hl ⊢
  have hl : lv_has ls 2 [(0, .ref g0), (1, .int (nI a))] := hl
  refine bb_gen hP hD (fun H locs hP hD hS => ?_)
  refine lv_aload_n hx hb dX1_enough_0 rfl (lv_at hl 0 rfl) ?_
  refine lv_iload_n hx hb dX1_enough_1 rfl (lv_at hl 1 rfl) ?_
  refine lv_sipush (v := nI 1024) hx hb dX1_enough_2 (by decide) ?_
  refine bb_cS (As := [.int (nI a), .int (nI 1024)]) (rest := [.ref g0]) (r := bb_I (bb_out (nI a) (nI 1024))) ⟨hx, hb, hml, hown, hts⟩ (m_out l (nI a) (nI 1024)) (cwS 2 hts gX1_enough_X1_out rfl rfl rfl (by decide +kernel) ⟨Nat.le_of_ble_eq_true rfl, Nat.le_of_ble_eq_true rfl⟩) rfl hl.1 rfl (Nat.le_of_ble_eq_true rfl) dX1_enough_5 (Nat.zero_le _) (Nat.zero_le _) ?_
  refine bb_topi (y := 0) (by rw [bb_out_no ha0 (by decide)]; rfl) ?_
  refine lv_if_eq (tgt := 15) hx hb dX1_enough_8 rfl (fun h8 => ?_) (fun h8 => absurd rfl h8)
  refine lv_iconst (v := 0) hx hb dX1_enough_15 (by decide) ?_
  refine va_put (D := (dC, dI)) (ci := 1) (v := .int 0) (ty := .int) (C := RX1) (T := TX1) (N := 5) hx hb hts hin tyX1 tyX1_ok nX1 hown hK hP hD hS 0 rfl rfl 4 (by decide) hf23 (fun _ h9 => h9) rfl (by decide +kernel) rfl rfl (Nat.le_of_ble_eq_true rfl) dX1_enough_16 (fun H locs hP hD hS => ?_)
  have hP : va_P (dC, dI) vwCl [(g0, .inr (1, [.ref b0, .ref b1, .ref b2, .int k, .int 0])), (b0, .inl (cA, 10, .inl w)), (b1, .inl (cA, 10, .inl pr)), (b2, .inl (cA, 310, .inl vt))] H := hP
  have hD : va_D A [(g0, .inr (1, [.ref b0, .ref b1, .ref b2, .int k, .int 0])), (b0, .inl (cA, 10, .inl w)), (b1, .inl (cA, 10, .inl pr)), (b2, .inl (cA, 310, .inl vt))] := hD
  refine lv_aload_n hx hb dX1_enough_19 rfl (lv_at hl 0 rfl) ?_
  refine va_get (D := (dC, dI)) (ci := 1) (v := .int 0) (C := RX1) (T := TX1) (N := 5) hx hb hts hin hown hK hP 0 rfl rfl 4 (by decide) hf23 (fun _ h9 => h9) rfl dX1_enough_20 ?_
  refine lv_if_ne (tgt := 38) hx hb dX1_enough_23 rfl (fun h23 => absurd rfl h23) (fun h23 => ?_)
  refine lv_aload_n hx hb dX1_enough_26 rfl (lv_at hl 0 rfl) ?_
  refine lv_iload_n hx hb dX1_enough_27 rfl (lv_at hl 1 rfl) ?_
  refine bb_cV (As := [.int (nI a)]) (rest := []) (r := bb_I (bb_en w k (nI a))) 0 ⟨hx, hb, hml, hown, hts⟩ (m_isEnough l dC dI cA g0 b0 b1 b2 w pr vt k 0 (nI a)) (cwV 1 hts gX1_enough_X1_isEnough rfl rfl rfl (by decide +kernel) ⟨Nat.le_of_ble_eq_true rfl, Nat.le_of_ble_eq_true rfl⟩) hP hK rfl rfl rfl hl.1 rfl (Nat.le_of_ble_eq_true rfl) dX1_enough_28 (Nat.zero_le _) (Nat.zero_le _) ?_
  refine lv_if_eq (tgt := 38) hx hb dX1_enough_31 rfl (fun h31 => ?_) (fun h31 => ?_)
  · skip
    have q31 := bb_I_0.mp h31
    refine lv_iconst (v := 0) hx hb dX1_enough_38 (by decide) ?_
    have er : 0 = bb_I (bb_en w k (nI a)) := by simp [bb_I, h8, h23, h31, q31]
    exact W.zret (v := 0) hx hb hr bb_z0 (fun t ht _ => ⟨⟨0, (), rfl, er, by show va_P _ _ _ t.heap; rw [ht]; exact hP⟩, hS.F ht⟩) hS.2.2 dX1_enough_39
  · skip
    have q31 := bb_nz h31
    refine lv_iconst (v := 1) hx hb dX1_enough_34 (by decide) ?_
    refine lv_goto (tgt := 39) hx hb dX1_enough_35 rfl ?_
    have er : 1 = bb_I (bb_en w k (nI a)) := by simp [bb_I, h8, h23, h31, q31]
    exact W.zret (v := 1) hx hb hr bb_z1 (fun t ht _ => ⟨⟨1, (), rfl, er, by show va_P _ _ _ t.heap; rw [ht]; exact hP⟩, hS.F ht⟩) hS.2.2 dX1_enough_39

set_option maxHeartbeats 4000000 in
set_option maxRecDepth 100000 in
theorem r_enough1 (l : Launch) (dC : Nat → ClassId) (dI : Nat → Nat → Nat) (cA : ClassId) (g0 b0 b1 b2 : Nat) (w pr vt : Nat → Int32) (k th : Int32) (sz : Nat) (x0 : Int32) (hbad : bb_out x0 (nI 1024) = true) : Met l yX1_enough wsX1_enough ({ frames := 1, cells := 0, slots := 0, locals := 23 }) (bb_Pm [.ref g0, .int x0] (dC, dI) vwCl [(g0, .inr (1, [.ref b0, .ref b1, .ref b2, .int k, .int th])), (b0, .inl (cA, 10, .inl w)), (b1, .inl (cA, 10, .inl pr)), (b2, .inl (cA, 310, .inl vt))] [(cA, .int)] sz) (bb_Qm (0) (dC, dI) vwCl [(g0, .inr (1, [.ref b0, .ref b1, .ref b2, .int k, .int 1])), (b0, .inl (cA, 10, .inl w)), (b1, .inl (cA, 10, .inl pr)), (b2, .inl (cA, 310, .inl vt))] (va_A [(g0, .inr (1, [.ref b0, .ref b1, .ref b2, .int k, .int th])), (b0, .inl (cA, 10, .inl w)), (b1, .inl (cA, 10, .inl pr)), (b2, .inl (cA, 310, .inl vt))] sz)) 0 0 (va_A [(g0, .inr (1, [.ref b0, .ref b1, .ref b2, .int k, .int th])), (b0, .inl (cA, 10, .inl w)), (b1, .inl (cA, 10, .inl pr)), (b2, .inl (cA, 310, .inl vt))] sz) := by
  refine Met.ofW (cc := cX1_enough) (maxL := 2) (ret := some .boolean) (by decide) rfl ?_
  intro p e s m args below meth c s₁ B hml hv
  obtain ⟨rfl, hsz, hP, hK, hD0⟩ := hv
  have hx := B.exec
  have hb := B.bytes
  have hr := B.returns
  have hts := atoms_spec (ws := wsX1_enough) B.pre
  have hown : s.vm.findClass RX1 = some m.cls := findClass_of_methodNamed B.named
  have hlocks := B.notSynchronized
  subst hsz
  have hD := hD0.self (sz := s.heap.size)
  generalize hAe : va_A [(g0, .inr (1, [.ref b0, .ref b1, .ref b2, .int k, .int th])), (b0, .inl (cA, 10, .inl w)), (b1, .inl (cA, 10, .inl pr)), (b2, .inl (cA, 310, .inl vt))] s.heap.size = A at hD ⊢
  have hA : ∀ q : Nat, s.heap.size ≤ q → A q := fun q h => by rw [← hAe]; exact Or.inr h
  have hin : ∀ w9 ∈ u_ws RX1 TX1 5, w9 ∈ wsX1_enough := fun w9 h9 => List.mem_cons_of_mem _ (bb_inX1 w9 h9)
  have hf23 := hts _ (List.mem_cons_of_mem _ bb_fX1_23)
  have hl := lv_entry ([.ref g0, .int x0]) (n := 2) (Nat.le_of_ble_eq_true rfl)
  rw [lg_entry_eq]
  generalize (lg_sl ([.ref g0, .int x0]) ++ List.replicate (2 - (lg_sl ([.ref g0, .int x0])).length) Slot.unset).toArray = ls at hl ⊢
  have hl : lv_has ls 2 [(0, .ref g0), (1, .int x0)] := hl
  refine bb_gen hP hD (fun H locs hP hD hS => ?_)
  refine lv_aload_n hx hb dX1_enough_0 rfl (lv_at hl 0 rfl) ?_
  refine lv_iload_n hx hb dX1_enough_1 rfl (lv_at hl 1 rfl) ?_
  refine lv_sipush (v := nI 1024) hx hb dX1_enough_2 (by decide) ?_
  refine bb_cS (As := [.int x0, .int (nI 1024)]) (rest := [.ref g0]) (r := bb_I (bb_out x0 (nI 1024))) ⟨hx, hb, hml, hown, hts⟩ (m_out l x0 (nI 1024)) (cwS 2 hts gX1_enough_X1_out rfl rfl rfl (by decide +kernel) ⟨Nat.le_of_ble_eq_true rfl, Nat.le_of_ble_eq_true rfl⟩) rfl hl.1 rfl (Nat.le_of_ble_eq_true rfl) dX1_enough_5 (Nat.zero_le _) (Nat.zero_le _) ?_
  refine bb_topi (y := 1) (by rw [hbad]; rfl) ?_
  refine lv_if_eq (tgt := 15) hx hb dX1_enough_8 rfl (fun h8 => absurd h8 (by decide)) (fun h8 => ?_)
  refine lv_iconst (v := 1) hx hb dX1_enough_11 (by decide) ?_
  refine lv_goto (tgt := 16) hx hb dX1_enough_12 rfl ?_
  refine va_put (D := (dC, dI)) (ci := 1) (v := .int 1) (ty := .int) (C := RX1) (T := TX1) (N := 5) hx hb hts hin tyX1 tyX1_ok nX1 hown hK hP hD hS 0 rfl rfl 4 (by decide) hf23 (fun _ h9 => h9) rfl (by decide +kernel) rfl rfl (Nat.le_of_ble_eq_true rfl) dX1_enough_16 (fun H locs hP hD hS => ?_)
  have hP : va_P (dC, dI) vwCl [(g0, .inr (1, [.ref b0, .ref b1, .ref b2, .int k, .int 1])), (b0, .inl (cA, 10, .inl w)), (b1, .inl (cA, 10, .inl pr)), (b2, .inl (cA, 310, .inl vt))] H := hP
  have hD : va_D A [(g0, .inr (1, [.ref b0, .ref b1, .ref b2, .int k, .int 1])), (b0, .inl (cA, 10, .inl w)), (b1, .inl (cA, 10, .inl pr)), (b2, .inl (cA, 310, .inl vt))] := hD
  refine lv_aload_n hx hb dX1_enough_19 rfl (lv_at hl 0 rfl) ?_
  refine va_get (D := (dC, dI)) (ci := 1) (v := .int 1) (C := RX1) (T := TX1) (N := 5) hx hb hts hin hown hK hP 0 rfl rfl 4 (by decide) hf23 (fun _ h9 => h9) rfl dX1_enough_20 ?_
  refine lv_if_ne (tgt := 38) hx hb dX1_enough_23 rfl (fun h23 => ?_) (fun h23 => absurd h23 (by decide))
  refine lv_iconst (v := 0) hx hb dX1_enough_38 (by decide) ?_
  exact W.zret (v := 0) hx hb hr bb_z0 (fun t ht _ => ⟨⟨0, (), rfl, rfl, by show va_P _ _ _ t.heap; rw [ht]; exact hP⟩, hS.F ht⟩) hS.2.2 dX1_enough_39

set_option maxHeartbeats 4000000 in
set_option maxRecDepth 100000 in
theorem r_blocks (l : Launch) (dC : Nat → ClassId) (dI : Nat → Nat → Nat) (cA : ClassId) (g0 b0 b1 b2 : Nat) (w pr vt : Nat → Int32) (k th : Int32) (sz : Nat) (a : Nat) (ha0 : a < 1024) : Met l yX1_blocks wsX1_blocks ({ frames := 1, cells := 0, slots := 0, locals := 23 }) (bb_Pm [.ref g0, .int (nI a)] (dC, dI) vwCl [(g0, .inr (1, [.ref b0, .ref b1, .ref b2, .int k, .int th])), (b0, .inl (cA, 10, .inl w)), (b1, .inl (cA, 10, .inl pr)), (b2, .inl (cA, 310, .inl vt))] [(cA, .int)] sz) (bb_Qm (bb_I (bb_al (fun x9 => !(bb_en w k (nI x9) && decide (nI x9 &&& nI a = 0))) 1024)) (dC, dI) vwCl [(g0, .inr (1, [.ref b0, .ref b1, .ref b2, .int k, .int 0])), (b0, .inl (cA, 10, .inl w)), (b1, .inl (cA, 10, .inl pr)), (b2, .inl (cA, 310, .inl vt))] (va_A [(g0, .inr (1, [.ref b0, .ref b1, .ref b2, .int k, .int th])), (b0, .inl (cA, 10, .inl w)), (b1, .inl (cA, 10, .inl pr)), (b2, .inl (cA, 310, .inl vt))] sz)) 0 0 (va_A [(g0, .inr (1, [.ref b0, .ref b1, .ref b2, .int k, .int th])), (b0, .inl (cA, 10, .inl w)), (b1, .inl (cA, 10, .inl pr)), (b2, .inl (cA, 310, .inl vt))] sz) := by
  refine Met.ofW (cc := cX1_blocks) (maxL := 3) (ret := some .boolean) (by decide) rfl ?_
  intro p e s m args below meth c s₁ B hml hv
  obtain ⟨rfl, hsz, hP, hK, hD0⟩ := hv
  have hx := B.exec
  have hb := B.bytes
  have hr := B.returns
  have hts := atoms_spec (ws := wsX1_blocks) B.pre
  have hown : s.vm.findClass RX1 = some m.cls := findClass_of_methodNamed B.named
  have hlocks := B.notSynchronized
  subst hsz
  have hD := hD0.self (sz := s.heap.size)
  generalize hAe : va_A [(g0, .inr (1, [.ref b0, .ref b1, .ref b2, .int k, .int th])), (b0, .inl (cA, 10, .inl w)), (b1, .inl (cA, 10, .inl pr)), (b2, .inl (cA, 310, .inl vt))] s.heap.size = A at hD ⊢
  have hA : ∀ q : Nat, s.heap.size ≤ q → A q := fun q h => by rw [← hAe]; exact Or.inr h
  have hin : ∀ w9 ∈ u_ws RX1 TX1 5, w9 ∈ wsX1_blocks := fun w9 h9 => List.mem_cons_of_mem _ (bb_inX1 w9 h9)
  have hf23 := hts _ (List.mem_cons_of_mem _ bb_fX1_23)
  have hl := lv_entry ([.ref g0, .int (nI a)]) (n := 3) (Nat.le_of_ble_eq_true rfl)
  rw [lg_entry_eq]
  generalize (lg_sl ([.ref g0, .int (nI a)]) ++ List.replicate (3 - (lg_sl ([.ref g0, .int (nI a)])).length) Slot.unset).toArray = ls at hl ⊢
  have hl : lv_has ls 3 [(0, .ref g0), (1, .int (nI a))] := hl
  refine bb_gen hP hD (fun H locs hP hD hS => ?_)
  refine lv_aload_n hx hb dX1_blocks_0 rfl (lv_at hl 0 rfl) ?_
  refine lv_iload_n hx hb dX1_blocks_1 rfl (lv_at hl 1 rfl) ?_
  refine lv_sipush (v := nI 1024) hx hb dX1_blocks_2 (by decide) ?_
  refine bb_cS (As := [.int (nI a), .int (nI 1024)]) (rest := [.ref g0]) (r := bb_I (bb_out (nI a) (nI 1024))) ⟨hx, hb, hml, hown, hts⟩ (m_out l (nI a) (nI 1024)) (cwS 2 hts gX1_blocks_X1_out rfl rfl rfl (by decide +kernel) ⟨Nat.le_of_ble_eq_true rfl, Nat.le_of_ble_eq_true rfl⟩) rfl hl.1 rfl (Nat.le_of_ble_eq_true rfl) dX1_blocks_5 (Nat.zero_le _) (Nat.zero_le _) ?_
  refine bb_topi (y := 0) (by rw [bb_out_no ha0 (by decide)]; rfl) ?_
  refine lv_if_eq (tgt := 15) hx hb dX1_blocks_8 rfl (fun h8 => ?_) (fun h8 => absurd rfl h8)
  refine lv_iconst (v := 0) hx hb dX1_blocks_15 (by decide) ?_
  refine va_put (D := (dC, dI)) (ci := 1) (v := .int 0) (ty := .int) (C := RX1) (T := TX1) (N := 5) hx hb hts hin tyX1 tyX1_ok nX1 hown hK hP hD hS 0 rfl rfl 4 (by decide) hf23 (fun _ h9 => h9) rfl (by decide +kernel) rfl rfl (Nat.le_of_ble_eq_true rfl) dX1_blocks_16 (fun H locs hP hD hS => ?_)
  have hP : va_P (dC, dI) vwCl [(g0, .inr (1, [.ref b0, .ref b1, .ref b2, .int k, .int 0])), (b0, .inl (cA, 10, .inl w)), (b1, .inl (cA, 10, .inl pr)), (b2, .inl (cA, 310, .inl vt))] H := hP
  have hD : va_D A [(g0, .inr (1, [.ref b0, .ref b1, .ref b2, .int k, .int 0])), (b0, .inl (cA, 10, .inl w)), (b1, .inl (cA, 10, .inl pr)), (b2, .inl (cA, 310, .inl vt))] := hD
  refine lv_aload_n hx hb dX1_blocks_19 rfl (lv_at hl 0 rfl) ?_
  refine va_get (D := (dC, dI)) (ci := 1) (v := .int 0) (C := RX1) (T := TX1) (N := 5) hx hb hts hin hown hK hP 0 rfl rfl 4 (by decide) hf23 (fun _ h9 => h9) rfl dX1_blocks_20 ?_
  refine lv_if_le (tgt := 28) hx hb dX1_blocks_23 rfl (fun h23 => ?_) (fun h23 => absurd (by decide) h23)
  refine lv_iconst (v := 0) hx hb dX1_blocks_28 (by decide) ?_
  refine lv_istore_n (lv' := [(2, .int 0), (0, .ref g0), (1, .int (nI a))]) hx hb dX1_blocks_29 rfl hl (by decide) rfl (fun ls hl => ?_)
  have hl : lv_has ls 3 [(0, .ref g0), (1, .int (nI a)), (2, .int 0)] := lv_sub hl [1, 2, 0] rfl
  refine bb_forW (pc := 30) (I := fun j9 ls => lv_has ls 3 [(0, .ref g0), (1, .int (nI a)), (2, .int (nI j9))] ∧ bb_al (fun x9 => !(bb_en w k (nI x9) && decide (nI x9 &&& nI a = 0))) j9 = true) 1024 ?_ ?_ 0 ls (Nat.zero_le _) ⟨hl, rfl⟩
  · skip
    intro j ls hj hI ihj
    obtain ⟨hl, hno⟩ := hI
    refine lv_iload_n hx hb dX1_blocks_30 rfl (lv_at hl 2 rfl) ?_
    refine lv_sipush (v := nI 1024) hx hb dX1_blocks_31 (by decide) ?_
    refine lv_icmp_ge (tgt := 59) hx hb dX1_blocks_34 rfl (fun h34 => absurd h34 (nI_ge hj (by decide))) (fun h34 => ?_)
    have q34 := bb_lt h34
    refine lv_aload_n hx hb dX1_blocks_37 rfl (lv_at hl 0 rfl) ?_
    refine lv_iload_n hx hb dX1_blocks_38 rfl (lv_at hl 2 rfl) ?_
    refine bb_cV (As := [.int (nI j)]) (rest := []) (r := bb_I (bb_en w k (nI j))) 0 ⟨hx, hb, hml, hown, hts⟩ (m_isEnough l dC dI cA g0 b0 b1 b2 w pr vt k 0 (nI j)) (cwV 1 hts gX1_blocks_X1_isEnough rfl rfl rfl (by decide +kernel) ⟨Nat.le_of_ble_eq_true rfl, Nat.le_of_ble_eq_true rfl⟩) hP hK rfl rfl rfl hl.1 rfl (Nat.le_of_ble_eq_true rfl) dX1_blocks_39 (Nat.zero_le _) (Nat.zero_le _) ?_
    refine lv_if_eq (tgt := 53) hx hb dX1_blocks_42 rfl (fun h42 => ?_) (fun h42 => ?_)
    · skip
      have q42 := bb_I_0.mp h42
      refine lv_iinc (v := nI (j + 1)) (lv' := [(2, .int (nI (j + 1))), (0, .ref g0), (1, .int (nI a))]) hx hb dX1_blocks_53 hl (k := 2) rfl (bb_inc _) (by decide) rfl (fun ls hl => ?_)
      refine lv_goto (tgt := 30) hx hb dX1_blocks_56 rfl ?_
      have hl : lv_has ls 3 [(0, .ref g0), (1, .int (nI a)), (2, .int (nI (j + 1)))] := lv_sub hl [1, 2, 0] rfl
      exact ihj ls ⟨hl, by exact bb_al_step hno (by simp [h8, h23, h34, q34, h42, q42])⟩
    · skip
      have q42 := bb_nz h42
      refine lv_iload_n hx hb dX1_blocks_45 rfl (lv_at hl 2 rfl) ?_
      refine lv_iload_n hx hb dX1_blocks_46 rfl (lv_at hl 1 rfl) ?_
      refine lv_iand hx hb dX1_blocks_47 ?_
      refine lv_if_ne (tgt := 53) hx hb dX1_blocks_48 rfl (fun h48 => ?_) (fun h48 => ?_)
      · skip
        refine lv_iinc (v := nI (j + 1)) (lv' := [(2, .int (nI (j + 1))), (0, .ref g0), (1, .int (nI a))]) hx hb dX1_blocks_53 hl (k := 2) rfl (bb_inc _) (by decide) rfl (fun ls hl => ?_)
        refine lv_goto (tgt := 30) hx hb dX1_blocks_56 rfl ?_
        have hl : lv_has ls 3 [(0, .ref g0), (1, .int (nI a)), (2, .int (nI (j + 1)))] := lv_sub hl [1, 2, 0] rfl
        exact ihj ls ⟨hl, by exact bb_al_step hno (by simp [h8, h23, h34, q34, h42, q42, h48])⟩
      · skip
        refine lv_iconst (v := 0) hx hb dX1_blocks_51 (by decide) ?_
        have er : 0 = bb_I (bb_al (fun x9 => !(bb_en w k (nI x9) && decide (nI x9 &&& nI a = 0))) 1024) := by rw [bb_al_no (j := j) (by simp [h8, h23, h34, q34, h42, q42, h48]) hj]; rfl
        exact W.zret (v := 0) hx hb hr bb_z0 (fun t ht _ => ⟨⟨0, (), rfl, er, by show va_P _ _ _ t.heap; rw [ht]; exact hP⟩, hS.F ht⟩) hS.2.2 dX1_blocks_52
  · skip
    intro ls hI
    obtain ⟨hl, hno⟩ := hI
    refine lv_iload_n hx hb dX1_blocks_30 rfl (lv_at hl 2 rfl) ?_
    refine lv_sipush (v := nI 1024) hx hb dX1_blocks_31 (by decide) ?_
    refine lv_icmp_ge (tgt := 59) hx hb dX1_blocks_34 rfl (fun h34 => ?_) (fun h34 => absurd (nI_le (Nat.le_refl _) (by decide)) h34)
    have q34 := bb_nlt h34
    refine lv_iconst (v := 1) hx hb dX1_blocks_59 (by decide) ?_
    have er : 1 = bb_I (bb_al (fun x9 => !(bb_en w k (nI x9) && decide (nI x9 &&& nI a = 0))) 1024) := by rw [hno]; rfl
    exact W.zret (v := 1) hx hb hr bb_z1 (fun t ht _ => ⟨⟨1, (), rfl, er, by show va_P _ _ _ t.heap; rw [ht]; exact hP⟩, hS.F ht⟩) hS.2.2 dX1_blocks_60

set_option maxHeartbeats 4000000 in
set_option maxRecDepth 100000 in
theorem r_blocks1 (l : Launch) (dC : Nat → ClassId) (dI : Nat → Nat → Nat) (cA : ClassId) (g0 b0 b1 b2 : Nat) (w pr vt : Nat → Int32) (k th : Int32) (sz : Nat) (x0 : Int32) (hbad : bb_out x0 (nI 1024) = true) : Met l yX1_blocks wsX1_blocks ({ frames := 1, cells := 0, slots := 0, locals := 23 }) (bb_Pm [.ref g0, .int x0] (dC, dI) vwCl [(g0, .inr (1, [.ref b0, .ref b1, .ref b2, .int k, .int th])), (b0, .inl (cA, 10, .inl w)), (b1, .inl (cA, 10, .inl pr)), (b2, .inl (cA, 310, .inl vt))] [(cA, .int)] sz) (bb_Qm (0) (dC, dI) vwCl [(g0, .inr (1, [.ref b0, .ref b1, .ref b2, .int k, .int 1])), (b0, .inl (cA, 10, .inl w)), (b1, .inl (cA, 10, .inl pr)), (b2, .inl (cA, 310, .inl vt))] (va_A [(g0, .inr (1, [.ref b0, .ref b1, .ref b2, .int k, .int th])), (b0, .inl (cA, 10, .inl w)), (b1, .inl (cA, 10, .inl pr)), (b2, .inl (cA, 310, .inl vt))] sz)) 0 0 (va_A [(g0, .inr (1, [.ref b0, .ref b1, .ref b2, .int k, .int th])), (b0, .inl (cA, 10, .inl w)), (b1, .inl (cA, 10, .inl pr)), (b2, .inl (cA, 310, .inl vt))] sz) := by
  refine Met.ofW (cc := cX1_blocks) (maxL := 3) (ret := some .boolean) (by decide) rfl ?_
  intro p e s m args below meth c s₁ B hml hv
  obtain ⟨rfl, hsz, hP, hK, hD0⟩ := hv
  have hx := B.exec
  have hb := B.bytes
  have hr := B.returns
  have hts := atoms_spec (ws := wsX1_blocks) B.pre
  have hown : s.vm.findClass RX1 = some m.cls := findClass_of_methodNamed B.named
  have hlocks := B.notSynchronized
  subst hsz
  have hD := hD0.self (sz := s.heap.size)
  generalize hAe : va_A [(g0, .inr (1, [.ref b0, .ref b1, .ref b2, .int k, .int th])), (b0, .inl (cA, 10, .inl w)), (b1, .inl (cA, 10, .inl pr)), (b2, .inl (cA, 310, .inl vt))] s.heap.size = A at hD ⊢
  have hA : ∀ q : Nat, s.heap.size ≤ q → A q := fun q h => by rw [← hAe]; exact Or.inr h
  have hin : ∀ w9 ∈ u_ws RX1 TX1 5, w9 ∈ wsX1_blocks := fun w9 h9 => List.mem_cons_of_mem _ (bb_inX1 w9 h9)
  have hf23 := hts _ (List.mem_cons_of_mem _ bb_fX1_23)
  have hl := lv_entry ([.ref g0, .int x0]) (n := 3) (Nat.le_of_ble_eq_true rfl)
  rw [lg_entry_eq]
  generalize (lg_sl ([.ref g0, .int x0]) ++ List.replicate (3 - (lg_sl ([.ref g0, .int x0])).length) Slot.unset).toArray = ls at hl ⊢
  have hl : lv_has ls 3 [(0, .ref g0), (1, .int x0)] := hl
  refine bb_gen hP hD (fun H locs hP hD hS => ?_)
  refine lv_aload_n hx hb dX1_blocks_0 rfl (lv_at hl 0 rfl) ?_
  refine lv_iload_n hx hb dX1_blocks_1 rfl (lv_at hl 1 rfl) ?_
  refine lv_sipush (v := nI 1024) hx hb dX1_blocks_2 (by decide) ?_
  refine bb_cS (As := [.int x0, .int (nI 1024)]) (rest := [.ref g0]) (r := bb_I (bb_out x0 (nI 1024))) ⟨hx, hb, hml, hown, hts⟩ (m_out l x0 (nI 1024)) (cwS 2 hts gX1_blocks_X1_out rfl rfl rfl (by decide +kernel) ⟨Nat.le_of_ble_eq_true rfl, Nat.le_of_ble_eq_true rfl⟩) rfl hl.1 rfl (Nat.le_of_ble_eq_true rfl) dX1_blocks_5 (Nat.zero_le _) (Nat.zero_le _) ?_
  refine bb_topi (y := 1) (by rw [hbad]; rfl) ?_
  refine lv_if_eq (tgt := 15) hx hb dX1_blocks_8 rfl (fun h8 => absurd h8 (by decide)) (fun h8 => ?_)
  refine lv_iconst (v := 1) hx hb dX1_blocks_11 (by decide) ?_
  refine lv_goto (tgt := 16) hx hb dX1_blocks_12 rfl ?_
  refine va_put (D := (dC, dI)) (ci := 1) (v := .int 1) (ty := .int) (C := RX1) (T := TX1) (N := 5) hx hb hts hin tyX1 tyX1_ok nX1 hown hK hP hD hS 0 rfl rfl 4 (by decide) hf23 (fun _ h9 => h9) rfl (by decide +kernel) rfl rfl (Nat.le_of_ble_eq_true rfl) dX1_blocks_16 (fun H locs hP hD hS => ?_)
  have hP : va_P (dC, dI) vwCl [(g0, .inr (1, [.ref b0, .ref b1, .ref b2, .int k, .int 1])), (b0, .inl (cA, 10, .inl w)), (b1, .inl (cA, 10, .inl pr)), (b2, .inl (cA, 310, .inl vt))] H := hP
  have hD : va_D A [(g0, .inr (1, [.ref b0, .ref b1, .ref b2, .int k, .int 1])), (b0, .inl (cA, 10, .inl w)), (b1, .inl (cA, 10, .inl pr)), (b2, .inl (cA, 310, .inl vt))] := hD
  refine lv_aload_n hx hb dX1_blocks_19 rfl (lv_at hl 0 rfl) ?_
  refine va_get (D := (dC, dI)) (ci := 1) (v := .int 1) (C := RX1) (T := TX1) (N := 5) hx hb hts hin hown hK hP 0 rfl rfl 4 (by decide) hf23 (fun _ h9 => h9) rfl dX1_blocks_20 ?_
  refine lv_if_le (tgt := 28) hx hb dX1_blocks_23 rfl (fun h23 => absurd h23 (by decide)) (fun h23 => ?_)
  refine lv_iconst (v := 0) hx hb dX1_blocks_26 (by decide) ?_
  exact W.zret (v := 0) hx hb hr bb_z0 (fun t ht _ => ⟨⟨0, (), rfl, rfl, by show va_P _ _ _ t.heap; rw [ht]; exact hP⟩, hS.F ht⟩) hS.2.2 dX1_blocks_27

set_option maxHeartbeats 4000000 in
set_option maxRecDepth 100000 in
theorem r_sets (l : Launch) (dC : Nat → ClassId) (dI : Nat → Nat → Nat) (cA : ClassId) (g0 b0 b1 b2 : Nat) (w pr vt : Nat → Int32) (k th : Int32) (sz : Nat)  : Met l yX1_sets wsX1_sets ({ frames := 1, cells := 0, slots := 0, locals := 23 }) (bb_Pm [.ref g0] (dC, dI) vwCl [(g0, .inr (1, [.ref b0, .ref b1, .ref b2, .int k, .int th])), (b0, .inl (cA, 10, .inl w)), (b1, .inl (cA, 10, .inl pr)), (b2, .inl (cA, 310, .inl vt))] [(cA, .int)] sz) (bb_Qm (nI (bb_cn (fun x9 => bb_en w k (nI x9)) 1024)) (dC, dI) vwCl [(g0, .inr (1, [.ref b0, .ref b1, .ref b2, .int k, .int 0])), (b0, .inl (cA, 10, .inl w)), (b1, .inl (cA, 10, .inl pr)), (b2, .inl (cA, 310, .inl vt))] (va_A [(g0, .inr (1, [.ref b0, .ref b1, .ref b2, .int k, .int th])), (b0, .inl (cA, 10, .inl w)), (b1, .inl (cA, 10, .inl pr)), (b2, .inl (cA, 310, .inl vt))] sz)) 0 0 (va_A [(g0, .inr (1, [.ref b0, .ref b1, .ref b2, .int k, .int th])), (b0, .inl (cA, 10, .inl w)), (b1, .inl (cA, 10, .inl pr)), (b2, .inl (cA, 310, .inl vt))] sz) := by
  refine Met.ofW (cc := cX1_sets) (maxL := 3) (ret := some .int) (by decide) rfl ?_
  intro p e s m args below meth c s₁ B hml hv
  obtain ⟨rfl, hsz, hP, hK, hD0⟩ := hv
  have hx := B.exec
  have hb := B.bytes
  have hr := B.returns
  have hts := atoms_spec (ws := wsX1_sets) B.pre
  have hown : s.vm.findClass RX1 = some m.cls := findClass_of_methodNamed B.named
  have hlocks := B.notSynchronized
  subst hsz
  have hD := hD0.self (sz := s.heap.size)
  generalize hAe : va_A [(g0, .inr (1, [.ref b0, .ref b1, .ref b2, .int k, .int th])), (b0, .inl (cA, 10, .inl w)), (b1, .inl (cA, 10, .inl pr)), (b2, .inl (cA, 310, .inl vt))] s.heap.size = A at hD ⊢
  have hA : ∀ q : Nat, s.heap.size ≤ q → A q := fun q h => by rw [← hAe]; exact Or.inr h
  have hin : ∀ w9 ∈ u_ws RX1 TX1 5, w9 ∈ wsX1_sets := fun w9 h9 => List.mem_cons_of_mem _ (bb_inX1 w9 h9)
  have hf23 := hts _ (List.mem_cons_of_mem _ bb_fX1_23)
  have hl := lv_entry ([.ref g0]) (n := 3) (Nat.le_of_ble_eq_true rfl)
  rw [lg_entry_eq]
  generalize (lg_sl ([.ref g0]) ++ List.replicate (3 - (lg_sl ([.ref g0])).length) Slot.unset).toArray = ls at hl ⊢
  have hl : lv_has ls 3 [(0, .ref g0)] := hl
  refine bb_gen hP hD (fun H locs hP hD hS => ?_)
  refine lv_aload_n hx hb dX1_sets_0 rfl (lv_at hl 0 rfl) ?_
  refine lv_iconst (v := 0) hx hb dX1_sets_1 (by decide) ?_
  refine va_put (D := (dC, dI)) (ci := 1) (v := .int 0) (ty := .int) (C := RX1) (T := TX1) (N := 5) hx hb hts hin tyX1 tyX1_ok nX1 hown hK hP hD hS 0 rfl rfl 4 (by decide) hf23 (fun _ h9 => h9) rfl (by decide +kernel) rfl rfl (Nat.le_of_ble_eq_true rfl) dX1_sets_2 (fun H locs hP hD hS => ?_)
  have hP : va_P (dC, dI) vwCl [(g0, .inr (1, [.ref b0, .ref b1, .ref b2, .int k, .int 0])), (b0, .inl (cA, 10, .inl w)), (b1, .inl (cA, 10, .inl pr)), (b2, .inl (cA, 310, .inl vt))] H := hP
  have hD : va_D A [(g0, .inr (1, [.ref b0, .ref b1, .ref b2, .int k, .int 0])), (b0, .inl (cA, 10, .inl w)), (b1, .inl (cA, 10, .inl pr)), (b2, .inl (cA, 310, .inl vt))] := hD
  refine lv_iconst (v := 0) hx hb dX1_sets_5 (by decide) ?_
  refine lv_istore_n (lv' := [(1, .int 0), (0, .ref g0)]) hx hb dX1_sets_6 rfl hl (by decide) rfl (fun ls hl => ?_)
  refine lv_iconst (v := 0) hx hb dX1_sets_7 (by decide) ?_
  refine lv_istore_n (lv' := [(2, .int 0), (1, .int 0), (0, .ref g0)]) hx hb dX1_sets_8 rfl hl (by decide) rfl (fun ls hl => ?_)
  have hl : lv_has ls 3 [(0, .ref g0), (1, .int 0), (2, .int 0)] := lv_sub hl [2, 1, 0] rfl
  refine bb_forW (pc := 9) (I := fun j9 ls => lv_has ls 3 [(0, .ref g0), (1, .int (nI (bb_cn (fun x9 => bb_en w k (nI x9)) j9))), (2, .int (nI j9))]) 1024 ?_ ?_ 0 ls (Nat.zero_le _) hl
  · skip
    intro j ls hj hI ihj
    have hl := hI
    refine lv_iload_n hx hb dX1_sets_9 rfl (lv_at hl 2 rfl) ?_
    refine lv_sipush (v := nI 1024) hx hb dX1_sets_10 (by decide) ?_
    refine lv_icmp_ge (tgt := 33) hx hb dX1_sets_13 rfl (fun h13 => absurd h13 (nI_ge hj (by decide))) (fun h13 => ?_)
    have q13 := bb_lt h13
    refine lv_aload_n hx hb dX1_sets_16 rfl (lv_at hl 0 rfl) ?_
    refine lv_iload_n hx hb dX1_sets_17 rfl (lv_at hl 2 rfl) ?_
    refine bb_cV (As := [.int (nI j)]) (rest := []) (r := bb_I (bb_en w k (nI j))) 0 ⟨hx, hb, hml, hown, hts⟩ (m_isEnough l dC dI cA g0 b0 b1 b2 w pr vt k 0 (nI j)) (cwV 1 hts gX1_sets_X1_isEnough rfl rfl rfl (by decide +kernel) ⟨Nat.le_of_ble_eq_true rfl, Nat.le_of_ble_eq_true rfl⟩) hP hK rfl rfl rfl hl.1 rfl (Nat.le_of_ble_eq_true rfl) dX1_sets_18 (Nat.zero_le _) (Nat.zero_le _) ?_
    refine lv_if_eq (tgt := 27) hx hb dX1_sets_21 rfl (fun h21 => ?_) (fun h21 => ?_)
    · skip
      have q21 := bb_I_0.mp h21
      refine lv_iinc (v := nI (j + 1)) (lv' := [(2, .int (nI (j + 1))), (0, .ref g0), (1, .int (nI (bb_cn (fun x9 => bb_en w k (nI x9)) j)))]) hx hb dX1_sets_27 hl (k := 2) rfl (bb_inc _) (by decide) rfl (fun ls hl => ?_)
      refine lv_goto (tgt := 9) hx hb dX1_sets_30 rfl ?_
      have hl : lv_has ls 3 [(0, .ref g0), (1, .int (nI (bb_cn (fun x9 => bb_en w k (nI x9)) j))), (2, .int (nI (j + 1)))] := lv_sub hl [1, 2, 0] rfl
      have e1 : (nI (bb_cn (fun x9 => bb_en w k (nI x9)) j)) = nI (bb_cn (fun x9 => bb_en w k (nI x9)) (j + 1)) := by simp [bb_cn, h13, q13, h21, q21]
      have hl : lv_has ls 3 [(0, .ref g0), (1, .int (nI (bb_cn (fun x9 => bb_en w k (nI x9)) (j + 1)))), (2, .int (nI (j + 1)))] := by rw [← e1]; exact hl
      exact ihj ls hl
    · skip
      have q21 := bb_nz h21
      refine lv_iinc (v := nI ((bb_cn (fun x9 => bb_en w k (nI x9)) j) + 1)) (lv' := [(1, .int (nI ((bb_cn (fun x9 => bb_en w k (nI x9)) j) + 1))), (0, .ref g0), (2, .int (nI j))]) hx hb dX1_sets_24 hl (k := 1) rfl (bb_inc _) (by decide) rfl (fun ls hl => ?_)
      refine lv_iinc (v := nI (j + 1)) (lv' := [(2, .int (nI (j + 1))), (1, .int (nI ((bb_cn (fun x9 => bb_en w k (nI x9)) j) + 1))), (0, .ref g0)]) hx hb dX1_sets_27 hl (k := 2) rfl (bb_inc _) (by decide) rfl (fun ls hl => ?_)
      refine lv_goto (tgt := 9) hx hb dX1_sets_30 rfl ?_
      have hl : lv_has ls 3 [(0, .ref g0), (1, .int (nI ((bb_cn (fun x9 => bb_en w k (nI x9)) j) + 1))), (2, .int (nI (j + 1)))] := lv_sub hl [2, 1, 0] rfl
      have e2 : (nI ((bb_cn (fun x9 => bb_en w k (nI x9)) j) + 1)) = nI (bb_cn (fun x9 => bb_en w k (nI x9)) (j + 1)) := by simp [bb_cn, h13, q13, h21, q21]
      have hl : lv_has ls 3 [(0, .ref g0), (1, .int (nI (bb_cn (fun x9 => bb_en w k (nI x9)) (j + 1)))), (2, .int (nI (j + 1)))] := by rw [← e2]; exact hl
      exact ihj ls hl
  · skip
    intro ls hI
    have hl := hI
    refine lv_iload_n hx hb dX1_sets_9 rfl (lv_at hl 2 rfl) ?_
    refine lv_sipush (v := nI 1024) hx hb dX1_sets_10 (by decide) ?_
    refine lv_icmp_ge (tgt := 33) hx hb dX1_sets_13 rfl (fun h13 => ?_) (fun h13 => absurd (nI_le (Nat.le_refl _) (by decide)) h13)
    have q13 := bb_nlt h13
    refine lv_iload_n hx hb dX1_sets_33 rfl (lv_at hl 1 rfl) ?_
    exact W.iret (v := nI (bb_cn (fun x9 => bb_en w k (nI x9)) 1024)) hx hb hr (fun t ht _ => ⟨⟨nI (bb_cn (fun x9 => bb_en w k (nI x9)) 1024), (), rfl, rfl, by show va_P _ _ _ t.heap; rw [ht]; exact hP⟩, hS.F ht⟩) hS.2.2 dX1_sets_34
