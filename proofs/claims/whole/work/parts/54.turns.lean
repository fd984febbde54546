/-! the law's turns, by how they go -/
theorem bb_hi2 {s : Int32} {b : Nat} (hb : b < 2 ^ 31) {pr : Nat → Int32} {n : Nat} : (!decide (bb_hm pr s n ≤ nI b)) = bb_ex (fun i => bb_hb s i && decide (nI b < pr i)) n := by
  by_cases h : bb_hm pr s n ≤ nI b
  · rw [decide_eq_true h, Bool.eq_false_iff.mpr (fun h9 => bb_nlt h ((bb_e_hi hb pr n).mpr h9))]
    rfl
  · rw [decide_eq_false h, (bb_e_hi hb pr n).mp (bb_lt h)]
    rfl

set_option maxHeartbeats 4000000 in
set_option maxRecDepth 100000 in
theorem L_weight {p : Program} {l : Launch} {e : Env} {s : State} {m : MethodId} {below : List Frame} {meth : Method} {c : Code} {Q : State → Prop} {b L : Nat} {xs : Nat → Int32} {dC : Nat → ClassId} {dI : Nat → Nat → Nat} {cA cL : ClassId} (X : bb_Cx p l s m c b L xs dC dI cA cL) {g0 b0 b1 b2 h0 a0 a1 a2 a3 o0 : Nat} {w pr vo vf vt : Nat → Int32} {k th : Int32} {fo : Nat → Int64} {H : Heap} {locs : List Loc} {ls : Array Slot} {j : Nat} (hj : 4 * j + 3 < L) (hok : bb_ok w k pr vo vf vt)
    (hP : va_P (dC, dI) vwCl (bb_F g0 b0 b1 b2 h0 a0 a1 a2 a3 o0 cA cL w pr vo vf vt k th fo) H) (hD : va_D (bb_A s) (bb_F g0 b0 b1 b2 h0 a0 a1 a2 a3 o0 cA cL w pr vo vf vt k th fo)) (hS : va_S (bb_A s) s.heap H locs) (hl : lv_has ls 7 (bb_ll b h0 g0 o0 j)) (K : bb_K p l e s m below meth c b dC dI cA cL g0 b0 b1 b2 h0 a0 a1 a2 a3 o0 j Q) (n : Nat) (hn0 : n < 10) (a : Nat) (ha0 : a ≤ 50) (e1 : xs (4 * j + 1) = nI n) (e2 : xs (4 * j + 2) = nI a) : W p l e room_1 s m #[Value.ref b] below meth c H locs (10 + j) (423 + 6 * j) Q (F0 m 120 ls []) := by
  obtain ⟨hx, hb, hml, hown, hts, hX, hbl, hK, hZ, htr, hL⟩ := X
  have hA : ∀ q : Nat, s.heap.size ≤ q → bb_A s q := fun _ h => h
  have hbA : ¬ bb_A s b := Nat.not_le.mpr hbl
  have hK1 := hK.sub [0] (tys' := [(cA, .int)]) rfl
  have hjb : j < 512 := by omega
  have hl : lv_has ls 7 [(0, .ref b), (1, .ref h0), (2, .ref g0), (3, .ref o0), (4, .int (nI (4 * j)))] := hl
  have hP : va_P (dC, dI) vwCl [(g0, .inr (1, [.ref b0, .ref b1, .ref b2, .int k, .int th])), (b0, .inl (cA, 10, .inl w)), (b1, .inl (cA, 10, .inl pr)), (b2, .inl (cA, 310, .inl vt)), (h0, .inr (0, [.ref a0, .ref a1, .ref a2, .ref a3, .int k])), (a0, .inl (cA, 10, .inl w)), (a1, .inl (cA, 10, .inl pr)), (a2, .inl (cA, 31, .inl vo)), (a3, .inl (cA, 31, .inl vf)), (o0, .inl (cL, 1, .inr (.inl fo)))] H := hP
  have hD : va_D (bb_A s) [(g0, .inr (1, [.ref b0, .ref b1, .ref b2, .int k, .int th])), (b0, .inl (cA, 10, .inl w)), (b1, .inl (cA, 10, .inl pr)), (b2, .inl (cA, 310, .inl vt)), (h0, .inr (0, [.ref a0, .ref a1, .ref a2, .ref a3, .int k])), (a0, .inl (cA, 10, .inl w)), (a1, .inl (cA, 10, .inl pr)), (a2, .inl (cA, 31, .inl vo)), (a3, .inl (cA, 31, .inl vf)), (o0, .inl (cL, 1, .inr (.inl fo)))] := hD
  refine lv_aload_n hx hb dL_law_120 rfl (lv_at hl 1 rfl) ?_
  refine lv_aload_n hx hb dL_law_121 rfl (lv_at hl 0 rfl) ?_
  refine lv_iload hx hb dL_law_122 (lv_at hl 4 rfl) ?_
  refine lv_iconst (v := 1) hx hb dL_law_124 (by decide) ?_
  refine lv_iadd hx hb dL_law_125 ?_
  refine bb_topi (y := nI (4 * j + 1)) (bb_add1 j) ?_
  refine bb_sld hx hb hX hbl hbA hS (4 * j + 1) (by omega) hL e1 dL_law_126 ?_
  refine lv_aload_n hx hb dL_law_127 rfl (lv_at hl 0 rfl) ?_
  refine lv_iload hx hb dL_law_128 (lv_at hl 4 rfl) ?_
  refine lv_iconst (v := 2) hx hb dL_law_130 (by decide) ?_
  refine lv_iadd hx hb dL_law_131 ?_
  refine bb_topi (y := nI (4 * j + 2)) (bb_add2 j) ?_
  refine bb_sld hx hb hX hbl hbA hS (4 * j + 2) (by omega) hL e2 dL_law_132 ?_
  refine lv_aload_n hx hb dL_law_133 rfl (lv_at hl 3 rfl) ?_
  refine bb_cWf (As := [.ref h0, .int (nI n), .int (nI a), .ref o0]) (rest := []) (r := 0) (pre := [(g0, .inr (1, [.ref b0, .ref b1, .ref b2, .int k, .int th])), (b0, .inl (cA, 10, .inl w)), (b1, .inl (cA, 10, .inl pr)), (b2, .inl (cA, 310, .inl vt))]) (wc := [(h0, .inr (0, [.ref a0, .ref a1, .ref a2, .ref a3, .int k])), (a0, .inl (cA, 10, .inl w)), (a1, .inl (cA, 10, .inl pr)), (a2, .inl (cA, 31, .inl vo)), (a3, .inl (cA, 31, .inl vf)), (o0, .inl (cL, 1, .inr (.inl fo)))]) (wc' := [(h0, .inr (0, [.ref a0, .ref a1, .ref a2, .ref a3, .int k])), (a0, .inl (cA, 10, .inl (upd w n (nI a)))), (a1, .inl (cA, 10, .inl pr)), (a2, .inl (cA, 31, .inl vo)), (a3, .inl (cA, 31, .inl vf)), (o0, .inl (cL, 1, .inr (.inl (fun _ => (w n).toInt64))))]) (post := []) (Px := fun _ => True) ⟨hx, hb, hml, hown, hts⟩ (w_weight l dC dI cA cL h0 a0 a1 a2 a3 o0 w pr vo vf k fo H.size n hn0 a ha0) (bb_cw 4 hts gL_law_L_weight rfl rfl rfl gS_law_L_weight gT_law_L_weight gI_law_L_weight (by decide +kernel) ⟨Nat.le_of_ble_eq_true rfl, Nat.le_of_ble_eq_true rfl⟩) (fun _ _ _ _ _ => trivial) (fun _ _ _ => trivial) hP hK hD hS hA rfl rfl hl.1 rfl (Nat.le_of_ble_eq_true rfl) dL_law_134 (by show _ ≤ 1046; omega) (by show _ ≤ 8687; omega) (fun H locs hP hD hS => ?_)
  have hP : va_P (dC, dI) vwCl [(g0, .inr (1, [.ref b0, .ref b1, .ref b2, .int k, .int th])), (b0, .inl (cA, 10, .inl w)), (b1, .inl (cA, 10, .inl pr)), (b2, .inl (cA, 310, .inl vt)), (h0, .inr (0, [.ref a0, .ref a1, .ref a2, .ref a3, .int k])), (a0, .inl (cA, 10, .inl (upd w n (nI a)))), (a1, .inl (cA, 10, .inl pr)), (a2, .inl (cA, 31, .inl vo)), (a3, .inl (cA, 31, .inl vf)), (o0, .inl (cL, 1, .inr (.inl (fun _ => (w n).toInt64))))] H := hP
  have hD : va_D (bb_A s) [(g0, .inr (1, [.ref b0, .ref b1, .ref b2, .int k, .int th])), (b0, .inl (cA, 10, .inl w)), (b1, .inl (cA, 10, .inl pr)), (b2, .inl (cA, 310, .inl vt)), (h0, .inr (0, [.ref a0, .ref a1, .ref a2, .ref a3, .int k])), (a0, .inl (cA, 10, .inl (upd w n (nI a)))), (a1, .inl (cA, 10, .inl pr)), (a2, .inl (cA, 31, .inl vo)), (a3, .inl (cA, 31, .inl vf)), (o0, .inl (cL, 1, .inr (.inl (fun _ => (w n).toInt64))))] := hD
  refine lv_istore (lv' := [(5, .int 0), (0, .ref b), (1, .ref h0), (2, .ref g0), (3, .ref o0), (4, .int (nI (4 * j)))]) hx hb dL_law_137 hl (by decide) rfl (fun ls hl => ?_)
  refine lv_aload_n hx hb dL_law_139 rfl (lv_at hl 3 rfl) ?_
  refine lv_aload_n hx hb dL_law_140 rfl (lv_at hl 1 rfl) ?_
  refine lv_iload hx hb dL_law_141 (lv_at hl 5 rfl) ?_
  refine lv_iconst (v := 1) hx hb dL_law_143 (by decide) ?_
  refine lv_iadd hx hb dL_law_144 ?_
  refine bb_topi (y := nI (4 * j + 1)) (bb_add1 j) ?_
  refine bb_sld hx hb hX hbl hbA hS (4 * j + 1) (by omega) hL e1 dL_law_145 ?_
  refine lv_aload_n hx hb dL_law_146 rfl (lv_at hl 1 rfl) ?_
  refine lv_iload hx hb dL_law_147 (lv_at hl 5 rfl) ?_
  refine lv_iconst (v := 2) hx hb dL_law_149 (by decide) ?_
  refine lv_iadd hx hb dL_law_150 ?_
  refine bb_topi (y := nI (4 * j + 2)) (bb_add2 j) ?_
  refine bb_sld hx hb hX hbl hbA hS (4 * j + 2) (by omega) hL e2 dL_law_151 ?_
  refine bb_cVf (As := [.int (nI n), .int (nI a)]) (rest := []) (r := w n) (pre := []) (wc := [(g0, .inr (1, [.ref b0, .ref b1, .ref b2, .int k, .int th])), (b0, .inl (cA, 10, .inl w)), (b1, .inl (cA, 10, .inl pr)), (b2, .inl (cA, 310, .inl vt))]) (post := [(h0, .inr (0, [.ref a0, .ref a1, .ref a2, .ref a3, .int k])), (a0, .inl (cA, 10, .inl (upd w n (nI a)))), (a1, .inl (cA, 10, .inl pr)), (a2, .inl (cA, 31, .inl vo)), (a3, .inl (cA, 31, .inl vf)), (o0, .inl (cL, 1, .inr (.inl (fun _ => (w n).toInt64))))]) (wc' := [(g0, .inr (1, [.ref b0, .ref b1, .ref b2, .int k, .int 0])), (b0, .inl (cA, 10, .inl (upd w n (nI a)))), (b1, .inl (cA, 10, .inl pr)), (b2, .inl (cA, 310, .inl vt))]) 0 ⟨hx, hb, hml, hown, hts⟩ (r_weight l dC dI cA g0 b0 b1 b2 w pr vt k th H.size n hn0 a ha0) (cwV 2 hts gL_law_X1_weight rfl rfl rfl (by decide +kernel) ⟨Nat.le_of_ble_eq_true rfl, Nat.le_of_ble_eq_true rfl⟩) hP hK1 hD hS hA rfl rfl rfl rfl hl.1 rfl (Nat.le_of_ble_eq_true rfl) dL_law_152 (by show _ ≤ 1046; omega) (by show _ ≤ 8687; omega) (fun H locs hP hD hS => ?_)
  have hP : va_P (dC, dI) vwCl [(g0, .inr (1, [.ref b0, .ref b1, .ref b2, .int k, .int 0])), (b0, .inl (cA, 10, .inl (upd w n (nI a)))), (b1, .inl (cA, 10, .inl pr)), (b2, .inl (cA, 310, .inl vt)), (h0, .inr (0, [.ref a0, .ref a1, .ref a2, .ref a3, .int k])), (a0, .inl (cA, 10, .inl (upd w n (nI a)))), (a1, .inl (cA, 10, .inl pr)), (a2, .inl (cA, 31, .inl vo)), (a3, .inl (cA, 31, .inl vf)), (o0, .inl (cL, 1, .inr (.inl (fun _ => (w n).toInt64))))] H := hP
  have hD : va_D (bb_A s) [(g0, .inr (1, [.ref b0, .ref b1, .ref b2, .int k, .int 0])), (b0, .inl (cA, 10, .inl (upd w n (nI a)))), (b1, .inl (cA, 10, .inl pr)), (b2, .inl (cA, 310, .inl vt)), (h0, .inr (0, [.ref a0, .ref a1, .ref a2, .ref a3, .int k])), (a0, .inl (cA, 10, .inl (upd w n (nI a)))), (a1, .inl (cA, 10, .inl pr)), (a2, .inl (cA, 31, .inl vo)), (a3, .inl (cA, 31, .inl vf)), (o0, .inl (cL, 1, .inr (.inl (fun _ => (w n).toInt64))))] := hD
  refine lv_istore (lv' := [(6, .int (w n)), (5, .int 0), (0, .ref b), (1, .ref h0), (2, .ref g0), (3, .ref o0), (4, .int (nI (4 * j)))]) hx hb dL_law_155 hl (by decide) rfl (fun ls hl => ?_)
  refine lv_aload_n hx hb dL_law_157 rfl (lv_at hl 4 rfl) ?_
  have hPm : va_P (dC, dI) vwCl [(g0, .inr (1, [.ref b0, .ref b1, .ref b2, .int k, .int 0])), (b0, .inl (cA, 10, .inl (upd w n (nI a)))), (b1, .inl (cA, 10, .inl pr)), (b2, .inl (cA, 310, .inl vt))] H := bb_Pmid (pre := []) (wc := [(g0, .inr (1, [.ref b0, .ref b1, .ref b2, .int k, .int 0])), (b0, .inl (cA, 10, .inl (upd w n (nI a)))), (b1, .inl (cA, 10, .inl pr)), (b2, .inl (cA, 310, .inl vt))]) (post := [(h0, .inr (0, [.ref a0, .ref a1, .ref a2, .ref a3, .int k])), (a0, .inl (cA, 10, .inl (upd w n (nI a)))), (a1, .inl (cA, 10, .inl pr)), (a2, .inl (cA, 31, .inl vo)), (a3, .inl (cA, 31, .inl vf)), (o0, .inl (cL, 1, .inr (.inl (fun _ => (w n).toInt64))))]) hP
  refine bb_cV (As := []) (rest := []) (r := 0) 0 ⟨hx, hb, hml, hown, hts⟩ (m_thrown l dC dI cA g0 b0 b1 b2 (upd w n (nI a)) pr vt k 0) (cwV 0 hts gL_law_X1_thrown rfl rfl rfl (by decide +kernel) ⟨Nat.le_of_ble_eq_true rfl, Nat.le_of_ble_eq_true rfl⟩) hPm hK1 rfl rfl rfl hl.1 rfl (Nat.le_of_ble_eq_true rfl) dL_law_158 (by show _ ≤ 1046; omega) (by show _ ≤ 8687; omega) ?_
  refine lv_iload hx hb dL_law_161 (lv_at hl 1 rfl) ?_
  refine lv_icmp_eq (tgt := 168) hx hb dL_law_163 rfl (fun h163 => ?_) (fun h163 => absurd rfl h163)
  refine lv_iload hx hb dL_law_168 (lv_at hl 1 rfl) ?_
  refine lv_if_ne (tgt := 185) hx hb dL_law_170 rfl (fun h170 => absurd rfl h170) (fun h170 => ?_)
  refine lv_aload_n hx hb dL_law_173 rfl (lv_at hl 5 rfl) ?_
  refine lv_iconst (v := nI 0) hx hb dL_law_174 (by decide) ?_
  refine bb_lal hx hb hK hP 9 1 rfl rfl dL_law_175 ?_
  refine lv_iload hx hb dL_law_176 (lv_at hl 0 rfl) ?_
  refine lv_i2l (v := (w n).toInt64) hx hb dL_law_178 rfl ?_
  refine W.lcmp hx hb dL_law_179 ?_
  refine bb_topi (y := 0) (bb_cmp0 _) ?_
  refine lv_if_eq (tgt := 185) hx hb dL_law_180 rfl (fun h180 => ?_) (fun h180 => absurd rfl h180)
  refine lv_goto (tgt := 993) hx hb dL_law_185 rfl ?_
  refine W.widen (k := 11 + j) (n := 429 + 6 * j) (by omega) (by omega) ?_
  exact K _ _ _ _ _ _ _ _ _ _ _ (bb_ok_weight hok ha0) hP hD hS (lv_sub hl [2, 3, 4, 5, 6] rfl)

set_option maxHeartbeats 4000000 in
set_option maxRecDepth 100000 in
theorem L_weight1 {p : Program} {l : Launch} {e : Env} {s : State} {m : MethodId} {below : List Frame} {meth : Method} {c : Code} {Q : State → Prop} {b L : Nat} {xs : Nat → Int32} {dC : Nat → ClassId} {dI : Nat → Nat → Nat} {cA cL : ClassId} (X : bb_Cx p l s m c b L xs dC dI cA cL) {g0 b0 b1 b2 h0 a0 a1 a2 a3 o0 : Nat} {w pr vo vf vt : Nat → Int32} {k th : Int32} {fo : Nat → Int64} {H : Heap} {locs : List Loc} {ls : Array Slot} {j : Nat} (hj : 4 * j + 3 < L) (hok : bb_ok w k pr vo vf vt)
    (hP : va_P (dC, dI) vwCl (bb_F g0 b0 b1 b2 h0 a0 a1 a2 a3 o0 cA cL w pr vo vf vt k th fo) H) (hD : va_D (bb_A s) (bb_F g0 b0 b1 b2 h0 a0 a1 a2 a3 o0 cA cL w pr vo vf vt k th fo)) (hS : va_S (bb_A s) s.heap H locs) (hl : lv_has ls 7 (bb_ll b h0 g0 o0 j)) (K : bb_K p l e s m below meth c b dC dI cA cL g0 b0 b1 b2 h0 a0 a1 a2 a3 o0 j Q) (x0 x1 : Int32) (hbad : bb_out x0 (nI 10) = true) (e1 : xs (4 * j + 1) = x0) (e2 : xs (4 * j + 2) = x1) : W p l e room_1 s m #[Value.ref b] below meth c H locs (10 + j) (423 + 6 * j) Q (F0 m 120 ls []) := by
  obtain ⟨hx, hb, hml, hown, hts, hX, hbl, hK, hZ, htr, hL⟩ := X
  have hA : ∀ q : Nat, s.heap.size ≤ q → bb_A s q := fun _ h => h
  have hbA : ¬ bb_A s b := Nat.not_le.mpr hbl
  have hK1 := hK.sub [0] (tys' := [(cA, .int)]) rfl
  have hjb : j < 512 := by omega
  have hl : lv_has ls 7 [(0, .ref b), (1, .ref h0), (2, .ref g0), (3, .ref o0), (4, .int (nI (4 * j)))] := hl
  have hP : va_P (dC, dI) vwCl [(g0, .inr (1, [.ref b0, .ref b1, .ref b2, .int k, .int th])), (b0, .inl (cA, 10, .inl w)), (b1, .inl (cA, 10, .inl pr)), (b2, .inl (cA, 310, .inl vt)), (h0, .inr (0, [.ref a0, .ref a1, .ref a2, .ref a3, .int k])), (a0, .inl (cA, 10, .inl w)), (a1, .inl (cA, 10, .inl pr)), (a2, .inl (cA, 31, .inl vo)), (a3, .inl (cA, 31, .inl vf)), (o0, .inl (cL, 1, .inr (.inl fo)))] H := hP
  have hD : va_D (bb_A s) [(g0, .inr (1, [.ref b0, .ref b1, .ref b2, .int k, .int th])), (b0, .inl (cA, 10, .inl w)), (b1, .inl (cA, 10, .inl pr)), (b2, .inl (cA, 310, .inl vt)), (h0, .inr (0, [.ref a0, .ref a1, .ref a2, .ref a3, .int k])), (a0, .inl (cA, 10, .inl w)), (a1, .inl (cA, 10, .inl pr)), (a2, .inl (cA, 31, .inl vo)), (a3, .inl (cA, 31, .inl vf)), (o0, .inl (cL, 1, .inr (.inl fo)))] := hD
  refine lv_aload_n hx hb dL_law_120 rfl (lv_at hl 1 rfl) ?_
  refine lv_aload_n hx hb dL_law_121 rfl (lv_at hl 0 rfl) ?_
  refine lv_iload hx hb dL_law_122 (lv_at hl 4 rfl) ?_
  refine lv_iconst (v := 1) hx hb dL_law_124 (by decide) ?_
  refine lv_iadd hx hb dL_law_125 ?_
  refine bb_topi (y := nI (4 * j + 1)) (bb_add1 j) ?_
  refine bb_sld hx hb hX hbl hbA hS (4 * j + 1) (by omega) hL e1 dL_law_126 ?_
  refine lv_aload_n hx hb dL_law_127 rfl (lv_at hl 0 rfl) ?_
  refine lv_iload hx hb dL_law_128 (lv_at hl 4 rfl) ?_
  refine lv_iconst (v := 2) hx hb dL_law_130 (by decide) ?_
  refine lv_iadd hx hb dL_law_131 ?_
  refine bb_topi (y := nI (4 * j + 2)) (bb_add2 j) ?_
  refine bb_sld hx hb hX hbl hbA hS (4 * j + 2) (by omega) hL e2 dL_law_132 ?_
  refine lv_aload_n hx hb dL_law_133 rfl (lv_at hl 3 rfl) ?_
  refine bb_cWf (As := [.ref h0, .int x0, .int x1, .ref o0]) (rest := []) (r := 1) (pre := [(g0, .inr (1, [.ref b0, .ref b1, .ref b2, .int k, .int th])), (b0, .inl (cA, 10, .inl w)), (b1, .inl (cA, 10, .inl pr)), (b2, .inl (cA, 310, .inl vt))]) (wc := [(h0, .inr (0, [.ref a0, .ref a1, .ref a2, .ref a3, .int k])), (a0, .inl (cA, 10, .inl w)), (a1, .inl (cA, 10, .inl pr)), (a2, .inl (cA, 31, .inl vo)), (a3, .inl (cA, 31, .inl vf)), (o0, .inl (cL, 1, .inr (.inl fo)))]) (wc' := [(h0, .inr (0, [.ref a0, .ref a1, .ref a2, .ref a3, .int k])), (a0, .inl (cA, 10, .inl w)), (a1, .inl (cA, 10, .inl pr)), (a2, .inl (cA, 31, .inl vo)), (a3, .inl (cA, 31, .inl vf)), (o0, .inl (cL, 1, .inr (.inl fo)))]) (post := []) (Px := fun U => bb_TS s.heap.size U) ⟨hx, hb, hml, hown, hts⟩ (w_weight1 l htr s.heap.size dC dI cA cL h0 a0 a1 a2 a3 o0 w pr vo vf k fo H.size x0 x1 hbad) (bb_cw 4 hts gL_law_L_weight rfl rfl rfl gS_law_L_weight gT_law_L_weight gI_law_L_weight (by decide +kernel) ⟨Nat.le_of_ble_eq_true rfl, Nat.le_of_ble_eq_true rfl⟩) (fun a9 U9 g9 m9 q9 => bb_TS.same (u := U9) (U := U9.calling g9 m9 a9) rfl rfl q9) (fun U9 hU9 hW9 => hZ.mv hW9 (fun x9 h9 => by rw [hU9]; exact hS.2.1 x9 h9 (Nat.not_le.mpr h9))) hP hK hD hS hA rfl rfl hl.1 rfl (Nat.le_of_ble_eq_true rfl) dL_law_134 (by show _ ≤ 1046; omega) (by show _ ≤ 8687; omega) (fun H locs hP hD hS => ?_)
  have hP : va_P (dC, dI) vwCl [(g0, .inr (1, [.ref b0, .ref b1, .ref b2, .int k, .int th])), (b0, .inl (cA, 10, .inl w)), (b1, .inl (cA, 10, .inl pr)), (b2, .inl (cA, 310, .inl vt)), (h0, .inr (0, [.ref a0, .ref a1, .ref a2, .ref a3, .int k])), (a0, .inl (cA, 10, .inl w)), (a1, .inl (cA, 10, .inl pr)), (a2, .inl (cA, 31, .inl vo)), (a3, .inl (cA, 31, .inl vf)), (o0, .inl (cL, 1, .inr (.inl fo)))] H := hP
  have hD : va_D (bb_A s) [(g0, .inr (1, [.ref b0, .ref b1, .ref b2, .int k, .int th])), (b0, .inl (cA, 10, .inl w)), (b1, .inl (cA, 10, .inl pr)), (b2, .inl (cA, 310, .inl vt)), (h0, .inr (0, [.ref a0, .ref a1, .ref a2, .ref a3, .int k])), (a0, .inl (cA, 10, .inl w)), (a1, .inl (cA, 10, .inl pr)), (a2, .inl (cA, 31, .inl vo)), (a3, .inl (cA, 31, .inl vf)), (o0, .inl (cL, 1, .inr (.inl fo)))] := hD
  refine lv_istore (lv' := [(5, .int 1), (0, .ref b), (1, .ref h0), (2, .ref g0), (3, .ref o0), (4, .int (nI (4 * j)))]) hx hb dL_law_137 hl (by decide) rfl (fun ls hl => ?_)
  refine lv_aload_n hx hb dL_law_139 rfl (lv_at hl 3 rfl) ?_
  refine lv_aload_n hx hb dL_law_140 rfl (lv_at hl 1 rfl) ?_
  refine lv_iload hx hb dL_law_141 (lv_at hl 5 rfl) ?_
  refine lv_iconst (v := 1) hx hb dL_law_143 (by decide) ?_
  refine lv_iadd hx hb dL_law_144 ?_
  refine bb_topi (y := nI (4 * j + 1)) (bb_add1 j) ?_
  refine bb_sld hx hb hX hbl hbA hS (4 * j + 1) (by omega) hL e1 dL_law_145 ?_
  refine lv_aload_n hx hb dL_law_146 rfl (lv_at hl 1 rfl) ?_
  refine lv_iload hx hb dL_law_147 (lv_at hl 5 rfl) ?_
  refine lv_iconst (v := 2) hx hb dL_law_149 (by decide) ?_
  refine lv_iadd hx hb dL_law_150 ?_
  refine bb_topi (y := nI (4 * j + 2)) (bb_add2 j) ?_
  refine bb_sld hx hb hX hbl hbA hS (4 * j + 2) (by omega) hL e2 dL_law_151 ?_
  refine bb_cVf (As := [.int x0, .int x1]) (rest := []) (r := 0) (pre := []) (wc := [(g0, .inr (1, [.ref b0, .ref b1, .ref b2, .int k, .int th])), (b0, .inl (cA, 10, .inl w)), (b1, .inl (cA, 10, .inl pr)), (b2, .inl (cA, 310, .inl vt))]) (post := [(h0, .inr (0, [.ref a0, .ref a1, .ref a2, .ref a3, .int k])), (a0, .inl (cA, 10, .inl w)), (a1, .inl (cA, 10, .inl pr)), (a2, .inl (cA, 31, .inl vo)), (a3, .inl (cA, 31, .inl vf)), (o0, .inl (cL, 1, .inr (.inl fo)))]) (wc' := [(g0, .inr (1, [.ref b0, .ref b1, .ref b2, .int k, .int 1])), (b0, .inl (cA, 10, .inl w)), (b1, .inl (cA, 10, .inl pr)), (b2, .inl (cA, 310, .inl vt))]) 0 ⟨hx, hb, hml, hown, hts⟩ (r_weight1 l dC dI cA g0 b0 b1 b2 w pr vt k th H.size x0 x1 hbad) (cwV 2 hts gL_law_X1_weight rfl rfl rfl (by decide +kernel) ⟨Nat.le_of_ble_eq_true rfl, Nat.le_of_ble_eq_true rfl⟩) hP hK1 hD hS hA rfl rfl rfl rfl hl.1 rfl (Nat.le_of_ble_eq_true rfl) dL_law_152 (by show _ ≤ 1046; omega) (by show _ ≤ 8687; omega) (fun H locs hP hD hS => ?_)
  have hP : va_P (dC, dI) vwCl [(g0, .inr (1, [.ref b0, .ref b1, .ref b2, .int k, .int 1])), (b0, .inl (cA, 10, .inl w)), (b1, .inl (cA, 10, .inl pr)), (b2, .inl (cA, 310, .inl vt)), (h0, .inr (0, [.ref a0, .ref a1, .ref a2, .ref a3, .int k])), (a0, .inl (cA, 10, .inl w)), (a1, .inl (cA, 10, .inl pr)), (a2, .inl (cA, 31, .inl vo)), (a3, .inl (cA, 31, .inl vf)), (o0, .inl (cL, 1, .inr (.inl fo)))] H := hP
  have hD : va_D (bb_A s) [(g0, .inr (1, [.ref b0, .ref b1, .ref b2, .int k, .int 1])), (b0, .inl (cA, 10, .inl w)), (b1, .inl (cA, 10, .inl pr)), (b2, .inl (cA, 310, .inl vt)), (h0, .inr (0, [.ref a0, .ref a1, .ref a2, .ref a3, .int k])), (a0, .inl (cA, 10, .inl w)), (a1, .inl (cA, 10, .inl pr)), (a2, .inl (cA, 31, .inl vo)), (a3, .inl (cA, 31, .inl vf)), (o0, .inl (cL, 1, .inr (.inl fo)))] := hD
  refine lv_istore (lv' := [(6, .int 0), (5, .int 1), (0, .ref b), (1, .ref h0), (2, .ref g0), (3, .ref o0), (4, .int (nI (4 * j)))]) hx hb dL_law_155 hl (by decide) rfl (fun ls hl => ?_)
  refine lv_aload_n hx hb dL_law_157 rfl (lv_at hl 4 rfl) ?_
  have hPm : va_P (dC, dI) vwCl [(g0, .inr (1, [.ref b0, .ref b1, .ref b2, .int k, .int 1])), (b0, .inl (cA, 10, .inl w)), (b1, .inl (cA, 10, .inl pr)), (b2, .inl (cA, 310, .inl vt))] H := bb_Pmid (pre := []) (wc := [(g0, .inr (1, [.ref b0, .ref b1, .ref b2, .int k, .int 1])), (b0, .inl (cA, 10, .inl w)), (b1, .inl (cA, 10, .inl pr)), (b2, .inl (cA, 310, .inl vt))]) (post := [(h0, .inr (0, [.ref a0, .ref a1, .ref a2, .ref a3, .int k])), (a0, .inl (cA, 10, .inl w)), (a1, .inl (cA, 10, .inl pr)), (a2, .inl (cA, 31, .inl vo)), (a3, .inl (cA, 31, .inl vf)), (o0, .inl (cL, 1, .inr (.inl fo)))]) hP
  refine bb_cV (As := []) (rest := []) (r := 1) 0 ⟨hx, hb, hml, hown, hts⟩ (m_thrown l dC dI cA g0 b0 b1 b2 w pr vt k 1) (cwV 0 hts gL_law_X1_thrown rfl rfl rfl (by decide +kernel) ⟨Nat.le_of_ble_eq_true rfl, Nat.le_of_ble_eq_true rfl⟩) hPm hK1 rfl rfl rfl hl.1 rfl (Nat.le_of_ble_eq_true rfl) dL_law_158 (by show _ ≤ 1046; omega) (by show _ ≤ 8687; omega) ?_
  refine lv_iload hx hb dL_law_161 (lv_at hl 1 rfl) ?_
  refine lv_icmp_eq (tgt := 168) hx hb dL_law_163 rfl (fun h163 => ?_) (fun h163 => absurd rfl h163)
  refine lv_iload hx hb dL_law_168 (lv_at hl 1 rfl) ?_
  refine lv_if_ne (tgt := 185) hx hb dL_law_170 rfl (fun h170 => ?_) (fun h170 => absurd h170 (by decide))
  refine lv_goto (tgt := 993) hx hb dL_law_185 rfl ?_
  refine W.widen (k := 11 + j) (n := 429 + 6 * j) (by omega) (by omega) ?_
  exact K _ _ _ _ _ _ _ _ _ _ _ (hok) hP hD hS (lv_sub hl [2, 3, 4, 5, 6] rfl)

set_option maxHeartbeats 4000000 in
set_option maxRecDepth 100000 in
theorem L_weight2 {p : Program} {l : Launch} {e : Env} {s : State} {m : MethodId} {below : List Frame} {meth : Method} {c : Code} {Q : State → Prop} {b L : Nat} {xs : Nat → Int32} {dC : Nat → ClassId} {dI : Nat → Nat → Nat} {cA cL : ClassId} (X : bb_Cx p l s m c b L xs dC dI cA cL) {g0 b0 b1 b2 h0 a0 a1 a2 a3 o0 : Nat} {w pr vo vf vt : Nat → Int32} {k th : Int32} {fo : Nat → Int64} {H : Heap} {locs : List Loc} {ls : Array Slot} {j : Nat} (hj : 4 * j + 3 < L) (hok : bb_ok w k pr vo vf vt)
    (hP : va_P (dC, dI) vwCl (bb_F g0 b0 b1 b2 h0 a0 a1 a2 a3 o0 cA cL w pr vo vf vt k th fo) H) (hD : va_D (bb_A s) (bb_F g0 b0 b1 b2 h0 a0 a1 a2 a3 o0 cA cL w pr vo vf vt k th fo)) (hS : va_S (bb_A s) s.heap H locs) (hl : lv_has ls 7 (bb_ll b h0 g0 o0 j)) (K : bb_K p l e s m below meth c b dC dI cA cL g0 b0 b1 b2 h0 a0 a1 a2 a3 o0 j Q) (n : Nat) (hn0 : n < 10) (x1 : Int32) (hbad : x1 < 0 ∨ ¬ x1 ≤ nI 50) (e1 : xs (4 * j + 1) = nI n) (e2 : xs (4 * j + 2) = x1) : W p l e room_1 s m #[Value.ref b] below meth c H locs (10 + j) (423 + 6 * j) Q (F0 m 120 ls []) := by
  obtain ⟨hx, hb, hml, hown, hts, hX, hbl, hK, hZ, htr, hL⟩ := X
  have hA : ∀ q : Nat, s.heap.size ≤ q → bb_A s q := fun _ h => h
  have hbA : ¬ bb_A s b := Nat.not_le.mpr hbl
  have hK1 := hK.sub [0] (tys' := [(cA, .int)]) rfl
  have hjb : j < 512 := by omega
  have hl : lv_has ls 7 [(0, .ref b), (1, .ref h0), (2, .ref g0), (3, .ref o0), (4, .int (nI (4 * j)))] := hl
  have hP : va_P (dC, dI) vwCl [(g0, .inr (1, [.ref b0, .ref b1, .ref b2, .int k, .int th])), (b0, .inl (cA, 10, .inl w)), (b1, .inl (cA, 10, .inl pr)), (b2, .inl (cA, 310, .inl vt)), (h0, .inr (0, [.ref a0, .ref a1, .ref a2, .ref a3, .int k])), (a0, .inl (cA, 10, .inl w)), (a1, .inl (cA, 10, .inl pr)), (a2, .inl (cA, 31, .inl vo)), (a3, .inl (cA, 31, .inl vf)), (o0, .inl (cL, 1, .inr (.inl fo)))] H := hP
  have hD : va_D (bb_A s) [(g0, .inr (1, [.ref b0, .ref b1, .ref b2, .int k, .int th])), (b0, .inl (cA, 10, .inl w)), (b1, .inl (cA, 10, .inl pr)), (b2, .inl (cA, 310, .inl vt)), (h0, .inr (0, [.ref a0, .ref a1, .ref a2, .ref a3, .int k])), (a0, .inl (cA, 10, .inl w)), (a1, .inl (cA, 10, .inl pr)), (a2, .inl (cA, 31, .inl vo)), (a3, .inl (cA, 31, .inl vf)), (o0, .inl (cL, 1, .inr (.inl fo)))] := hD
  refine lv_aload_n hx hb dL_law_120 rfl (lv_at hl 1 rfl) ?_
  refine lv_aload_n hx hb dL_law_121 rfl (lv_at hl 0 rfl) ?_
  refine lv_iload hx hb dL_law_122 (lv_at hl 4 rfl) ?_
  refine lv_iconst (v := 1) hx hb dL_law_124 (by decide) ?_
  refine lv_iadd hx hb dL_law_125 ?_
  refine bb_topi (y := nI (4 * j + 1)) (bb_add1 j) ?_
  refine bb_sld hx hb hX hbl hbA hS (4 * j + 1) (by omega) hL e1 dL_law_126 ?_
  refine lv_aload_n hx hb dL_law_127 rfl (lv_at hl 0 rfl) ?_
  refine lv_iload hx hb dL_law_128 (lv_at hl 4 rfl) ?_
  refine lv_iconst (v := 2) hx hb dL_law_130 (by decide) ?_
  refine lv_iadd hx hb dL_law_131 ?_
  refine bb_topi (y := nI (4 * j + 2)) (bb_add2 j) ?_
  refine bb_sld hx hb hX hbl hbA hS (4 * j + 2) (by omega) hL e2 dL_law_132 ?_
  refine lv_aload_n hx hb dL_law_133 rfl (lv_at hl 3 rfl) ?_
  refine bb_cWf (As := [.ref h0, .int (nI n), .int x1, .ref o0]) (rest := []) (r := 2) (pre := [(g0, .inr (1, [.ref b0, .ref b1, .ref b2, .int k, .int th])), (b0, .inl (cA, 10, .inl w)), (b1, .inl (cA, 10, .inl pr)), (b2, .inl (cA, 310, .inl vt))]) (wc := [(h0, .inr (0, [.ref a0, .ref a1, .ref a2, .ref a3, .int k])), (a0, .inl (cA, 10, .inl w)), (a1, .inl (cA, 10, .inl pr)), (a2, .inl (cA, 31, .inl vo)), (a3, .inl (cA, 31, .inl vf)), (o0, .inl (cL, 1, .inr (.inl fo)))]) (wc' := [(h0, .inr (0, [.ref a0, .ref a1, .ref a2, .ref a3, .int k])), (a0, .inl (cA, 10, .inl w)), (a1, .inl (cA, 10, .inl pr)), (a2, .inl (cA, 31, .inl vo)), (a3, .inl (cA, 31, .inl vf)), (o0, .inl (cL, 1, .inr (.inl fo)))]) (post := []) (Px := fun U => bb_TS s.heap.size U) ⟨hx, hb, hml, hown, hts⟩ (w_weight2 l htr s.heap.size dC dI cA cL h0 a0 a1 a2 a3 o0 w pr vo vf k fo H.size n hn0 x1 hbad) (bb_cw 4 hts gL_law_L_weight rfl rfl rfl gS_law_L_weight gT_law_L_weight gI_law_L_weight (by decide +kernel) ⟨Nat.le_of_ble_eq_true rfl, Nat.le_of_ble_eq_true rfl⟩) (fun a9 U9 g9 m9 q9 => bb_TS.same (u := U9) (U := U9.calling g9 m9 a9) rfl rfl q9) (fun U9 hU9 hW9 => hZ.mv hW9 (fun x9 h9 => by rw [hU9]; exact hS.2.1 x9 h9 (Nat.not_le.mpr h9))) hP hK hD hS hA rfl rfl hl.1 rfl (Nat.le_of_ble_eq_true rfl) dL_law_134 (by show _ ≤ 1046; omega) (by show _ ≤ 8687; omega) (fun H locs hP hD hS => ?_)
  have hP : va_P (dC, dI) vwCl [(g0, .inr (1, [.ref b0, .ref b1, .ref b2, .int k, .int th])), (b0, .inl (cA, 10, .inl w)), (b1, .inl (cA, 10, .inl pr)), (b2, .inl (cA, 310, .inl vt)), (h0, .inr (0, [.ref a0, .ref a1, .ref a2, .ref a3, .int k])), (a0, .inl (cA, 10, .inl w)), (a1, .inl (cA, 10, .inl pr)), (a2, .inl (cA, 31, .inl vo)), (a3, .inl (cA, 31, .inl vf)), (o0, .inl (cL, 1, .inr (.inl fo)))] H := hP
  have hD : va_D (bb_A s) [(g0, .inr (1, [.ref b0, .ref b1, .ref b2, .int k, .int th])), (b0, .inl (cA, 10, .inl w)), (b1, .inl (cA, 10, .inl pr)), (b2, .inl (cA, 310, .inl vt)), (h0, .inr (0, [.ref a0, .ref a1, .ref a2, .ref a3, .int k])), (a0, .inl (cA, 10, .inl w)), (a1, .inl (cA, 10, .inl pr)), (a2, .inl (cA, 31, .inl vo)), (a3, .inl (cA, 31, .inl vf)), (o0, .inl (cL, 1, .inr (.inl fo)))] := hD
  refine lv_istore (lv' := [(5, .int 2), (0, .ref b), (1, .ref h0), (2, .ref g0), (3, .ref o0), (4, .int (nI (4 * j)))]) hx hb dL_law_137 hl (by decide) rfl (fun ls hl => ?_)
  refine lv_aload_n hx hb dL_law_139 rfl (lv_at hl 3 rfl) ?_
  refine lv_aload_n hx hb dL_law_140 rfl (lv_at hl 1 rfl) ?_
  refine lv_iload hx hb dL_law_141 (lv_at hl 5 rfl) ?_
  refine lv_iconst (v := 1) hx hb dL_law_143 (by decide) ?_
  refine lv_iadd hx hb dL_law_144 ?_
  refine bb_topi (y := nI (4 * j + 1)) (bb_add1 j) ?_
  refine bb_sld hx hb hX hbl hbA hS (4 * j + 1) (by omega) hL e1 dL_law_145 ?_
  refine lv_aload_n hx hb dL_law_146 rfl (lv_at hl 1 rfl) ?_
  refine lv_iload hx hb dL_law_147 (lv_at hl 5 rfl) ?_
  refine lv_iconst (v := 2) hx hb dL_law_149 (by decide) ?_
  refine lv_iadd hx hb dL_law_150 ?_
  refine bb_topi (y := nI (4 * j + 2)) (bb_add2 j) ?_
  refine bb_sld hx hb hX hbl hbA hS (4 * j + 2) (by omega) hL e2 dL_law_151 ?_
  refine bb_cVf (As := [.int (nI n), .int x1]) (rest := []) (r := 0) (pre := []) (wc := [(g0, .inr (1, [.ref b0, .ref b1, .ref b2, .int k, .int th])), (b0, .inl (cA, 10, .inl w)), (b1, .inl (cA, 10, .inl pr)), (b2, .inl (cA, 310, .inl vt))]) (post := [(h0, .inr (0, [.ref a0, .ref a1, .ref a2, .ref a3, .int k])), (a0, .inl (cA, 10, .inl w)), (a1, .inl (cA, 10, .inl pr)), (a2, .inl (cA, 31, .inl vo)), (a3, .inl (cA, 31, .inl vf)), (o0, .inl (cL, 1, .inr (.inl fo)))]) (wc' := [(g0, .inr (1, [.ref b0, .ref b1, .ref b2, .int k, .int 2])), (b0, .inl (cA, 10, .inl w)), (b1, .inl (cA, 10, .inl pr)), (b2, .inl (cA, 310, .inl vt))]) 0 ⟨hx, hb, hml, hown, hts⟩ (r_weight2 l dC dI cA g0 b0 b1 b2 w pr vt k th H.size n hn0 x1 hbad) (cwV 2 hts gL_law_X1_weight rfl rfl rfl (by decide +kernel) ⟨Nat.le_of_ble_eq_true rfl, Nat.le_of_ble_eq_true rfl⟩) hP hK1 hD hS hA rfl rfl rfl rfl hl.1 rfl (Nat.le_of_ble_eq_true rfl) dL_law_152 (by show _ ≤ 1046; omega) (by show _ ≤ 8687; omega) (fun H locs hP hD hS => ?_)
  have hP : va_P (dC, dI) vwCl [(g0, .inr (1, [.ref b0, .ref b1, .ref b2, .int k, .int 2])), (b0, .inl (cA, 10, .inl w)), (b1, .inl (cA, 10, .inl pr)), (b2, .inl (cA, 310, .inl vt)), (h0, .inr (0, [.ref a0, .ref a1, .ref a2, .ref a3, .int k])), (a0, .inl (cA, 10, .inl w)), (a1, .inl (cA, 10, .inl pr)), (a2, .inl (cA, 31, .inl vo)), (a3, .inl (cA, 31, .inl vf)), (o0, .inl (cL, 1, .inr (.inl fo)))] H := hP
  have hD : va_D (bb_A s) [(g0, .inr (1, [.ref b0, .ref b1, .ref b2, .int k, .int 2])), (b0, .inl (cA, 10, .inl w)), (b1, .inl (cA, 10, .inl pr)), (b2, .inl (cA, 310, .inl vt)), (h0, .inr (0, [.ref a0, .ref a1, .ref a2, .ref a3, .int k])), (a0, .inl (cA, 10, .inl w)), (a1, .inl (cA, 10, .inl pr)), (a2, .inl (cA, 31, .inl vo)), (a3, .inl (cA, 31, .inl vf)), (o0, .inl (cL, 1, .inr (.inl fo)))] := hD
  refine lv_istore (lv' := [(6, .int 0), (5, .int 2), (0, .ref b), (1, .ref h0), (2, .ref g0), (3, .ref o0), (4, .int (nI (4 * j)))]) hx hb dL_law_155 hl (by decide) rfl (fun ls hl => ?_)
  refine lv_aload_n hx hb dL_law_157 rfl (lv_at hl 4 rfl) ?_
  have hPm : va_P (dC, dI) vwCl [(g0, .inr (1, [.ref b0, .ref b1, .ref b2, .int k, .int 2])), (b0, .inl (cA, 10, .inl w)), (b1, .inl (cA, 10, .inl pr)), (b2, .inl (cA, 310, .inl vt))] H := bb_Pmid (pre := []) (wc := [(g0, .inr (1, [.ref b0, .ref b1, .ref b2, .int k, .int 2])), (b0, .inl (cA, 10, .inl w)), (b1, .inl (cA, 10, .inl pr)), (b2, .inl (cA, 310, .inl vt))]) (post := [(h0, .inr (0, [.ref a0, .ref a1, .ref a2, .ref a3, .int k])), (a0, .inl (cA, 10, .inl w)), (a1, .inl (cA, 10, .inl pr)), (a2, .inl (cA, 31, .inl vo)), (a3, .inl (cA, 31, .inl vf)), (o0, .inl (cL, 1, .inr (.inl fo)))]) hP
  refine bb_cV (As := []) (rest := []) (r := 2) 0 ⟨hx, hb, hml, hown, hts⟩ (m_thrown l dC dI cA g0 b0 b1 b2 w pr vt k 2) (cwV 0 hts gL_law_X1_thrown rfl rfl rfl (by decide +kernel) ⟨Nat.le_of_ble_eq_true rfl, Nat.le_of_ble_eq_true rfl⟩) hPm hK1 rfl rfl rfl hl.1 rfl (Nat.le_of_ble_eq_true rfl) dL_law_158 (by show _ ≤ 1046; omega) (by show _ ≤ 8687; omega) ?_
  refine lv_iload hx hb dL_law_161 (lv_at hl 1 rfl) ?_
  refine lv_icmp_eq (tgt := 168) hx hb dL_law_163 rfl (fun h163 => ?_) (fun h163 => absurd rfl h163)
  refine lv_iload hx hb dL_law_168 (lv_at hl 1 rfl) ?_
  refine lv_if_ne (tgt := 185) hx hb dL_law_170 rfl (fun h170 => ?_) (fun h170 => absurd h170 (by decide))
  refine lv_goto (tgt := 993) hx hb dL_law_185 rfl ?_
  refine W.widen (k := 11 + j) (n := 429 + 6 * j) (by omega) (by omega) ?_
  exact K _ _ _ _ _ _ _ _ _ _ _ (hok) hP hD hS (lv_sub hl [2, 3, 4, 5, 6] rfl)

set_option maxHeartbeats 4000000 in
set_option maxRecDepth 100000 in
theorem L_need {p : Program} {l : Launch} {e : Env} {s : State} {m : MethodId} {below : List Frame} {meth : Method} {c : Code} {Q : State → Prop} {b L : Nat} {xs : Nat → Int32} {dC : Nat → ClassId} {dI : Nat → Nat → Nat} {cA cL : ClassId} (X : bb_Cx p l s m c b L xs dC dI cA cL) {g0 b0 b1 b2 h0 a0 a1 a2 a3 o0 : Nat} {w pr vo vf vt : Nat → Int32} {k th : Int32} {fo : Nat → Int64} {H : Heap} {locs : List Loc} {ls : Array Slot} {j : Nat} (hj : 4 * j + 3 < L) (hok : bb_ok w k pr vo vf vt)
    (hP : va_P (dC, dI) vwCl (bb_F g0 b0 b1 b2 h0 a0 a1 a2 a3 o0 cA cL w pr vo vf vt k th fo) H) (hD : va_D (bb_A s) (bb_F g0 b0 b1 b2 h0 a0 a1 a2 a3 o0 cA cL w pr vo vf vt k th fo)) (hS : va_S (bb_A s) s.heap H locs) (hl : lv_has ls 7 (bb_ll b h0 g0 o0 j)) (K : bb_K p l e s m below meth c b dC dI cA cL g0 b0 b1 b2 h0 a0 a1 a2 a3 o0 j Q) (a : Nat) (ha1 : 1 ≤ a) (ha0 : a ≤ 500) (e1 : xs (4 * j + 1) = nI a) : W p l e room_1 s m #[Value.ref b] below meth c H locs (10 + j) (423 + 6 * j) Q (F0 m 188 ls []) := by
  obtain ⟨hx, hb, hml, hown, hts, hX, hbl, hK, hZ, htr, hL⟩ := X
  have hA : ∀ q : Nat, s.heap.size ≤ q → bb_A s q := fun _ h => h
  have hbA : ¬ bb_A s b := Nat.not_le.mpr hbl
  have hK1 := hK.sub [0] (tys' := [(cA, .int)]) rfl
  have hjb : j < 512 := by omega
  have hl : lv_has ls 7 [(0, .ref b), (1, .ref h0), (2, .ref g0), (3, .ref o0), (4, .int (nI (4 * j)))] := hl
  have hP : va_P (dC, dI) vwCl [(g0, .inr (1, [.ref b0, .ref b1, .ref b2, .int k, .int th])), (b0, .inl (cA, 10, .inl w)), (b1, .inl (cA, 10, .inl pr)), (b2, .inl (cA, 310, .inl vt)), (h0, .inr (0, [.ref a0, .ref a1, .ref a2, .ref a3, .int k])), (a0, .inl (cA, 10, .inl w)), (a1, .inl (cA, 10, .inl pr)), (a2, .inl (cA, 31, .inl vo)), (a3, .inl (cA, 31, .inl vf)), (o0, .inl (cL, 1, .inr (.inl fo)))] H := hP
  have hD : va_D (bb_A s) [(g0, .inr (1, [.ref b0, .ref b1, .ref b2, .int k, .int th])), (b0, .inl (cA, 10, .inl w)), (b1, .inl (cA, 10, .inl pr)), (b2, .inl (cA, 310, .inl vt)), (h0, .inr (0, [.ref a0, .ref a1, .ref a2, .ref a3, .int k])), (a0, .inl (cA, 10, .inl w)), (a1, .inl (cA, 10, .inl pr)), (a2, .inl (cA, 31, .inl vo)), (a3, .inl (cA, 31, .inl vf)), (o0, .inl (cL, 1, .inr (.inl fo)))] := hD
  refine lv_aload_n hx hb dL_law_188 rfl (lv_at hl 1 rfl) ?_
  refine lv_aload_n hx hb dL_law_189 rfl (lv_at hl 0 rfl) ?_
  refine lv_iload hx hb dL_law_190 (lv_at hl 4 rfl) ?_
  refine lv_iconst (v := 1) hx hb dL_law_192 (by decide) ?_
  refine lv_iadd hx hb dL_law_193 ?_
  refine bb_topi (y := nI (4 * j + 1)) (bb_add1 j) ?_
  refine bb_sld hx hb hX hbl hbA hS (4 * j + 1) (by omega) hL e1 dL_law_194 ?_
  refine lv_aload_n hx hb dL_law_195 rfl (lv_at hl 3 rfl) ?_
  refine bb_cWf (As := [.ref h0, .int (nI a), .ref o0]) (rest := []) (r := 0) (pre := [(g0, .inr (1, [.ref b0, .ref b1, .ref b2, .int k, .int th])), (b0, .inl (cA, 10, .inl w)), (b1, .inl (cA, 10, .inl pr)), (b2, .inl (cA, 310, .inl vt))]) (wc := [(h0, .inr (0, [.ref a0, .ref a1, .ref a2, .ref a3, .int k])), (a0, .inl (cA, 10, .inl w)), (a1, .inl (cA, 10, .inl pr)), (a2, .inl (cA, 31, .inl vo)), (a3, .inl (cA, 31, .inl vf)), (o0, .inl (cL, 1, .inr (.inl fo)))]) (wc' := [(h0, .inr (0, [.ref a0, .ref a1, .ref a2, .ref a3, .int (nI a)])), (a0, .inl (cA, 10, .inl w)), (a1, .inl (cA, 10, .inl pr)), (a2, .inl (cA, 31, .inl vo)), (a3, .inl (cA, 31, .inl vf)), (o0, .inl (cL, 1, .inr (.inl (fun _ => k.toInt64))))]) (post := []) (Px := fun _ => True) ⟨hx, hb, hml, hown, hts⟩ (w_need l dC dI cA cL h0 a0 a1 a2 a3 o0 w pr vo vf k fo H.size a ha1 ha0) (bb_cw 3 hts gL_law_L_need rfl rfl rfl gS_law_L_need gT_law_L_need gI_law_L_need (by decide +kernel) ⟨Nat.le_of_ble_eq_true rfl, Nat.le_of_ble_eq_true rfl⟩) (fun _ _ _ _ _ => trivial) (fun _ _ _ => trivial) hP hK hD hS hA rfl rfl hl.1 rfl (Nat.le_of_ble_eq_true rfl) dL_law_196 (by show _ ≤ 1046; omega) (by show _ ≤ 8687; omega) (fun H locs hP hD hS => ?_)
  have hP : va_P (dC, dI) vwCl [(g0, .inr (1, [.ref b0, .ref b1, .ref b2, .int k, .int th])), (b0, .inl (cA, 10, .inl w)), (b1, .inl (cA, 10, .inl pr)), (b2, .inl (cA, 310, .inl vt)), (h0, .inr (0, [.ref a0, .ref a1, .ref a2, .ref a3, .int (nI a)])), (a0, .inl (cA, 10, .inl w)), (a1, .inl (cA, 10, .inl pr)), (a2, .inl (cA, 31, .inl vo)), (a3, .inl (cA, 31, .inl vf)), (o0, .inl (cL, 1, .inr (.inl (fun _ => k.toInt64))))] H := hP
  have hD : va_D (bb_A s) [(g0, .inr (1, [.ref b0, .ref b1, .ref b2, .int k, .int th])), (b0, .inl (cA, 10, .inl w)), (b1, .inl (cA, 10, .inl pr)), (b2, .inl (cA, 310, .inl vt)), (h0, .inr (0, [.ref a0, .ref a1, .ref a2, .ref a3, .int (nI a)])), (a0, .inl (cA, 10, .inl w)), (a1, .inl (cA, 10, .inl pr)), (a2, .inl (cA, 31, .inl vo)), (a3, .inl (cA, 31, .inl vf)), (o0, .inl (cL, 1, .inr (.inl (fun _ => k.toInt64))))] := hD
  refine lv_istore (lv' := [(5, .int 0), (0, .ref b), (1, .ref h0), (2, .ref g0), (3, .ref o0), (4, .int (nI (4 * j)))]) hx hb dL_law_199 hl (by decide) rfl (fun ls hl => ?_)
  refine lv_aload_n hx hb dL_law_201 rfl (lv_at hl 3 rfl) ?_
  refine lv_aload_n hx hb dL_law_202 rfl (lv_at hl 1 rfl) ?_
  refine lv_iload hx hb dL_law_203 (lv_at hl 5 rfl) ?_
  refine lv_iconst (v := 1) hx hb dL_law_205 (by decide) ?_
  refine lv_iadd hx hb dL_law_206 ?_
  refine bb_topi (y := nI (4 * j + 1)) (bb_add1 j) ?_
  refine bb_sld hx hb hX hbl hbA hS (4 * j + 1) (by omega) hL e1 dL_law_207 ?_
  refine bb_cVf (As := [.int (nI a)]) (rest := []) (r := k) (pre := []) (wc := [(g0, .inr (1, [.ref b0, .ref b1, .ref b2, .int k, .int th])), (b0, .inl (cA, 10, .inl w)), (b1, .inl (cA, 10, .inl pr)), (b2, .inl (cA, 310, .inl vt))]) (post := [(h0, .inr (0, [.ref a0, .ref a1, .ref a2, .ref a3, .int (nI a)])), (a0, .inl (cA, 10, .inl w)), (a1, .inl (cA, 10, .inl pr)), (a2, .inl (cA, 31, .inl vo)), (a3, .inl (cA, 31, .inl vf)), (o0, .inl (cL, 1, .inr (.inl (fun _ => k.toInt64))))]) (wc' := [(g0, .inr (1, [.ref b0, .ref b1, .ref b2, .int (nI a), .int 0])), (b0, .inl (cA, 10, .inl w)), (b1, .inl (cA, 10, .inl pr)), (b2, .inl (cA, 310, .inl vt))]) 0 ⟨hx, hb, hml, hown, hts⟩ (r_need l dC dI cA g0 b0 b1 b2 w pr vt k th H.size a ha1 ha0) (cwV 1 hts gL_law_X1_need rfl rfl rfl (by decide +kernel) ⟨Nat.le_of_ble_eq_true rfl, Nat.le_of_ble_eq_true rfl⟩) hP hK1 hD hS hA rfl rfl rfl rfl hl.1 rfl (Nat.le_of_ble_eq_true rfl) dL_law_208 (by show _ ≤ 1046; omega) (by show _ ≤ 8687; omega) (fun H locs hP hD hS => ?_)
  have hP : va_P (dC, dI) vwCl [(g0, .inr (1, [.ref b0, .ref b1, .ref b2, .int (nI a), .int 0])), (b0, .inl (cA, 10, .inl w)), (b1, .inl (cA, 10, .inl pr)), (b2, .inl (cA, 310, .inl vt)), (h0, .inr (0, [.ref a0, .ref a1, .ref a2, .ref a3, .int (nI a)])), (a0, .inl (cA, 10, .inl w)), (a1, .inl (cA, 10, .inl pr)), (a2, .inl (cA, 31, .inl vo)), (a3, .inl (cA, 31, .inl vf)), (o0, .inl (cL, 1, .inr (.inl (fun _ => k.toInt64))))] H := hP
  have hD : va_D (bb_A s) [(g0, .inr (1, [.ref b0, .ref b1, .ref b2, .int (nI a), .int 0])), (b0, .inl (cA, 10, .inl w)), (b1, .inl (cA, 10, .inl pr)), (b2, .inl (cA, 310, .inl vt)), (h0, .inr (0, [.ref a0, .ref a1, .ref a2, .ref a3, .int (nI a)])), (a0, .inl (cA, 10, .inl w)), (a1, .inl (cA, 10, .inl pr)), (a2, .inl (cA, 31, .inl vo)), (a3, .inl (cA, 31, .inl vf)), (o0, .inl (cL, 1, .inr (.inl (fun _ => k.toInt64))))] := hD
  refine lv_istore (lv' := [(6, .int k), (5, .int 0), (0, .ref b), (1, .ref h0), (2, .ref g0), (3, .ref o0), (4, .int (nI (4 * j)))]) hx hb dL_law_211 hl (by decide) rfl (fun ls hl => ?_)
  refine lv_aload_n hx hb dL_law_213 rfl (lv_at hl 4 rfl) ?_
  have hPm : va_P (dC, dI) vwCl [(g0, .inr (1, [.ref b0, .ref b1, .ref b2, .int (nI a), .int 0])), (b0, .inl (cA, 10, .inl w)), (b1, .inl (cA, 10, .inl pr)), (b2, .inl (cA, 310, .inl vt))] H := bb_Pmid (pre := []) (wc := [(g0, .inr (1, [.ref b0, .ref b1, .ref b2, .int (nI a), .int 0])), (b0, .inl (cA, 10, .inl w)), (b1, .inl (cA, 10, .inl pr)), (b2, .inl (cA, 310, .inl vt))]) (post := [(h0, .inr (0, [.ref a0, .ref a1, .ref a2, .ref a3, .int (nI a)])), (a0, .inl (cA, 10, .inl w)), (a1, .inl (cA, 10, .inl pr)), (a2, .inl (cA, 31, .inl vo)), (a3, .inl (cA, 31, .inl vf)), (o0, .inl (cL, 1, .inr (.inl (fun _ => k.toInt64))))]) hP
  refine bb_cV (As := []) (rest := []) (r := 0) 0 ⟨hx, hb, hml, hown, hts⟩ (m_thrown l dC dI cA g0 b0 b1 b2 w pr vt (nI a) 0) (cwV 0 hts gL_law_X1_thrown rfl rfl rfl (by decide +kernel) ⟨Nat.le_of_ble_eq_true rfl, Nat.le_of_ble_eq_true rfl⟩) hPm hK1 rfl rfl rfl hl.1 rfl (Nat.le_of_ble_eq_true rfl) dL_law_214 (by show _ ≤ 1046; omega) (by show _ ≤ 8687; omega) ?_
  refine lv_iload hx hb dL_law_217 (lv_at hl 1 rfl) ?_
  refine lv_icmp_eq (tgt := 224) hx hb dL_law_219 rfl (fun h219 => ?_) (fun h219 => absurd rfl h219)
  refine lv_iload hx hb dL_law_224 (lv_at hl 1 rfl) ?_
  refine lv_if_ne (tgt := 241) hx hb dL_law_226 rfl (fun h226 => absurd rfl h226) (fun h226 => ?_)
  refine lv_aload_n hx hb dL_law_229 rfl (lv_at hl 5 rfl) ?_
  refine lv_iconst (v := nI 0) hx hb dL_law_230 (by decide) ?_
  refine bb_lal hx hb hK hP 9 1 rfl rfl dL_law_231 ?_
  refine lv_iload hx hb dL_law_232 (lv_at hl 0 rfl) ?_
  refine lv_i2l (v := k.toInt64) hx hb dL_law_234 rfl ?_
  refine W.lcmp hx hb dL_law_235 ?_
  refine bb_topi (y := 0) (bb_cmp0 _) ?_
  refine lv_if_eq (tgt := 241) hx hb dL_law_236 rfl (fun h236 => ?_) (fun h236 => absurd rfl h236)
  refine lv_goto (tgt := 993) hx hb dL_law_241 rfl ?_
  refine W.widen (k := 11 + j) (n := 429 + 6 * j) (by omega) (by omega) ?_
  exact K _ _ _ _ _ _ _ _ _ _ _ (bb_ok_need hok ha1 ha0) hP hD hS (lv_sub hl [2, 3, 4, 5, 6] rfl)

set_option maxHeartbeats 4000000 in
set_option maxRecDepth 100000 in
theorem L_need1 {p : Program} {l : Launch} {e : Env} {s : State} {m : MethodId} {below : List Frame} {meth : Method} {c : Code} {Q : State → Prop} {b L : Nat} {xs : Nat → Int32} {dC : Nat → ClassId} {dI : Nat → Nat → Nat} {cA cL : ClassId} (X : bb_Cx p l s m c b L xs dC dI cA cL) {g0 b0 b1 b2 h0 a0 a1 a2 a3 o0 : Nat} {w pr vo vf vt : Nat → Int32} {k th : Int32} {fo : Nat → Int64} {H : Heap} {locs : List Loc} {ls : Array Slot} {j : Nat} (hj : 4 * j + 3 < L) (hok : bb_ok w k pr vo vf vt)
    (hP : va_P (dC, dI) vwCl (bb_F g0 b0 b1 b2 h0 a0 a1 a2 a3 o0 cA cL w pr vo vf vt k th fo) H) (hD : va_D (bb_A s) (bb_F g0 b0 b1 b2 h0 a0 a1 a2 a3 o0 cA cL w pr vo vf vt k th fo)) (hS : va_S (bb_A s) s.heap H locs) (hl : lv_has ls 7 (bb_ll b h0 g0 o0 j)) (K : bb_K p l e s m below meth c b dC dI cA cL g0 b0 b1 b2 h0 a0 a1 a2 a3 o0 j Q) (x0 : Int32) (hbad : x0 < nI 1 ∨ ¬ x0 ≤ nI 500) (e1 : xs (4 * j + 1) = x0) : W p l e room_1 s m #[Value.ref b] below meth c H locs (10 + j) (423 + 6 * j) Q (F0 m 188 ls []) := by
  obtain ⟨hx, hb, hml, hown, hts, hX, hbl, hK, hZ, htr, hL⟩ := X
  have hA : ∀ q : Nat, s.heap.size ≤ q → bb_A s q := fun _ h => h
  have hbA : ¬ bb_A s b := Nat.not_le.mpr hbl
  have hK1 := hK.sub [0] (tys' := [(cA, .int)]) rfl
  have hjb : j < 512 := by omega
  have hl : lv_has ls 7 [(0, .ref b), (1, .ref h0), (2, .ref g0), (3, .ref o0), (4, .int (nI (4 * j)))] := hl
  have hP : va_P (dC, dI) vwCl [(g0, .inr (1, [.ref b0, .ref b1, .ref b2, .int k, .int th])), (b0, .inl (cA, 10, .inl w)), (b1, .inl (cA, 10, .inl pr)), (b2, .inl (cA, 310, .inl vt)), (h0, .inr (0, [.ref a0, .ref a1, .ref a2, .ref a3, .int k])), (a0, .inl (cA, 10, .inl w)), (a1, .inl (cA, 10, .inl pr)), (a2, .inl (cA, 31, .inl vo)), (a3, .inl (cA, 31, .inl vf)), (o0, .inl (cL, 1, .inr (.inl fo)))] H := hP
  have hD : va_D (bb_A s) [(g0, .inr (1, [.ref b0, .ref b1, .ref b2, .int k, .int th])), (b0, .inl (cA, 10, .inl w)), (b1, .inl (cA, 10, .inl pr)), (b2, .inl (cA, 310, .inl vt)), (h0, .inr (0, [.ref a0, .ref a1, .ref a2, .ref a3, .int k])), (a0, .inl (cA, 10, .inl w)), (a1, .inl (cA, 10, .inl pr)), (a2, .inl (cA, 31, .inl vo)), (a3, .inl (cA, 31, .inl vf)), (o0, .inl (cL, 1, .inr (.inl fo)))] := hD
  refine lv_aload_n hx hb dL_law_188 rfl (lv_at hl 1 rfl) ?_
  refine lv_aload_n hx hb dL_law_189 rfl (lv_at hl 0 rfl) ?_
  refine lv_iload hx hb dL_law_190 (lv_at hl 4 rfl) ?_
  refine lv_iconst (v := 1) hx hb dL_law_192 (by decide) ?_
  refine lv_iadd hx hb dL_law_193 ?_
  refine bb_topi (y := nI (4 * j + 1)) (bb_add1 j) ?_
  refine bb_sld hx hb hX hbl hbA hS (4 * j + 1) (by omega) hL e1 dL_law_194 ?_
  refine lv_aload_n hx hb dL_law_195 rfl (lv_at hl 3 rfl) ?_
  refine bb_cWf (As := [.ref h0, .int x0, .ref o0]) (rest := []) (r := 1) (pre := [(g0, .inr (1, [.ref b0, .ref b1, .ref b2, .int k, .int th])), (b0, .inl (cA, 10, .inl w)), (b1, .inl (cA, 10, .inl pr)), (b2, .inl (cA, 310, .inl vt))]) (wc := [(h0, .inr (0, [.ref a0, .ref a1, .ref a2, .ref a3, .int k])), (a0, .inl (cA, 10, .inl w)), (a1, .inl (cA, 10, .inl pr)), (a2, .inl (cA, 31, .inl vo)), (a3, .inl (cA, 31, .inl vf)), (o0, .inl (cL, 1, .inr (.inl fo)))]) (wc' := [(h0, .inr (0, [.ref a0, .ref a1, .ref a2, .ref a3, .int k])), (a0, .inl (cA, 10, .inl w)), (a1, .inl (cA, 10, .inl pr)), (a2, .inl (cA, 31, .inl vo)), (a3, .inl (cA, 31, .inl vf)), (o0, .inl (cL, 1, .inr (.inl fo)))]) (post := []) (Px := fun U => bb_TS s.heap.size U) ⟨hx, hb, hml, hown, hts⟩ (w_need1 l htr s.heap.size dC dI cA cL h0 a0 a1 a2 a3 o0 w pr vo vf k fo H.size x0 hbad) (bb_cw 3 hts gL_law_L_need rfl rfl rfl gS_law_L_need gT_law_L_need gI_law_L_need (by decide +kernel) ⟨Nat.le_of_ble_eq_true rfl, Nat.le_of_ble_eq_true rfl⟩) (fun a9 U9 g9 m9 q9 => bb_TS.same (u := U9) (U := U9.calling g9 m9 a9) rfl rfl q9) (fun U9 hU9 hW9 => hZ.mv hW9 (fun x9 h9 => by rw [hU9]; exact hS.2.1 x9 h9 (Nat.not_le.mpr h9))) hP hK hD hS hA rfl rfl hl.1 rfl (Nat.le_of_ble_eq_true rfl) dL_law_196 (by show _ ≤ 1046; omega) (by show _ ≤ 8687; omega) (fun H locs hP hD hS => ?_)
  have hP : va_P (dC, dI) vwCl [(g0, .inr (1, [.ref b0, .ref b1, .ref b2, .int k, .int th])), (b0, .inl (cA, 10, .inl w)), (b1, .inl (cA, 10, .inl pr)), (b2, .inl (cA, 310, .inl vt)), (h0, .inr (0, [.ref a0, .ref a1, .ref a2, .ref a3, .int k])), (a0, .inl (cA, 10, .inl w)), (a1, .inl (cA, 10, .inl pr)), (a2, .inl (cA, 31, .inl vo)), (a3, .inl (cA, 31, .inl vf)), (o0, .inl (cL, 1, .inr (.inl fo)))] H := hP
  have hD : va_D (bb_A s) [(g0, .inr (1, [.ref b0, .ref b1, .ref b2, .int k, .int th])), (b0, .inl (cA, 10, .inl w)), (b1, .inl (cA, 10, .inl pr)), (b2, .inl (cA, 310, .inl vt)), (h0, .inr (0, [.ref a0, .ref a1, .ref a2, .ref a3, .int k])), (a0, .inl (cA, 10, .inl w)), (a1, .inl (cA, 10, .inl pr)), (a2, .inl (cA, 31, .inl vo)), (a3, .inl (cA, 31, .inl vf)), (o0, .inl (cL, 1, .inr (.inl fo)))] := hD
  refine lv_istore (lv' := [(5, .int 1), (0, .ref b), (1, .ref h0), (2, .ref g0), (3, .ref o0), (4, .int (nI (4 * j)))]) hx hb dL_law_199 hl (by decide) rfl (fun ls hl => ?_)
  refine lv_aload_n hx hb dL_law_201 rfl (lv_at hl 3 rfl) ?_
  refine lv_aload_n hx hb dL_law_202 rfl (lv_at hl 1 rfl) ?_
  refine lv_iload hx hb dL_law_203 (lv_at hl 5 rfl) ?_
  refine lv_iconst (v := 1) hx hb dL_law_205 (by decide) ?_
  refine lv_iadd hx hb dL_law_206 ?_
  refine bb_topi (y := nI (4 * j + 1)) (bb_add1 j) ?_
  refine bb_sld hx hb hX hbl hbA hS (4 * j + 1) (by omega) hL e1 dL_law_207 ?_
  refine bb_cVf (As := [.int x0]) (rest := []) (r := 0) (pre := []) (wc := [(g0, .inr (1, [.ref b0, .ref b1, .ref b2, .int k, .int th])), (b0, .inl (cA, 10, .inl w)), (b1, .inl (cA, 10, .inl pr)), (b2, .inl (cA, 310, .inl vt))]) (post := [(h0, .inr (0, [.ref a0, .ref a1, .ref a2, .ref a3, .int k])), (a0, .inl (cA, 10, .inl w)), (a1, .inl (cA, 10, .inl pr)), (a2, .inl (cA, 31, .inl vo)), (a3, .inl (cA, 31, .inl vf)), (o0, .inl (cL, 1, .inr (.inl fo)))]) (wc' := [(g0, .inr (1, [.ref b0, .ref b1, .ref b2, .int k, .int 1])), (b0, .inl (cA, 10, .inl w)), (b1, .inl (cA, 10, .inl pr)), (b2, .inl (cA, 310, .inl vt))]) 0 ⟨hx, hb, hml, hown, hts⟩ (r_need1 l dC dI cA g0 b0 b1 b2 w pr vt k th H.size x0 hbad) (cwV 1 hts gL_law_X1_need rfl rfl rfl (by decide +kernel) ⟨Nat.le_of_ble_eq_true rfl, Nat.le_of_ble_eq_true rfl⟩) hP hK1 hD hS hA rfl rfl rfl rfl hl.1 rfl (Nat.le_of_ble_eq_true rfl) dL_law_208 (by show _ ≤ 1046; omega) (by show _ ≤ 8687; omega) (fun H locs hP hD hS => ?_)
  have hP : va_P (dC, dI) vwCl [(g0, .inr (1, [.ref b0, .ref b1, .ref b2, .int k, .int 1])), (b0, .inl (cA, 10, .inl w)), (b1, .inl (cA, 10, .inl pr)), (b2, .inl (cA, 310, .inl vt)), (h0, .inr (0, [.ref a0, .ref a1, .ref a2, .ref a3, .int k])), (a0, .inl (cA, 10, .inl w)), (a1, .inl (cA, 10, .inl pr)), (a2, .inl (cA, 31, .inl vo)), (a3, .inl (cA, 31, .inl vf)), (o0, .inl (cL, 1, .inr (.inl fo)))] H := hP
  have hD : va_D (bb_A s) [(g0, .inr (1, [.ref b0, .ref b1, .ref b2, .int k, .int 1])), (b0, .inl (cA, 10, .inl w)), (b1, .inl (cA, 10, .inl pr)), (b2, .inl (cA, 310, .inl vt)), (h0, .inr (0, [.ref a0, .ref a1, .ref a2, .ref a3, .int k])), (a0, .inl (cA, 10, .inl w)), (a1, .inl (cA, 10, .inl pr)), (a2, .inl (cA, 31, .inl vo)), (a3, .inl (cA, 31, .inl vf)), (o0, .inl (cL, 1, .inr (.inl fo)))] := hD
  refine lv_istore (lv' := [(6, .int 0), (5, .int 1), (0, .ref b), (1, .ref h0), (2, .ref g0), (3, .ref o0), (4, .int (nI (4 * j)))]) hx hb dL_law_211 hl (by decide) rfl (fun ls hl => ?_)
  refine lv_aload_n hx hb dL_law_213 rfl (lv_at hl 4 rfl) ?_
  have hPm : va_P (dC, dI) vwCl [(g0, .inr (1, [.ref b0, .ref b1, .ref b2, .int k, .int 1])), (b0, .inl (cA, 10, .inl w)), (b1, .inl (cA, 10, .inl pr)), (b2, .inl (cA, 310, .inl vt))] H := bb_Pmid (pre := []) (wc := [(g0, .inr (1, [.ref b0, .ref b1, .ref b2, .int k, .int 1])), (b0, .inl (cA, 10, .inl w)), (b1, .inl (cA, 10, .inl pr)), (b2, .inl (cA, 310, .inl vt))]) (post := [(h0, .inr (0, [.ref a0, .ref a1, .ref a2, .ref a3, .int k])), (a0, .inl (cA, 10, .inl w)), (a1, .inl (cA, 10, .inl pr)), (a2, .inl (cA, 31, .inl vo)), (a3, .inl (cA, 31, .inl vf)), (o0, .inl (cL, 1, .inr (.inl fo)))]) hP
  refine bb_cV (As := []) (rest := []) (r := 1) 0 ⟨hx, hb, hml, hown, hts⟩ (m_thrown l dC dI cA g0 b0 b1 b2 w pr vt k 1) (cwV 0 hts gL_law_X1_thrown rfl rfl rfl (by decide +kernel) ⟨Nat.le_of_ble_eq_true rfl, Nat.le_of_ble_eq_true rfl⟩) hPm hK1 rfl rfl rfl hl.1 rfl (Nat.le_of_ble_eq_true rfl) dL_law_214 (by show _ ≤ 1046; omega) (by show _ ≤ 8687; omega) ?_
  refine lv_iload hx hb dL_law_217 (lv_at hl 1 rfl) ?_
  refine lv_icmp_eq (tgt := 224) hx hb dL_law_219 rfl (fun h219 => ?_) (fun h219 => absurd rfl h219)
  refine lv_iload hx hb dL_law_224 (lv_at hl 1 rfl) ?_
  refine lv_if_ne (tgt := 241) hx hb dL_law_226 rfl (fun h226 => ?_) (fun h226 => absurd h226 (by decide))
  refine lv_goto (tgt := 993) hx hb dL_law_241 rfl ?_
  refine W.widen (k := 11 + j) (n := 429 + 6 * j) (by omega) (by omega) ?_
  exact K _ _ _ _ _ _ _ _ _ _ _ (hok) hP hD hS (lv_sub hl [2, 3, 4, 5, 6] rfl)

set_option maxHeartbeats 4000000 in
set_option maxRecDepth 100000 in
theorem L_promise {p : Program} {l : Launch} {e : Env} {s : State} {m : MethodId} {below : List Frame} {meth : Method} {c : Code} {Q : State → Prop} {b L : Nat} {xs : Nat → Int32} {dC : Nat → ClassId} {dI : Nat → Nat → Nat} {cA cL : ClassId} (X : bb_Cx p l s m c b L xs dC dI cA cL) {g0 b0 b1 b2 h0 a0 a1 a2 a3 o0 : Nat} {w pr vo vf vt : Nat → Int32} {k th : Int32} {fo : Nat → Int64} {H : Heap} {locs : List Loc} {ls : Array Slot} {j : Nat} (hj : 4 * j + 3 < L) (hok : bb_ok w k pr vo vf vt)
    (hP : va_P (dC, dI) vwCl (bb_F g0 b0 b1 b2 h0 a0 a1 a2 a3 o0 cA cL w pr vo vf vt k th fo) H) (hD : va_D (bb_A s) (bb_F g0 b0 b1 b2 h0 a0 a1 a2 a3 o0 cA cL w pr vo vf vt k th fo)) (hS : va_S (bb_A s) s.heap H locs) (hl : lv_has ls 7 (bb_ll b h0 g0 o0 j)) (K : bb_K p l e s m below meth c b dC dI cA cL g0 b0 b1 b2 h0 a0 a1 a2 a3 o0 j Q) (n : Nat) (hn0 : n < 10) (b9 : Nat) (hb0 : b9 < 31) (hp : pr n ≤ nI b9) (e1 : xs (4 * j + 1) = nI n) (e2 : xs (4 * j + 2) = nI b9) : W p l e room_1 s m #[Value.ref b] below meth c H locs (10 + j) (423 + 6 * j) Q (F0 m 244 ls []) := by
  obtain ⟨hx, hb, hml, hown, hts, hX, hbl, hK, hZ, htr, hL⟩ := X
  have hA : ∀ q : Nat, s.heap.size ≤ q → bb_A s q := fun _ h => h
  have hbA : ¬ bb_A s b := Nat.not_le.mpr hbl
  have hK1 := hK.sub [0] (tys' := [(cA, .int)]) rfl
  have hjb : j < 512 := by omega
  have hl : lv_has ls 7 [(0, .ref b), (1, .ref h0), (2, .ref g0), (3, .ref o0), (4, .int (nI (4 * j)))] := hl
  have hP : va_P (dC, dI) vwCl [(g0, .inr (1, [.ref b0, .ref b1, .ref b2, .int k, .int th])), (b0, .inl (cA, 10, .inl w)), (b1, .inl (cA, 10, .inl pr)), (b2, .inl (cA, 310, .inl vt)), (h0, .inr (0, [.ref a0, .ref a1, .ref a2, .ref a3, .int k])), (a0, .inl (cA, 10, .inl w)), (a1, .inl (cA, 10, .inl pr)), (a2, .inl (cA, 31, .inl vo)), (a3, .inl (cA, 31, .inl vf)), (o0, .inl (cL, 1, .inr (.inl fo)))] H := hP
  have hD : va_D (bb_A s) [(g0, .inr (1, [.ref b0, .ref b1, .ref b2, .int k, .int th])), (b0, .inl (cA, 10, .inl w)), (b1, .inl (cA, 10, .inl pr)), (b2, .inl (cA, 310, .inl vt)), (h0, .inr (0, [.ref a0, .ref a1, .ref a2, .ref a3, .int k])), (a0, .inl (cA, 10, .inl w)), (a1, .inl (cA, 10, .inl pr)), (a2, .inl (cA, 31, .inl vo)), (a3, .inl (cA, 31, .inl vf)), (o0, .inl (cL, 1, .inr (.inl fo)))] := hD
  refine lv_aload_n hx hb dL_law_244 rfl (lv_at hl 1 rfl) ?_
  refine lv_aload_n hx hb dL_law_245 rfl (lv_at hl 0 rfl) ?_
  refine lv_iload hx hb dL_law_246 (lv_at hl 4 rfl) ?_
  refine lv_iconst (v := 1) hx hb dL_law_248 (by decide) ?_
  refine lv_iadd hx hb dL_law_249 ?_
  refine bb_topi (y := nI (4 * j + 1)) (bb_add1 j) ?_
  refine bb_sld hx hb hX hbl hbA hS (4 * j + 1) (by omega) hL e1 dL_law_250 ?_
  refine lv_aload_n hx hb dL_law_251 rfl (lv_at hl 0 rfl) ?_
  refine lv_iload hx hb dL_law_252 (lv_at hl 4 rfl) ?_
  refine lv_iconst (v := 2) hx hb dL_law_254 (by decide) ?_
  refine lv_iadd hx hb dL_law_255 ?_
  refine bb_topi (y := nI (4 * j + 2)) (bb_add2 j) ?_
  refine bb_sld hx hb hX hbl hbA hS (4 * j + 2) (by omega) hL e2 dL_law_256 ?_
  refine lv_aload_n hx hb dL_law_257 rfl (lv_at hl 3 rfl) ?_
  refine bb_cWf (As := [.ref h0, .int (nI n), .int (nI b9), .ref o0]) (rest := []) (r := 0) (pre := [(g0, .inr (1, [.ref b0, .ref b1, .ref b2, .int k, .int th])), (b0, .inl (cA, 10, .inl w)), (b1, .inl (cA, 10, .inl pr)), (b2, .inl (cA, 310, .inl vt))]) (wc := [(h0, .inr (0, [.ref a0, .ref a1, .ref a2, .ref a3, .int k])), (a0, .inl (cA, 10, .inl w)), (a1, .inl (cA, 10, .inl pr)), (a2, .inl (cA, 31, .inl vo)), (a3, .inl (cA, 31, .inl vf)), (o0, .inl (cL, 1, .inr (.inl fo)))]) (wc' := [(h0, .inr (0, [.ref a0, .ref a1, .ref a2, .ref a3, .int k])), (a0, .inl (cA, 10, .inl w)), (a1, .inl (cA, 10, .inl (upd pr n (nI b9)))), (a2, .inl (cA, 31, .inl vo)), (a3, .inl (cA, 31, .inl vf)), (o0, .inl (cL, 1, .inr (.inl (fun _ => (pr n).toInt64))))]) (post := []) (Px := fun _ => True) ⟨hx, hb, hml, hown, hts⟩ (w_promise l dC dI cA cL h0 a0 a1 a2 a3 o0 w pr vo vf k fo H.size n hn0 b9 hb0 hp) (bb_cw 4 hts gL_law_L_promise rfl rfl rfl gS_law_L_promise gT_law_L_promise gI_law_L_promise (by decide +kernel) ⟨Nat.le_of_ble_eq_true rfl, Nat.le_of_ble_eq_true rfl⟩) (fun _ _ _ _ _ => trivial) (fun _ _ _ => trivial) hP hK hD hS hA rfl rfl hl.1 rfl (Nat.le_of_ble_eq_true rfl) dL_law_258 (by show _ ≤ 1046; omega) (by show _ ≤ 8687; omega) (fun H locs hP hD hS => ?_)
  have hP : va_P (dC, dI) vwCl [(g0, .inr (1, [.ref b0, .ref b1, .ref b2, .int k, .int th])), (b0, .inl (cA, 10, .inl w)), (b1, .inl (cA, 10, .inl pr)), (b2, .inl (cA, 310, .inl vt)), (h0, .inr (0, [.ref a0, .ref a1, .ref a2, .ref a3, .int k])), (a0, .inl (cA, 10, .inl w)), (a1, .inl (cA, 10, .inl (upd pr n (nI b9)))), (a2, .inl (cA, 31, .inl vo)), (a3, .inl (cA, 31, .inl vf)), (o0, .inl (cL, 1, .inr (.inl (fun _ => (pr n).toInt64))))] H := hP
  have hD : va_D (bb_A s) [(g0, .inr (1, [.ref b0, .ref b1, .ref b2, .int k, .int th])), (b0, .inl (cA, 10, .inl w)), (b1, .inl (cA, 10, .inl pr)), (b2, .inl (cA, 310, .inl vt)), (h0, .inr (0, [.ref a0, .ref a1, .ref a2, .ref a3, .int k])), (a0, .inl (cA, 10, .inl w)), (a1, .inl (cA, 10, .inl (upd pr n (nI b9)))), (a2, .inl (cA, 31, .inl vo)), (a3, .inl (cA, 31, .inl vf)), (o0, .inl (cL, 1, .inr (.inl (fun _ => (pr n).toInt64))))] := hD
  refine lv_istore (lv' := [(5, .int 0), (0, .ref b), (1, .ref h0), (2, .ref g0), (3, .ref o0), (4, .int (nI (4 * j)))]) hx hb dL_law_261 hl (by decide) rfl (fun ls hl => ?_)
  refine lv_aload_n hx hb dL_law_263 rfl (lv_at hl 3 rfl) ?_
  refine lv_aload_n hx hb dL_law_264 rfl (lv_at hl 1 rfl) ?_
  refine lv_iload hx hb dL_law_265 (lv_at hl 5 rfl) ?_
  refine lv_iconst (v := 1) hx hb dL_law_267 (by decide) ?_
  refine lv_iadd hx hb dL_law_268 ?_
  refine bb_topi (y := nI (4 * j + 1)) (bb_add1 j) ?_
  refine bb_sld hx hb hX hbl hbA hS (4 * j + 1) (by omega) hL e1 dL_law_269 ?_
  refine lv_aload_n hx hb dL_law_270 rfl (lv_at hl 1 rfl) ?_
  refine lv_iload hx hb dL_law_271 (lv_at hl 5 rfl) ?_
  refine lv_iconst (v := 2) hx hb dL_law_273 (by decide) ?_
  refine lv_iadd hx hb dL_law_274 ?_
  refine bb_topi (y := nI (4 * j + 2)) (bb_add2 j) ?_
  refine bb_sld hx hb hX hbl hbA hS (4 * j + 2) (by omega) hL e2 dL_law_275 ?_
  refine bb_cVf (As := [.int (nI n), .int (nI b9)]) (rest := []) (r := pr n) (pre := []) (wc := [(g0, .inr (1, [.ref b0, .ref b1, .ref b2, .int k, .int th])), (b0, .inl (cA, 10, .inl w)), (b1, .inl (cA, 10, .inl pr)), (b2, .inl (cA, 310, .inl vt))]) (post := [(h0, .inr (0, [.ref a0, .ref a1, .ref a2, .ref a3, .int k])), (a0, .inl (cA, 10, .inl w)), (a1, .inl (cA, 10, .inl (upd pr n (nI b9)))), (a2, .inl (cA, 31, .inl vo)), (a3, .inl (cA, 31, .inl vf)), (o0, .inl (cL, 1, .inr (.inl (fun _ => (pr n).toInt64))))]) (wc' := [(g0, .inr (1, [.ref b0, .ref b1, .ref b2, .int k, .int 0])), (b0, .inl (cA, 10, .inl w)), (b1, .inl (cA, 10, .inl (upd pr n (nI b9)))), (b2, .inl (cA, 310, .inl vt))]) 0 ⟨hx, hb, hml, hown, hts⟩ (r_promise l dC dI cA g0 b0 b1 b2 w pr vt k th H.size n hn0 b9 hb0 hp) (cwV 2 hts gL_law_X1_promise rfl rfl rfl (by decide +kernel) ⟨Nat.le_of_ble_eq_true rfl, Nat.le_of_ble_eq_true rfl⟩) hP hK1 hD hS hA rfl rfl rfl rfl hl.1 rfl (Nat.le_of_ble_eq_true rfl) dL_law_276 (by show _ ≤ 1046; omega) (by show _ ≤ 8687; omega) (fun H locs hP hD hS => ?_)
  have hP : va_P (dC, dI) vwCl [(g0, .inr (1, [.ref b0, .ref b1, .ref b2, .int k, .int 0])), (b0, .inl (cA, 10, .inl w)), (b1, .inl (cA, 10, .inl (upd pr n (nI b9)))), (b2, .inl (cA, 310, .inl vt)), (h0, .inr (0, [.ref a0, .ref a1, .ref a2, .ref a3, .int k])), (a0, .inl (cA, 10, .inl w)), (a1, .inl (cA, 10, .inl (upd pr n (nI b9)))), (a2, .inl (cA, 31, .inl vo)), (a3, .inl (cA, 31, .inl vf)), (o0, .inl (cL, 1, .inr (.inl (fun _ => (pr n).toInt64))))] H := hP
  have hD : va_D (bb_A s) [(g0, .inr (1, [.ref b0, .ref b1, .ref b2, .int k, .int 0])), (b0, .inl (cA, 10, .inl w)), (b1, .inl (cA, 10, .inl (upd pr n (nI b9)))), (b2, .inl (cA, 310, .inl vt)), (h0, .inr (0, [.ref a0, .ref a1, .ref a2, .ref a3, .int k])), (a0, .inl (cA, 10, .inl w)), (a1, .inl (cA, 10, .inl (upd pr n (nI b9)))), (a2, .inl (cA, 31, .inl vo)), (a3, .inl (cA, 31, .inl vf)), (o0, .inl (cL, 1, .inr (.inl (fun _ => (pr n).toInt64))))] := hD
  refine lv_istore (lv' := [(6, .int (pr n)), (5, .int 0), (0, .ref b), (1, .ref h0), (2, .ref g0), (3, .ref o0), (4, .int (nI (4 * j)))]) hx hb dL_law_279 hl (by decide) rfl (fun ls hl => ?_)
  refine lv_aload_n hx hb dL_law_281 rfl (lv_at hl 4 rfl) ?_
  have hPm : va_P (dC, dI) vwCl [(g0, .inr (1, [.ref b0, .ref b1, .ref b2, .int k, .int 0])), (b0, .inl (cA, 10, .inl w)), (b1, .inl (cA, 10, .inl (upd pr n (nI b9)))), (b2, .inl (cA, 310, .inl vt))] H := bb_Pmid (pre := []) (wc := [(g0, .inr (1, [.ref b0, .ref b1, .ref b2, .int k, .int 0])), (b0, .inl (cA, 10, .inl w)), (b1, .inl (cA, 10, .inl (upd pr n (nI b9)))), (b2, .inl (cA, 310, .inl vt))]) (post := [(h0, .inr (0, [.ref a0, .ref a1, .ref a2, .ref a3, .int k])), (a0, .inl (cA, 10, .inl w)), (a1, .inl (cA, 10, .inl (upd pr n (nI b9)))), (a2, .inl (cA, 31, .inl vo)), (a3, .inl (cA, 31, .inl vf)), (o0, .inl (cL, 1, .inr (.inl (fun _ => (pr n).toInt64))))]) hP
  refine bb_cV (As := []) (rest := []) (r := 0) 0 ⟨hx, hb, hml, hown, hts⟩ (m_thrown l dC dI cA g0 b0 b1 b2 w (upd pr n (nI b9)) vt k 0) (cwV 0 hts gL_law_X1_thrown rfl rfl rfl (by decide +kernel) ⟨Nat.le_of_ble_eq_true rfl, Nat.le_of_ble_eq_true rfl⟩) hPm hK1 rfl rfl rfl hl.1 rfl (Nat.le_of_ble_eq_true rfl) dL_law_282 (by show _ ≤ 1046; omega) (by show _ ≤ 8687; omega) ?_
  refine lv_iload hx hb dL_law_285 (lv_at hl 1 rfl) ?_
  refine lv_icmp_eq (tgt := 292) hx hb dL_law_287 rfl (fun h287 => ?_) (fun h287 => absurd rfl h287)
  refine lv_iload hx hb dL_law_292 (lv_at hl 1 rfl) ?_
  refine lv_if_ne (tgt := 309) hx hb dL_law_294 rfl (fun h294 => absurd rfl h294) (fun h294 => ?_)
  refine lv_aload_n hx hb dL_law_297 rfl (lv_at hl 5 rfl) ?_
  refine lv_iconst (v := nI 0) hx hb dL_law_298 (by decide) ?_
  refine bb_lal hx hb hK hP 9 1 rfl rfl dL_law_299 ?_
  refine lv_iload hx hb dL_law_300 (lv_at hl 0 rfl) ?_
  refine lv_i2l (v := (pr n).toInt64) hx hb dL_law_302 rfl ?_
  refine W.lcmp hx hb dL_law_303 ?_
  refine bb_topi (y := 0) (bb_cmp0 _) ?_
  refine lv_if_eq (tgt := 309) hx hb dL_law_304 rfl (fun h304 => ?_) (fun h304 => absurd rfl h304)
  refine lv_goto (tgt := 993) hx hb dL_law_309 rfl ?_
  refine W.widen (k := 11 + j) (n := 429 + 6 * j) (by omega) (by omega) ?_
  exact K _ _ _ _ _ _ _ _ _ _ _ (bb_ok_promise hok hb0) hP hD hS (lv_sub hl [2, 3, 4, 5, 6] rfl)

set_option maxHeartbeats 4000000 in
set_option maxRecDepth 100000 in
theorem L_promise1 {p : Program} {l : Launch} {e : Env} {s : State} {m : MethodId} {below : List Frame} {meth : Method} {c : Code} {Q : State → Prop} {b L : Nat} {xs : Nat → Int32} {dC : Nat → ClassId} {dI : Nat → Nat → Nat} {cA cL : ClassId} (X : bb_Cx p l s m c b L xs dC dI cA cL) {g0 b0 b1 b2 h0 a0 a1 a2 a3 o0 : Nat} {w pr vo vf vt : Nat → Int32} {k th : Int32} {fo : Nat → Int64} {H : Heap} {locs : List Loc} {ls : Array Slot} {j : Nat} (hj : 4 * j + 3 < L) (hok : bb_ok w k pr vo vf vt)
    (hP : va_P (dC, dI) vwCl (bb_F g0 b0 b1 b2 h0 a0 a1 a2 a3 o0 cA cL w pr vo vf vt k th fo) H) (hD : va_D (bb_A s) (bb_F g0 b0 b1 b2 h0 a0 a1 a2 a3 o0 cA cL w pr vo vf vt k th fo)) (hS : va_S (bb_A s) s.heap H locs) (hl : lv_has ls 7 (bb_ll b h0 g0 o0 j)) (K : bb_K p l e s m below meth c b dC dI cA cL g0 b0 b1 b2 h0 a0 a1 a2 a3 o0 j Q) (x0 x1 : Int32) (hbad : (bb_out x0 (nI 10) || bb_out x1 (nI 31)) = true) (e1 : xs (4 * j + 1) = x0) (e2 : xs (4 * j + 2) = x1) : W p l e room_1 s m #[Value.ref b] below meth c H locs (10 + j) (423 + 6 * j) Q (F0 m 244 ls []) := by
  obtain ⟨hx, hb, hml, hown, hts, hX, hbl, hK, hZ, htr, hL⟩ := X
  have hA : ∀ q : Nat, s.heap.size ≤ q → bb_A s q := fun _ h => h
  have hbA : ¬ bb_A s b := Nat.not_le.mpr hbl
  have hK1 := hK.sub [0] (tys' := [(cA, .int)]) rfl
  have hjb : j < 512 := by omega
  have hl : lv_has ls 7 [(0, .ref b), (1, .ref h0), (2, .ref g0), (3, .ref o0), (4, .int (nI (4 * j)))] := hl
  have hP : va_P (dC, dI) vwCl [(g0, .inr (1, [.ref b0, .ref b1, .ref b2, .int k, .int th])), (b0, .inl (cA, 10, .inl w)), (b1, .inl (cA, 10, .inl pr)), (b2, .inl (cA, 310, .inl vt)), (h0, .inr (0, [.ref a0, .ref a1, .ref a2, .ref a3, .int k])), (a0, .inl (cA, 10, .inl w)), (a1, .inl (cA, 10, .inl pr)), (a2, .inl (cA, 31, .inl vo)), (a3, .inl (cA, 31, .inl vf)), (o0, .inl (cL, 1, .inr (.inl fo)))] H := hP
  have hD : va_D (bb_A s) [(g0, .inr (1, [.ref b0, .ref b1, .ref b2, .int k, .int th])), (b0, .inl (cA, 10, .inl w)), (b1, .inl (cA, 10, .inl pr)), (b2, .inl (cA, 310, .inl vt)), (h0, .inr (0, [.ref a0, .ref a1, .ref a2, .ref a3, .int k])), (a0, .inl (cA, 10, .inl w)), (a1, .inl (cA, 10, .inl pr)), (a2, .inl (cA, 31, .inl vo)), (a3, .inl (cA, 31, .inl vf)), (o0, .inl (cL, 1, .inr (.inl fo)))] := hD
  refine lv_aload_n hx hb dL_law_244 rfl (lv_at hl 1 rfl) ?_
  refine lv_aload_n hx hb dL_law_245 rfl (lv_at hl 0 rfl) ?_
  refine lv_iload hx hb dL_law_246 (lv_at hl 4 rfl) ?_
  refine lv_iconst (v := 1) hx hb dL_law_248 (by decide) ?_
  refine lv_iadd hx hb dL_law_249 ?_
  refine bb_topi (y := nI (4 * j + 1)) (bb_add1 j) ?_
  refine bb_sld hx hb hX hbl hbA hS (4 * j + 1) (by omega) hL e1 dL_law_250 ?_
  refine lv_aload_n hx hb dL_law_251 rfl (lv_at hl 0 rfl) ?_
  refine lv_iload hx hb dL_law_252 (lv_at hl 4 rfl) ?_
  refine lv_iconst (v := 2) hx hb dL_law_254 (by decide) ?_
  refine lv_iadd hx hb dL_law_255 ?_
  refine bb_topi (y := nI (4 * j + 2)) (bb_add2 j) ?_
  refine bb_sld hx hb hX hbl hbA hS (4 * j + 2) (by omega) hL e2 dL_law_256 ?_
  refine lv_aload_n hx hb dL_law_257 rfl (lv_at hl 3 rfl) ?_
  refine bb_cWf (As := [.ref h0, .int x0, .int x1, .ref o0]) (rest := []) (r := 1) (pre := [(g0, .inr (1, [.ref b0, .ref b1, .ref b2, .int k, .int th])), (b0, .inl (cA, 10, .inl w)), (b1, .inl (cA, 10, .inl pr)), (b2, .inl (cA, 310, .inl vt))]) (wc := [(h0, .inr (0, [.ref a0, .ref a1, .ref a2, .ref a3, .int k])), (a0, .inl (cA, 10, .inl w)), (a1, .inl (cA, 10, .inl pr)), (a2, .inl (cA, 31, .inl vo)), (a3, .inl (cA, 31, .inl vf)), (o0, .inl (cL, 1, .inr (.inl fo)))]) (wc' := [(h0, .inr (0, [.ref a0, .ref a1, .ref a2, .ref a3, .int k])), (a0, .inl (cA, 10, .inl w)), (a1, .inl (cA, 10, .inl pr)), (a2, .inl (cA, 31, .inl vo)), (a3, .inl (cA, 31, .inl vf)), (o0, .inl (cL, 1, .inr (.inl fo)))]) (post := []) (Px := fun U => bb_TS s.heap.size U) ⟨hx, hb, hml, hown, hts⟩ (w_promise1 l htr s.heap.size dC dI cA cL h0 a0 a1 a2 a3 o0 w pr vo vf k fo H.size x0 x1 hbad) (bb_cw 4 hts gL_law_L_promise rfl rfl rfl gS_law_L_promise gT_law_L_promise gI_law_L_promise (by decide +kernel) ⟨Nat.le_of_ble_eq_true rfl, Nat.le_of_ble_eq_true rfl⟩) (fun a9 U9 g9 m9 q9 => bb_TS.same (u := U9) (U := U9.calling g9 m9 a9) rfl rfl q9) (fun U9 hU9 hW9 => hZ.mv hW9 (fun x9 h9 => by rw [hU9]; exact hS.2.1 x9 h9 (Nat.not_le.mpr h9))) hP hK hD hS hA rfl rfl hl.1 rfl (Nat.le_of_ble_eq_true rfl) dL_law_258 (by show _ ≤ 1046; omega) (by show _ ≤ 8687; omega) (fun H locs hP hD hS => ?_)
  have hP : va_P (dC, dI) vwCl [(g0, .inr (1, [.ref b0, .ref b1, .ref b2, .int k, .int th])), (b0, .inl (cA, 10, .inl w)), (b1, .inl (cA, 10, .inl pr)), (b2, .inl (cA, 310, .inl vt)), (h0, .inr (0, [.ref a0, .ref a1, .ref a2, .ref a3, .int k])), (a0, .inl (cA, 10, .inl w)), (a1, .inl (cA, 10, .inl pr)), (a2, .inl (cA, 31, .inl vo)), (a3, .inl (cA, 31, .inl vf)), (o0, .inl (cL, 1, .inr (.inl fo)))] H := hP
  have hD : va_D (bb_A s) [(g0, .inr (1, [.ref b0, .ref b1, .ref b2, .int k, .int th])), (b0, .inl (cA, 10, .inl w)), (b1, .inl (cA, 10, .inl pr)), (b2, .inl (cA, 310, .inl vt)), (h0, .inr (0, [.ref a0, .ref a1, .ref a2, .ref a3, .int k])), (a0, .inl (cA, 10, .inl w)), (a1, .inl (cA, 10, .inl pr)), (a2, .inl (cA, 31, .inl vo)), (a3, .inl (cA, 31, .inl vf)), (o0, .inl (cL, 1, .inr (.inl fo)))] := hD
  refine lv_istore (lv' := [(5, .int 1), (0, .ref b), (1, .ref h0), (2, .ref g0), (3, .ref o0), (4, .int (nI (4 * j)))]) hx hb dL_law_261 hl (by decide) rfl (fun ls hl => ?_)
  refine lv_aload_n hx hb dL_law_263 rfl (lv_at hl 3 rfl) ?_
  refine lv_aload_n hx hb dL_law_264 rfl (lv_at hl 1 rfl) ?_
  refine lv_iload hx hb dL_law_265 (lv_at hl 5 rfl) ?_
  refine lv_iconst (v := 1) hx hb dL_law_267 (by decide) ?_
  refine lv_iadd hx hb dL_law_268 ?_
  refine bb_topi (y := nI (4 * j + 1)) (bb_add1 j) ?_
  refine bb_sld hx hb hX hbl hbA hS (4 * j + 1) (by omega) hL e1 dL_law_269 ?_
  refine lv_aload_n hx hb dL_law_270 rfl (lv_at hl 1 rfl) ?_
  refine lv_iload hx hb dL_law_271 (lv_at hl 5 rfl) ?_
  refine lv_iconst (v := 2) hx hb dL_law_273 (by decide) ?_
  refine lv_iadd hx hb dL_law_274 ?_
  refine bb_topi (y := nI (4 * j + 2)) (bb_add2 j) ?_
  refine bb_sld hx hb hX hbl hbA hS (4 * j + 2) (by omega) hL e2 dL_law_275 ?_
  refine bb_cVf (As := [.int x0, .int x1]) (rest := []) (r := 0) (pre := []) (wc := [(g0, .inr (1, [.ref b0, .ref b1, .ref b2, .int k, .int th])), (b0, .inl (cA, 10, .inl w)), (b1, .inl (cA, 10, .inl pr)), (b2, .inl (cA, 310, .inl vt))]) (post := [(h0, .inr (0, [.ref a0, .ref a1, .ref a2, .ref a3, .int k])), (a0, .inl (cA, 10, .inl w)), (a1, .inl (cA, 10, .inl pr)), (a2, .inl (cA, 31, .inl vo)), (a3, .inl (cA, 31, .inl vf)), (o0, .inl (cL, 1, .inr (.inl fo)))]) (wc' := [(g0, .inr (1, [.ref b0, .ref b1, .ref b2, .int k, .int 1])), (b0, .inl (cA, 10, .inl w)), (b1, .inl (cA, 10, .inl pr)), (b2, .inl (cA, 310, .inl vt))]) 0 ⟨hx, hb, hml, hown, hts⟩ (r_promise1 l dC dI cA g0 b0 b1 b2 w pr vt k th H.size x0 x1 hbad) (cwV 2 hts gL_law_X1_promise rfl rfl rfl (by decide +kernel) ⟨Nat.le_of_ble_eq_true rfl, Nat.le_of_ble_eq_true rfl⟩) hP hK1 hD hS hA rfl rfl rfl rfl hl.1 rfl (Nat.le_of_ble_eq_true rfl) dL_law_276 (by show _ ≤ 1046; omega) (by show _ ≤ 8687; omega) (fun H locs hP hD hS => ?_)
  have hP : va_P (dC, dI) vwCl [(g0, .inr (1, [.ref b0, .ref b1, .ref b2, .int k, .int 1])), (b0, .inl (cA, 10, .inl w)), (b1, .inl (cA, 10, .inl pr)), (b2, .inl (cA, 310, .inl vt)), (h0, .inr (0, [.ref a0, .ref a1, .ref a2, .ref a3, .int k])), (a0, .inl (cA, 10, .inl w)), (a1, .inl (cA, 10, .inl pr)), (a2, .inl (cA, 31, .inl vo)), (a3, .inl (cA, 31, .inl vf)), (o0, .inl (cL, 1, .inr (.inl fo)))] H := hP
  have hD : va_D (bb_A s) [(g0, .inr (1, [.ref b0, .ref b1, .ref b2, .int k, .int 1])), (b0, .inl (cA, 10, .inl w)), (b1, .inl (cA, 10, .inl pr)), (b2, .inl (cA, 310, .inl vt)), (h0, .inr (0, [.ref a0, .ref a1, .ref a2, .ref a3, .int k])), (a0, .inl (cA, 10, .inl w)), (a1, .inl (cA, 10, .inl pr)), (a2, .inl (cA, 31, .inl vo)), (a3, .inl (cA, 31, .inl vf)), (o0, .inl (cL, 1, .inr (.inl fo)))] := hD
  refine lv_istore (lv' := [(6, .int 0), (5, .int 1), (0, .ref b), (1, .ref h0), (2, .ref g0), (3, .ref o0), (4, .int (nI (4 * j)))]) hx hb dL_law_279 hl (by decide) rfl (fun ls hl => ?_)
  refine lv_aload_n hx hb dL_law_281 rfl (lv_at hl 4 rfl) ?_
  have hPm : va_P (dC, dI) vwCl [(g0, .inr (1, [.ref b0, .ref b1, .ref b2, .int k, .int 1])), (b0, .inl (cA, 10, .inl w)), (b1, .inl (cA, 10, .inl pr)), (b2, .inl (cA, 310, .inl vt))] H := bb_Pmid (pre := []) (wc := [(g0, .inr (1, [.ref b0, .ref b1, .ref b2, .int k, .int 1])), (b0, .inl (cA, 10, .inl w)), (b1, .inl (cA, 10, .inl pr)), (b2, .inl (cA, 310, .inl vt))]) (post := [(h0, .inr (0, [.ref a0, .ref a1, .ref a2, .ref a3, .int k])), (a0, .inl (cA, 10, .inl w)), (a1, .inl (cA, 10, .inl pr)), (a2, .inl (cA, 31, .inl vo)), (a3, .inl (cA, 31, .inl vf)), (o0, .inl (cL, 1, .inr (.inl fo)))]) hP
  refine bb_cV (As := []) (rest := []) (r := 1) 0 ⟨hx, hb, hml, hown, hts⟩ (m_thrown l dC dI cA g0 b0 b1 b2 w pr vt k 1) (cwV 0 hts gL_law_X1_thrown rfl rfl rfl (by decide +kernel) ⟨Nat.le_of_ble_eq_true rfl, Nat.le_of_ble_eq_true rfl⟩) hPm hK1 rfl rfl rfl hl.1 rfl (Nat.le_of_ble_eq_true rfl) dL_law_282 (by show _ ≤ 1046; omega) (by show _ ≤ 8687; omega) ?_
  refine lv_iload hx hb dL_law_285 (lv_at hl 1 rfl) ?_
  refine lv_icmp_eq (tgt := 292) hx hb dL_law_287 rfl (fun h287 => ?_) (fun h287 => absurd rfl h287)
  refine lv_iload hx hb dL_law_292 (lv_at hl 1 rfl) ?_
  refine lv_if_ne (tgt := 309) hx hb dL_law_294 rfl (fun h294 => ?_) (fun h294 => absurd h294 (by decide))
  refine lv_goto (tgt := 993) hx hb dL_law_309 rfl ?_
  refine W.widen (k := 11 + j) (n := 429 + 6 * j) (by omega) (by omega) ?_
  exact K _ _ _ _ _ _ _ _ _ _ _ (hok) hP hD hS (lv_sub hl [2, 3, 4, 5, 6] rfl)

set_option maxHeartbeats 4000000 in
set_option maxRecDepth 100000 in
theorem L_promise2 {p : Program} {l : Launch} {e : Env} {s : State} {m : MethodId} {below : List Frame} {meth : Method} {c : Code} {Q : State → Prop} {b L : Nat} {xs : Nat → Int32} {dC : Nat → ClassId} {dI : Nat → Nat → Nat} {cA cL : ClassId} (X : bb_Cx p l s m c b L xs dC dI cA cL) {g0 b0 b1 b2 h0 a0 a1 a2 a3 o0 : Nat} {w pr vo vf vt : Nat → Int32} {k th : Int32} {fo : Nat → Int64} {H : Heap} {locs : List Loc} {ls : Array Slot} {j : Nat} (hj : 4 * j + 3 < L) (hok : bb_ok w k pr vo vf vt)
    (hP : va_P (dC, dI) vwCl (bb_F g0 b0 b1 b2 h0 a0 a1 a2 a3 o0 cA cL w pr vo vf vt k th fo) H) (hD : va_D (bb_A s) (bb_F g0 b0 b1 b2 h0 a0 a1 a2 a3 o0 cA cL w pr vo vf vt k th fo)) (hS : va_S (bb_A s) s.heap H locs) (hl : lv_has ls 7 (bb_ll b h0 g0 o0 j)) (K : bb_K p l e s m below meth c b dC dI cA cL g0 b0 b1 b2 h0 a0 a1 a2 a3 o0 j Q) (n : Nat) (hn0 : n < 10) (b9 : Nat) (hb0 : b9 < 31) (hp : ¬ pr n ≤ nI b9) (e1 : xs (4 * j + 1) = nI n) (e2 : xs (4 * j + 2) = nI b9) : W p l e room_1 s m #[Value.ref b] below meth c H locs (10 + j) (423 + 6 * j) Q (F0 m 244 ls []) := by
  obtain ⟨hx, hb, hml, hown, hts, hX, hbl, hK, hZ, htr, hL⟩ := X
  have hA : ∀ q : Nat, s.heap.size ≤ q → bb_A s q := fun _ h => h
  have hbA : ¬ bb_A s b := Nat.not_le.mpr hbl
  have hK1 := hK.sub [0] (tys' := [(cA, .int)]) rfl
  have hjb : j < 512 := by omega
  have hl : lv_has ls 7 [(0, .ref b), (1, .ref h0), (2, .ref g0), (3, .ref o0), (4, .int (nI (4 * j)))] := hl
  have hP : va_P (dC, dI) vwCl [(g0, .inr (1, [.ref b0, .ref b1, .ref b2, .int k, .int th])), (b0, .inl (cA, 10, .inl w)), (b1, .inl (cA, 10, .inl pr)), (b2, .inl (cA, 310, .inl vt)), (h0, .inr (0, [.ref a0, .ref a1, .ref a2, .ref a3, .int k])), (a0, .inl (cA, 10, .inl w)), (a1, .inl (cA, 10, .inl pr)), (a2, .inl (cA, 31, .inl vo)), (a3, .inl (cA, 31, .inl vf)), (o0, .inl (cL, 1, .inr (.inl fo)))] H := hP
  have hD : va_D (bb_A s) [(g0, .inr (1, [.ref b0, .ref b1, .ref b2, .int k, .int th])), (b0, .inl (cA, 10, .inl w)), (b1, .inl (cA, 10, .inl pr)), (b2, .inl (cA, 310, .inl vt)), (h0, .inr (0, [.ref a0, .ref a1, .ref a2, .ref a3, .int k])), (a0, .inl (cA, 10, .inl w)), (a1, .inl (cA, 10, .inl pr)), (a2, .inl (cA, 31, .inl vo)), (a3, .inl (cA, 31, .inl vf)), (o0, .inl (cL, 1, .inr (.inl fo)))] := hD
  refine lv_aload_n hx hb dL_law_244 rfl (lv_at hl 1 rfl) ?_
  refine lv_aload_n hx hb dL_law_245 rfl (lv_at hl 0 rfl) ?_
  refine lv_iload hx hb dL_law_246 (lv_at hl 4 rfl) ?_
  refine lv_iconst (v := 1) hx hb dL_law_248 (by decide) ?_
  refine lv_iadd hx hb dL_law_249 ?_
  refine bb_topi (y := nI (4 * j + 1)) (bb_add1 j) ?_
  refine bb_sld hx hb hX hbl hbA hS (4 * j + 1) (by omega) hL e1 dL_law_250 ?_
  refine lv_aload_n hx hb dL_law_251 rfl (lv_at hl 0 rfl) ?_
  refine lv_iload hx hb dL_law_252 (lv_at hl 4 rfl) ?_
  refine lv_iconst (v := 2) hx hb dL_law_254 (by decide) ?_
  refine lv_iadd hx hb dL_law_255 ?_
  refine bb_topi (y := nI (4 * j + 2)) (bb_add2 j) ?_
  refine bb_sld hx hb hX hbl hbA hS (4 * j + 2) (by omega) hL e2 dL_law_256 ?_
  refine lv_aload_n hx hb dL_law_257 rfl (lv_at hl 3 rfl) ?_
  refine bb_cWf (As := [.ref h0, .int (nI n), .int (nI b9), .ref o0]) (rest := []) (r := 2) (pre := [(g0, .inr (1, [.ref b0, .ref b1, .ref b2, .int k, .int th])), (b0, .inl (cA, 10, .inl w)), (b1, .inl (cA, 10, .inl pr)), (b2, .inl (cA, 310, .inl vt))]) (wc := [(h0, .inr (0, [.ref a0, .ref a1, .ref a2, .ref a3, .int k])), (a0, .inl (cA, 10, .inl w)), (a1, .inl (cA, 10, .inl pr)), (a2, .inl (cA, 31, .inl vo)), (a3, .inl (cA, 31, .inl vf)), (o0, .inl (cL, 1, .inr (.inl fo)))]) (wc' := [(h0, .inr (0, [.ref a0, .ref a1, .ref a2, .ref a3, .int k])), (a0, .inl (cA, 10, .inl w)), (a1, .inl (cA, 10, .inl pr)), (a2, .inl (cA, 31, .inl vo)), (a3, .inl (cA, 31, .inl vf)), (o0, .inl (cL, 1, .inr (.inl fo)))]) (post := []) (Px := fun U => bb_TS s.heap.size U) ⟨hx, hb, hml, hown, hts⟩ (w_promise2 l htr s.heap.size dC dI cA cL h0 a0 a1 a2 a3 o0 w pr vo vf k fo H.size n hn0 b9 hb0 hp) (bb_cw 4 hts gL_law_L_promise rfl rfl rfl gS_law_L_promise gT_law_L_promise gI_law_L_promise (by decide +kernel) ⟨Nat.le_of_ble_eq_true rfl, Nat.le_of_ble_eq_true rfl⟩) (fun a9 U9 g9 m9 q9 => bb_TS.same (u := U9) (U := U9.calling g9 m9 a9) rfl rfl q9) (fun U9 hU9 hW9 => hZ.mv hW9 (fun x9 h9 => by rw [hU9]; exact hS.2.1 x9 h9 (Nat.not_le.mpr h9))) hP hK hD hS hA rfl rfl hl.1 rfl (Nat.le_of_ble_eq_true rfl) dL_law_258 (by show _ ≤ 1046; omega) (by show _ ≤ 8687; omega) (fun H locs hP hD hS => ?_)
  have hP : va_P (dC, dI) vwCl [(g0, .inr (1, [.ref b0, .ref b1, .ref b2, .int k, .int th])), (b0, .inl (cA, 10, .inl w)), (b1, .inl (cA, 10, .inl pr)), (b2, .inl (cA, 310, .inl vt)), (h0, .inr (0, [.ref a0, .ref a1, .ref a2, .ref a3, .int k])), (a0, .inl (cA, 10, .inl w)), (a1, .inl (cA, 10, .inl pr)), (a2, .inl (cA, 31, .inl vo)), (a3, .inl (cA, 31, .inl vf)), (o0, .inl (cL, 1, .inr (.inl fo)))] H := hP
  have hD : va_D (bb_A s) [(g0, .inr (1, [.ref b0, .ref b1, .ref b2, .int k, .int th])), (b0, .inl (cA, 10, .inl w)), (b1, .inl (cA, 10, .inl pr)), (b2, .inl (cA, 310, .inl vt)), (h0, .inr (0, [.ref a0, .ref a1, .ref a2, .ref a3, .int k])), (a0, .inl (cA, 10, .inl w)), (a1, .inl (cA, 10, .inl pr)), (a2, .inl (cA, 31, .inl vo)), (a3, .inl (cA, 31, .inl vf)), (o0, .inl (cL, 1, .inr (.inl fo)))] := hD
  refine lv_istore (lv' := [(5, .int 2), (0, .ref b), (1, .ref h0), (2, .ref g0), (3, .ref o0), (4, .int (nI (4 * j)))]) hx hb dL_law_261 hl (by decide) rfl (fun ls hl => ?_)
  refine lv_aload_n hx hb dL_law_263 rfl (lv_at hl 3 rfl) ?_
  refine lv_aload_n hx hb dL_law_264 rfl (lv_at hl 1 rfl) ?_
  refine lv_iload hx hb dL_law_265 (lv_at hl 5 rfl) ?_
  refine lv_iconst (v := 1) hx hb dL_law_267 (by decide) ?_
  refine lv_iadd hx hb dL_law_268 ?_
  refine bb_topi (y := nI (4 * j + 1)) (bb_add1 j) ?_
  refine bb_sld hx hb hX hbl hbA hS (4 * j + 1) (by omega) hL e1 dL_law_269 ?_
  refine lv_aload_n hx hb dL_law_270 rfl (lv_at hl 1 rfl) ?_
  refine lv_iload hx hb dL_law_271 (lv_at hl 5 rfl) ?_
  refine lv_iconst (v := 2) hx hb dL_law_273 (by decide) ?_
  refine lv_iadd hx hb dL_law_274 ?_
  refine bb_topi (y := nI (4 * j + 2)) (bb_add2 j) ?_
  refine bb_sld hx hb hX hbl hbA hS (4 * j + 2) (by omega) hL e2 dL_law_275 ?_
  refine bb_cVf (As := [.int (nI n), .int (nI b9)]) (rest := []) (r := 0) (pre := []) (wc := [(g0, .inr (1, [.ref b0, .ref b1, .ref b2, .int k, .int th])), (b0, .inl (cA, 10, .inl w)), (b1, .inl (cA, 10, .inl pr)), (b2, .inl (cA, 310, .inl vt))]) (post := [(h0, .inr (0, [.ref a0, .ref a1, .ref a2, .ref a3, .int k])), (a0, .inl (cA, 10, .inl w)), (a1, .inl (cA, 10, .inl pr)), (a2, .inl (cA, 31, .inl vo)), (a3, .inl (cA, 31, .inl vf)), (o0, .inl (cL, 1, .inr (.inl fo)))]) (wc' := [(g0, .inr (1, [.ref b0, .ref b1, .ref b2, .int k, .int 2])), (b0, .inl (cA, 10, .inl w)), (b1, .inl (cA, 10, .inl pr)), (b2, .inl (cA, 310, .inl vt))]) 0 ⟨hx, hb, hml, hown, hts⟩ (r_promise2 l dC dI cA g0 b0 b1 b2 w pr vt k th H.size n hn0 b9 hb0 hp) (cwV 2 hts gL_law_X1_promise rfl rfl rfl (by decide +kernel) ⟨Nat.le_of_ble_eq_true rfl, Nat.le_of_ble_eq_true rfl⟩) hP hK1 hD hS hA rfl rfl rfl rfl hl.1 rfl (Nat.le_of_ble_eq_true rfl) dL_law_276 (by show _ ≤ 1046; omega) (by show _ ≤ 8687; omega) (fun H locs hP hD hS => ?_)
  have hP : va_P (dC, dI) vwCl [(g0, .inr (1, [.ref b0, .ref b1, .ref b2, .int k, .int 2])), (b0, .inl (cA, 10, .inl w)), (b1, .inl (cA, 10, .inl pr)), (b2, .inl (cA, 310, .inl vt)), (h0, .inr (0, [.ref a0, .ref a1, .ref a2, .ref a3, .int k])), (a0, .inl (cA, 10, .inl w)), (a1, .inl (cA, 10, .inl pr)), (a2, .inl (cA, 31, .inl vo)), (a3, .inl (cA, 31, .inl vf)), (o0, .inl (cL, 1, .inr (.inl fo)))] H := hP
  have hD : va_D (bb_A s) [(g0, .inr (1, [.ref b0, .ref b1, .ref b2, .int k, .int 2])), (b0, .inl (cA, 10, .inl w)), (b1, .inl (cA, 10, .inl pr)), (b2, .inl (cA, 310, .inl vt)), (h0, .inr (0, [.ref a0, .ref a1, .ref a2, .ref a3, .int k])), (a0, .inl (cA, 10, .inl w)), (a1, .inl (cA, 10, .inl pr)), (a2, .inl (cA, 31, .inl vo)), (a3, .inl (cA, 31, .inl vf)), (o0, .inl (cL, 1, .inr (.inl fo)))] := hD
  refine lv_istore (lv' := [(6, .int 0), (5, .int 2), (0, .ref b), (1, .ref h0), (2, .ref g0), (3, .ref o0), (4, .int (nI (4 * j)))]) hx hb dL_law_279 hl (by decide) rfl (fun ls hl => ?_)
  refine lv_aload_n hx hb dL_law_281 rfl (lv_at hl 4 rfl) ?_
  have hPm : va_P (dC, dI) vwCl [(g0, .inr (1, [.ref b0, .ref b1, .ref b2, .int k, .int 2])), (b0, .inl (cA, 10, .inl w)), (b1, .inl (cA, 10, .inl pr)), (b2, .inl (cA, 310, .inl vt))] H := bb_Pmid (pre := []) (wc := [(g0, .inr (1, [.ref b0, .ref b1, .ref b2, .int k, .int 2])), (b0, .inl (cA, 10, .inl w)), (b1, .inl (cA, 10, .inl pr)), (b2, .inl (cA, 310, .inl vt))]) (post := [(h0, .inr (0, [.ref a0, .ref a1, .ref a2, .ref a3, .int k])), (a0, .inl (cA, 10, .inl w)), (a1, .inl (cA, 10, .inl pr)), (a2, .inl (cA, 31, .inl vo)), (a3, .inl (cA, 31, .inl vf)), (o0, .inl (cL, 1, .inr (.inl fo)))]) hP
  refine bb_cV (As := []) (rest := []) (r := 2) 0 ⟨hx, hb, hml, hown, hts⟩ (m_thrown l dC dI cA g0 b0 b1 b2 w pr vt k 2) (cwV 0 hts gL_law_X1_thrown rfl rfl rfl (by decide +kernel) ⟨Nat.le_of_ble_eq_true rfl, Nat.le_of_ble_eq_true rfl⟩) hPm hK1 rfl rfl rfl hl.1 rfl (Nat.le_of_ble_eq_true rfl) dL_law_282 (by show _ ≤ 1046; omega) (by show _ ≤ 8687; omega) ?_
  refine lv_iload hx hb dL_law_285 (lv_at hl 1 rfl) ?_
  refine lv_icmp_eq (tgt := 292) hx hb dL_law_287 rfl (fun h287 => ?_) (fun h287 => absurd rfl h287)
  refine lv_iload hx hb dL_law_292 (lv_at hl 1 rfl) ?_
  refine lv_if_ne (tgt := 309) hx hb dL_law_294 rfl (fun h294 => ?_) (fun h294 => absurd h294 (by decide))
  refine lv_goto (tgt := 993) hx hb dL_law_309 rfl ?_
  refine W.widen (k := 11 + j) (n := 429 + 6 * j) (by omega) (by omega) ?_
  exact K _ _ _ _ _ _ _ _ _ _ _ (hok) hP hD hS (lv_sub hl [2, 3, 4, 5, 6] rfl)

set_option maxHeartbeats 4000000 in
set_option maxRecDepth 100000 in
theorem L_vote {p : Program} {l : Launch} {e : Env} {s : State} {m : MethodId} {below : List Frame} {meth : Method} {c : Code} {Q : State → Prop} {b L : Nat} {xs : Nat → Int32} {dC : Nat → ClassId} {dI : Nat → Nat → Nat} {cA cL : ClassId} (X : bb_Cx p l s m c b L xs dC dI cA cL) {g0 b0 b1 b2 h0 a0 a1 a2 a3 o0 : Nat} {w pr vo vf vt : Nat → Int32} {k th : Int32} {fo : Nat → Int64} {H : Heap} {locs : List Loc} {ls : Array Slot} {j : Nat} (hj : 4 * j + 3 < L) (hok : bb_ok w k pr vo vf vt)
    (hP : va_P (dC, dI) vwCl (bb_F g0 b0 b1 b2 h0 a0 a1 a2 a3 o0 cA cL w pr vo vf vt k th fo) H) (hD : va_D (bb_A s) (bb_F g0 b0 b1 b2 h0 a0 a1 a2 a3 o0 cA cL w pr vo vf vt k th fo)) (hS : va_S (bb_A s) s.heap H locs) (hl : lv_has ls 7 (bb_ll b h0 g0 o0 j)) (K : bb_K p l e s m below meth c b dC dI cA cL g0 b0 b1 b2 h0 a0 a1 a2 a3 o0 j Q) (n : Nat) (hn0 : n < 10) (b9 : Nat) (hb0 : b9 < 31) (v : Nat) (hv0 : v < 10) (hop : bb_op pr vo b9 n = true) (hon : bb_only vf b9 (nI v) = true) (e1 : xs (4 * j + 1) = nI n) (e2 : xs (4 * j + 2) = nI b9) (e3 : xs (4 * j + 3) = nI v) : W p l e room_1 s m #[Value.ref b] below meth c H locs (10 + j) (423 + 6 * j) Q (F0 m 312 ls []) := by
  obtain ⟨hx, hb, hml, hown, hts, hX, hbl, hK, hZ, htr, hL⟩ := X
  have hA : ∀ q : Nat, s.heap.size ≤ q → bb_A s q := fun _ h => h
  have hbA : ¬ bb_A s b := Nat.not_le.mpr hbl
  have hK1 := hK.sub [0] (tys' := [(cA, .int)]) rfl
  have hjb : j < 512 := by omega
  have hl : lv_has ls 7 [(0, .ref b), (1, .ref h0), (2, .ref g0), (3, .ref o0), (4, .int (nI (4 * j)))] := hl
  have hP : va_P (dC, dI) vwCl [(g0, .inr (1, [.ref b0, .ref b1, .ref b2, .int k, .int th])), (b0, .inl (cA, 10, .inl w)), (b1, .inl (cA, 10, .inl pr)), (b2, .inl (cA, 310, .inl vt)), (h0, .inr (0, [.ref a0, .ref a1, .ref a2, .ref a3, .int k])), (a0, .inl (cA, 10, .inl w)), (a1, .inl (cA, 10, .inl pr)), (a2, .inl (cA, 31, .inl vo)), (a3, .inl (cA, 31, .inl vf)), (o0, .inl (cL, 1, .inr (.inl fo)))] H := hP
  have hD : va_D (bb_A s) [(g0, .inr (1, [.ref b0, .ref b1, .ref b2, .int k, .int th])), (b0, .inl (cA, 10, .inl w)), (b1, .inl (cA, 10, .inl pr)), (b2, .inl (cA, 310, .inl vt)), (h0, .inr (0, [.ref a0, .ref a1, .ref a2, .ref a3, .int k])), (a0, .inl (cA, 10, .inl w)), (a1, .inl (cA, 10, .inl pr)), (a2, .inl (cA, 31, .inl vo)), (a3, .inl (cA, 31, .inl vf)), (o0, .inl (cL, 1, .inr (.inl fo)))] := hD
  refine lv_aload_n hx hb dL_law_312 rfl (lv_at hl 1 rfl) ?_
  refine lv_aload_n hx hb dL_law_313 rfl (lv_at hl 0 rfl) ?_
  refine lv_iload hx hb dL_law_314 (lv_at hl 4 rfl) ?_
  refine lv_iconst (v := 1) hx hb dL_law_316 (by decide) ?_
  refine lv_iadd hx hb dL_law_317 ?_
  refine bb_topi (y := nI (4 * j + 1)) (bb_add1 j) ?_
  refine bb_sld hx hb hX hbl hbA hS (4 * j + 1) (by omega) hL e1 dL_law_318 ?_
  refine lv_aload_n hx hb dL_law_319 rfl (lv_at hl 0 rfl) ?_
  refine lv_iload hx hb dL_law_320 (lv_at hl 4 rfl) ?_
  refine lv_iconst (v := 2) hx hb dL_law_322 (by decide) ?_
  refine lv_iadd hx hb dL_law_323 ?_
  refine bb_topi (y := nI (4 * j + 2)) (bb_add2 j) ?_
  refine bb_sld hx hb hX hbl hbA hS (4 * j + 2) (by omega) hL e2 dL_law_324 ?_
  refine lv_aload_n hx hb dL_law_325 rfl (lv_at hl 0 rfl) ?_
  refine lv_iload hx hb dL_law_326 (lv_at hl 4 rfl) ?_
  refine lv_iconst (v := 3) hx hb dL_law_328 (by decide) ?_
  refine lv_iadd hx hb dL_law_329 ?_
  refine bb_topi (y := nI (4 * j + 3)) (bb_add3 j) ?_
  refine bb_sld hx hb hX hbl hbA hS (4 * j + 3) (by omega) hL e3 dL_law_330 ?_
  refine lv_aload_n hx hb dL_law_331 rfl (lv_at hl 3 rfl) ?_
  refine bb_cWf (As := [.ref h0, .int (nI n), .int (nI b9), .int (nI v), .ref o0]) (rest := []) (r := 0) (pre := [(g0, .inr (1, [.ref b0, .ref b1, .ref b2, .int k, .int th])), (b0, .inl (cA, 10, .inl w)), (b1, .inl (cA, 10, .inl pr)), (b2, .inl (cA, 310, .inl vt))]) (wc := [(h0, .inr (0, [.ref a0, .ref a1, .ref a2, .ref a3, .int k])), (a0, .inl (cA, 10, .inl w)), (a1, .inl (cA, 10, .inl pr)), (a2, .inl (cA, 31, .inl vo)), (a3, .inl (cA, 31, .inl vf)), (o0, .inl (cL, 1, .inr (.inl fo)))]) (wc' := [(h0, .inr (0, [.ref a0, .ref a1, .ref a2, .ref a3, .int k])), (a0, .inl (cA, 10, .inl w)), (a1, .inl (cA, 10, .inl (upd pr n (nI b9)))), (a2, .inl (cA, 31, .inl (upd vo b9 (vo b9 ||| (1 <<< (nI n &&& 31)))))), (a3, .inl (cA, 31, .inl (upd vf b9 (nI v)))), (o0, .inl (cL, 1, .inr (.inl (fun _ => (bb_bc (vo b9 ||| (1 <<< (nI n &&& 31)))).toInt64))))]) (post := []) (Px := fun _ => True) ⟨hx, hb, hml, hown, hts⟩ (w_vote l dC dI cA cL h0 a0 a1 a2 a3 o0 w pr vo vf k fo H.size n hn0 b9 hb0 v hv0 hop hon) (bb_cw 5 hts gL_law_L_vote rfl rfl rfl gS_law_L_vote gT_law_L_vote gI_law_L_vote (by decide +kernel) ⟨Nat.le_of_ble_eq_true rfl, Nat.le_of_ble_eq_true rfl⟩) (fun _ _ _ _ _ => trivial) (fun _ _ _ => trivial) hP hK hD hS hA rfl rfl hl.1 rfl (Nat.le_of_ble_eq_true rfl) dL_law_332 (by show _ ≤ 1046; omega) (by show _ ≤ 8687; omega) (fun H locs hP hD hS => ?_)
  have hP : va_P (dC, dI) vwCl [(g0, .inr (1, [.ref b0, .ref b1, .ref b2, .int k, .int th])), (b0, .inl (cA, 10, .inl w)), (b1, .inl (cA, 10, .inl pr)), (b2, .inl (cA, 310, .inl vt)), (h0, .inr (0, [.ref a0, .ref a1, .ref a2, .ref a3, .int k])), (a0, .inl (cA, 10, .inl w)), (a1, .inl (cA, 10, .inl (upd pr n (nI b9)))), (a2, .inl (cA, 31, .inl (upd vo b9 (vo b9 ||| (1 <<< (nI n &&& 31)))))), (a3, .inl (cA, 31, .inl (upd vf b9 (nI v)))), (o0, .inl (cL, 1, .inr (.inl (fun _ => (bb_bc (vo b9 ||| (1 <<< (nI n &&& 31)))).toInt64))))] H := hP
  have hD : va_D (bb_A s) [(g0, .inr (1, [.ref b0, .ref b1, .ref b2, .int k, .int th])), (b0, .inl (cA, 10, .inl w)), (b1, .inl (cA, 10, .inl pr)), (b2, .inl (cA, 310, .inl vt)), (h0, .inr (0, [.ref a0, .ref a1, .ref a2, .ref a3, .int k])), (a0, .inl (cA, 10, .inl w)), (a1, .inl (cA, 10, .inl (upd pr n (nI b9)))), (a2, .inl (cA, 31, .inl (upd vo b9 (vo b9 ||| (1 <<< (nI n &&& 31)))))), (a3, .inl (cA, 31, .inl (upd vf b9 (nI v)))), (o0, .inl (cL, 1, .inr (.inl (fun _ => (bb_bc (vo b9 ||| (1 <<< (nI n &&& 31)))).toInt64))))] := hD
  refine lv_istore (lv' := [(5, .int 0), (0, .ref b), (1, .ref h0), (2, .ref g0), (3, .ref o0), (4, .int (nI (4 * j)))]) hx hb dL_law_335 hl (by decide) rfl (fun ls hl => ?_)
  refine lv_aload_n hx hb dL_law_337 rfl (lv_at hl 3 rfl) ?_
  refine lv_aload_n hx hb dL_law_338 rfl (lv_at hl 1 rfl) ?_
  refine lv_iload hx hb dL_law_339 (lv_at hl 5 rfl) ?_
  refine lv_iconst (v := 1) hx hb dL_law_341 (by decide) ?_
  refine lv_iadd hx hb dL_law_342 ?_
  refine bb_topi (y := nI (4 * j + 1)) (bb_add1 j) ?_
  refine bb_sld hx hb hX hbl hbA hS (4 * j + 1) (by omega) hL e1 dL_law_343 ?_
  refine lv_aload_n hx hb dL_law_344 rfl (lv_at hl 1 rfl) ?_
  refine lv_iload hx hb dL_law_345 (lv_at hl 5 rfl) ?_
  refine lv_iconst (v := 2) hx hb dL_law_347 (by decide) ?_
  refine lv_iadd hx hb dL_law_348 ?_
  refine bb_topi (y := nI (4 * j + 2)) (bb_add2 j) ?_
  refine bb_sld hx hb hX hbl hbA hS (4 * j + 2) (by omega) hL e2 dL_law_349 ?_
  refine lv_aload_n hx hb dL_law_350 rfl (lv_at hl 1 rfl) ?_
  refine lv_iload hx hb dL_law_351 (lv_at hl 5 rfl) ?_
  refine lv_iconst (v := 3) hx hb dL_law_353 (by decide) ?_
  refine lv_iadd hx hb dL_law_354 ?_
  refine bb_topi (y := nI (4 * j + 3)) (bb_add3 j) ?_
  refine bb_sld hx hb hX hbl hbA hS (4 * j + 3) (by omega) hL e3 dL_law_355 ?_
  refine bb_cVf (As := [.int (nI n), .int (nI b9), .int (nI v)]) (rest := []) (r := nI (bb_cn (fun m9 => decide ((upd vt (31 * n + b9) (nI v)) (31 * m9 + b9) ≠ -1)) 10)) (pre := []) (wc := [(g0, .inr (1, [.ref b0, .ref b1, .ref b2, .int k, .int th])), (b0, .inl (cA, 10, .inl w)), (b1, .inl (cA, 10, .inl pr)), (b2, .inl (cA, 310, .inl vt))]) (post := [(h0, .inr (0, [.ref a0, .ref a1, .ref a2, .ref a3, .int k])), (a0, .inl (cA, 10, .inl w)), (a1, .inl (cA, 10, .inl (upd pr n (nI b9)))), (a2, .inl (cA, 31, .inl (upd vo b9 (vo b9 ||| (1 <<< (nI n &&& 31)))))), (a3, .inl (cA, 31, .inl (upd vf b9 (nI v)))), (o0, .inl (cL, 1, .inr (.inl (fun _ => (bb_bc (vo b9 ||| (1 <<< (nI n &&& 31)))).toInt64))))]) (wc' := [(g0, .inr (1, [.ref b0, .ref b1, .ref b2, .int k, .int 0])), (b0, .inl (cA, 10, .inl w)), (b1, .inl (cA, 10, .inl (upd pr n (nI b9)))), (b2, .inl (cA, 310, .inl (upd vt (31 * n + b9) (nI v))))]) 0 ⟨hx, hb, hml, hown, hts⟩ (r_vote l dC dI cA g0 b0 b1 b2 w pr vt k th H.size n hn0 b9 hb0 v hv0 (by rw [bb_e_op hok hn0 hb0]; exact hop) (by rw [bb_e_ot hok hb0 hv0, hon]; rfl)) (cwV 3 hts gL_law_X1_vote rfl rfl rfl (by decide +kernel) ⟨Nat.le_of_ble_eq_true rfl, Nat.le_of_ble_eq_true rfl⟩) hP hK1 hD hS hA rfl rfl rfl rfl hl.1 rfl (Nat.le_of_ble_eq_true rfl) dL_law_356 (by show _ ≤ 1046; omega) (by show _ ≤ 8687; omega) (fun H locs hP hD hS => ?_)
  have hP : va_P (dC, dI) vwCl [(g0, .inr (1, [.ref b0, .ref b1, .ref b2, .int k, .int 0])), (b0, .inl (cA, 10, .inl w)), (b1, .inl (cA, 10, .inl (upd pr n (nI b9)))), (b2, .inl (cA, 310, .inl (upd vt (31 * n + b9) (nI v)))), (h0, .inr (0, [.ref a0, .ref a1, .ref a2, .ref a3, .int k])), (a0, .inl (cA, 10, .inl w)), (a1, .inl (cA, 10, .inl (upd pr n (nI b9)))), (a2, .inl (cA, 31, .inl (upd vo b9 (vo b9 ||| (1 <<< (nI n &&& 31)))))), (a3, .inl (cA, 31, .inl (upd vf b9 (nI v)))), (o0, .inl (cL, 1, .inr (.inl (fun _ => (bb_bc (vo b9 ||| (1 <<< (nI n &&& 31)))).toInt64))))] H := hP
  have hD : va_D (bb_A s) [(g0, .inr (1, [.ref b0, .ref b1, .ref b2, .int k, .int 0])), (b0, .inl (cA, 10, .inl w)), (b1, .inl (cA, 10, .inl (upd pr n (nI b9)))), (b2, .inl (cA, 310, .inl (upd vt (31 * n + b9) (nI v)))), (h0, .inr (0, [.ref a0, .ref a1, .ref a2, .ref a3, .int k])), (a0, .inl (cA, 10, .inl w)), (a1, .inl (cA, 10, .inl (upd pr n (nI b9)))), (a2, .inl (cA, 31, .inl (upd vo b9 (vo b9 ||| (1 <<< (nI n &&& 31)))))), (a3, .inl (cA, 31, .inl (upd vf b9 (nI v)))), (o0, .inl (cL, 1, .inr (.inl (fun _ => (bb_bc (vo b9 ||| (1 <<< (nI n &&& 31)))).toInt64))))] := hD
  refine bb_topi (y := bb_bc (vo b9 ||| (1 <<< (nI n &&& 31)))) ((bb_e_many (bb_ok_vote hok hn0 hb0 hv0 hon) hb0).trans (by rw [pk_us])) ?_
  refine lv_istore (lv' := [(6, .int (bb_bc (vo b9 ||| (1 <<< (nI n &&& 31))))), (5, .int 0), (0, .ref b), (1, .ref h0), (2, .ref g0), (3, .ref o0), (4, .int (nI (4 * j)))]) hx hb dL_law_359 hl (by decide) rfl (fun ls hl => ?_)
  refine lv_aload_n hx hb dL_law_361 rfl (lv_at hl 4 rfl) ?_
  have hPm : va_P (dC, dI) vwCl [(g0, .inr (1, [.ref b0, .ref b1, .ref b2, .int k, .int 0])), (b0, .inl (cA, 10, .inl w)), (b1, .inl (cA, 10, .inl (upd pr n (nI b9)))), (b2, .inl (cA, 310, .inl (upd vt (31 * n + b9) (nI v))))] H := bb_Pmid (pre := []) (wc := [(g0, .inr (1, [.ref b0, .ref b1, .ref b2, .int k, .int 0])), (b0, .inl (cA, 10, .inl w)), (b1, .inl (cA, 10, .inl (upd pr n (nI b9)))), (b2, .inl (cA, 310, .inl (upd vt (31 * n + b9) (nI v))))]) (post := [(h0, .inr (0, [.ref a0, .ref a1, .ref a2, .ref a3, .int k])), (a0, .inl (cA, 10, .inl w)), (a1, .inl (cA, 10, .inl (upd pr n (nI b9)))), (a2, .inl (cA, 31, .inl (upd vo b9 (vo b9 ||| (1 <<< (nI n &&& 31)))))), (a3, .inl (cA, 31, .inl (upd vf b9 (nI v)))), (o0, .inl (cL, 1, .inr (.inl (fun _ => (bb_bc (vo b9 ||| (1 <<< (nI n &&& 31)))).toInt64))))]) hP
  refine bb_cV (As := []) (rest := []) (r := 0) 0 ⟨hx, hb, hml, hown, hts⟩ (m_thrown l dC dI cA g0 b0 b1 b2 w (upd pr n (nI b9)) (upd vt (31 * n + b9) (nI v)) k 0) (cwV 0 hts gL_law_X1_thrown rfl rfl rfl (by decide +kernel) ⟨Nat.le_of_ble_eq_true rfl, Nat.le_of_ble_eq_true rfl⟩) hPm hK1 rfl rfl rfl hl.1 rfl (Nat.le_of_ble_eq_true rfl) dL_law_362 (by show _ ≤ 1046; omega) (by show _ ≤ 8687; omega) ?_
  refine lv_iload hx hb dL_law_365 (lv_at hl 1 rfl) ?_
  refine lv_icmp_eq (tgt := 372) hx hb dL_law_367 rfl (fun h367 => ?_) (fun h367 => absurd rfl h367)
  refine lv_iload hx hb dL_law_372 (lv_at hl 1 rfl) ?_
  refine lv_if_ne (tgt := 389) hx hb dL_law_374 rfl (fun h374 => absurd rfl h374) (fun h374 => ?_)
  refine lv_aload_n hx hb dL_law_377 rfl (lv_at hl 5 rfl) ?_
  refine lv_iconst (v := nI 0) hx hb dL_law_378 (by decide) ?_
  refine bb_lal hx hb hK hP 9 1 rfl rfl dL_law_379 ?_
  refine lv_iload hx hb dL_law_380 (lv_at hl 0 rfl) ?_
  refine lv_i2l (v := (bb_bc (vo b9 ||| (1 <<< (nI n &&& 31)))).toInt64) hx hb dL_law_382 rfl ?_
  refine W.lcmp hx hb dL_law_383 ?_
  refine bb_topi (y := 0) (bb_cmp0 _) ?_
  refine lv_if_eq (tgt := 389) hx hb dL_law_384 rfl (fun h384 => ?_) (fun h384 => absurd rfl h384)
  refine lv_goto (tgt := 993) hx hb dL_law_389 rfl ?_
  refine W.widen (k := 11 + j) (n := 429 + 6 * j) (by omega) (by omega) ?_
  exact K _ _ _ _ _ _ _ _ _ _ _ (bb_ok_vote hok hn0 hb0 hv0 hon) hP hD hS (lv_sub hl [2, 3, 4, 5, 6] rfl)

set_option maxHeartbeats 4000000 in
set_option maxRecDepth 100000 in
theorem L_vote1 {p : Program} {l : Launch} {e : Env} {s : State} {m : MethodId} {below : List Frame} {meth : Method} {c : Code} {Q : State → Prop} {b L : Nat} {xs : Nat → Int32} {dC : Nat → ClassId} {dI : Nat → Nat → Nat} {cA cL : ClassId} (X : bb_Cx p l s m c b L xs dC dI cA cL) {g0 b0 b1 b2 h0 a0 a1 a2 a3 o0 : Nat} {w pr vo vf vt : Nat → Int32} {k th : Int32} {fo : Nat → Int64} {H : Heap} {locs : List Loc} {ls : Array Slot} {j : Nat} (hj : 4 * j + 3 < L) (hok : bb_ok w k pr vo vf vt)
    (hP : va_P (dC, dI) vwCl (bb_F g0 b0 b1 b2 h0 a0 a1 a2 a3 o0 cA cL w pr vo vf vt k th fo) H) (hD : va_D (bb_A s) (bb_F g0 b0 b1 b2 h0 a0 a1 a2 a3 o0 cA cL w pr vo vf vt k th fo)) (hS : va_S (bb_A s) s.heap H locs) (hl : lv_has ls 7 (bb_ll b h0 g0 o0 j)) (K : bb_K p l e s m below meth c b dC dI cA cL g0 b0 b1 b2 h0 a0 a1 a2 a3 o0 j Q) (x0 x1 x2 : Int32) (hbad : (bb_out x0 (nI 10) || bb_out x1 (nI 31) || bb_out x2 (nI 10)) = true) (e1 : xs (4 * j + 1) = x0) (e2 : xs (4 * j + 2) = x1) (e3 : xs (4 * j + 3) = x2) : W p l e room_1 s m #[Value.ref b] below meth c H locs (10 + j) (423 + 6 * j) Q (F0 m 312 ls []) := by
  obtain ⟨hx, hb, hml, hown, hts, hX, hbl, hK, hZ, htr, hL⟩ := X
  have hA : ∀ q : Nat, s.heap.size ≤ q → bb_A s q := fun _ h => h
  have hbA : ¬ bb_A s b := Nat.not_le.mpr hbl
  have hK1 := hK.sub [0] (tys' := [(cA, .int)]) rfl
  have hjb : j < 512 := by omega
  have hl : lv_has ls 7 [(0, .ref b), (1, .ref h0), (2, .ref g0), (3, .ref o0), (4, .int (nI (4 * j)))] := hl
  have hP : va_P (dC, dI) vwCl [(g0, .inr (1, [.ref b0, .ref b1, .ref b2, .int k, .int th])), (b0, .inl (cA, 10, .inl w)), (b1, .inl (cA, 10, .inl pr)), (b2, .inl (cA, 310, .inl vt)), (h0, .inr (0, [.ref a0, .ref a1, .ref a2, .ref a3, .int k])), (a0, .inl (cA, 10, .inl w)), (a1, .inl (cA, 10, .inl pr)), (a2, .inl (cA, 31, .inl vo)), (a3, .inl (cA, 31, .inl vf)), (o0, .inl (cL, 1, .inr (.inl fo)))] H := hP
  have hD : va_D (bb_A s) [(g0, .inr (1, [.ref b0, .ref b1, .ref b2, .int k, .int th])), (b0, .inl (cA, 10, .inl w)), (b1, .inl (cA, 10, .inl pr)), (b2, .inl (cA, 310, .inl vt)), (h0, .inr (0, [.ref a0, .ref a1, .ref a2, .ref a3, .int k])), (a0, .inl (cA, 10, .inl w)), (a1, .inl (cA, 10, .inl pr)), (a2, .inl (cA, 31, .inl vo)), (a3, .inl (cA, 31, .inl vf)), (o0, .inl (cL, 1, .inr (.inl fo)))] := hD
  refine lv_aload_n hx hb dL_law_312 rfl (lv_at hl 1 rfl) ?_
  refine lv_aload_n hx hb dL_law_313 rfl (lv_at hl 0 rfl) ?_
  refine lv_iload hx hb dL_law_314 (lv_at hl 4 rfl) ?_
  refine lv_iconst (v := 1) hx hb dL_law_316 (by decide) ?_
  refine lv_iadd hx hb dL_law_317 ?_
  refine bb_topi (y := nI (4 * j + 1)) (bb_add1 j) ?_
  refine bb_sld hx hb hX hbl hbA hS (4 * j + 1) (by omega) hL e1 dL_law_318 ?_
  refine lv_aload_n hx hb dL_law_319 rfl (lv_at hl 0 rfl) ?_
  refine lv_iload hx hb dL_law_320 (lv_at hl 4 rfl) ?_
  refine lv_iconst (v := 2) hx hb dL_law_322 (by decide) ?_
  refine lv_iadd hx hb dL_law_323 ?_
  refine bb_topi (y := nI (4 * j + 2)) (bb_add2 j) ?_
  refine bb_sld hx hb hX hbl hbA hS (4 * j + 2) (by omega) hL e2 dL_law_324 ?_
  refine lv_aload_n hx hb dL_law_325 rfl (lv_at hl 0 rfl) ?_
  refine lv_iload hx hb dL_law_326 (lv_at hl 4 rfl) ?_
  refine lv_iconst (v := 3) hx hb dL_law_328 (by decide) ?_
  refine lv_iadd hx hb dL_law_329 ?_
  refine bb_topi (y := nI (4 * j + 3)) (bb_add3 j) ?_
  refine bb_sld hx hb hX hbl hbA hS (4 * j + 3) (by omega) hL e3 dL_law_330 ?_
  refine lv_aload_n hx hb dL_law_331 rfl (lv_at hl 3 rfl) ?_
  refine bb_cWf (As := [.ref h0, .int x0, .int x1, .int x2, .ref o0]) (rest := []) (r := 1) (pre := [(g0, .inr (1, [.ref b0, .ref b1, .ref b2, .int k, .int th])), (b0, .inl (cA, 10, .inl w)), (b1, .inl (cA, 10, .inl pr)), (b2, .inl (cA, 310, .inl vt))]) (wc := [(h0, .inr (0, [.ref a0, .ref a1, .ref a2, .ref a3, .int k])), (a0, .inl (cA, 10, .inl w)), (a1, .inl (cA, 10, .inl pr)), (a2, .inl (cA, 31, .inl vo)), (a3, .inl (cA, 31, .inl vf)), (o0, .inl (cL, 1, .inr (.inl fo)))]) (wc' := [(h0, .inr (0, [.ref a0, .ref a1, .ref a2, .ref a3, .int k])), (a0, .inl (cA, 10, .inl w)), (a1, .inl (cA, 10, .inl pr)), (a2, .inl (cA, 31, .inl vo)), (a3, .inl (cA, 31, .inl vf)), (o0, .inl (cL, 1, .inr (.inl fo)))]) (post := []) (Px := fun U => bb_TS s.heap.size U) ⟨hx, hb, hml, hown, hts⟩ (w_vote1 l htr s.heap.size dC dI cA cL h0 a0 a1 a2 a3 o0 w pr vo vf k fo H.size x0 x1 x2 hbad) (bb_cw 5 hts gL_law_L_vote rfl rfl rfl gS_law_L_vote gT_law_L_vote gI_law_L_vote (by decide +kernel) ⟨Nat.le_of_ble_eq_true rfl, Nat.le_of_ble_eq_true rfl⟩) (fun a9 U9 g9 m9 q9 => bb_TS.same (u := U9) (U := U9.calling g9 m9 a9) rfl rfl q9) (fun U9 hU9 hW9 => hZ.mv hW9 (fun x9 h9 => by rw [hU9]; exact hS.2.1 x9 h9 (Nat.not_le.mpr h9))) hP hK hD hS hA rfl rfl hl.1 rfl (Nat.le_of_ble_eq_true rfl) dL_law_332 (by show _ ≤ 1046; omega) (by show _ ≤ 8687; omega) (fun H locs hP hD hS => ?_)
  have hP : va_P (dC, dI) vwCl [(g0, .inr (1, [.ref b0, .ref b1, .ref b2, .int k, .int th])), (b0, .inl (cA, 10, .inl w)), (b1, .inl (cA, 10, .inl pr)), (b2, .inl (cA, 310, .inl vt)), (h0, .inr (0, [.ref a0, .ref a1, .ref a2, .ref a3, .int k])), (a0, .inl (cA, 10, .inl w)), (a1, .inl (cA, 10, .inl pr)), (a2, .inl (cA, 31, .inl vo)), (a3, .inl (cA, 31, .inl vf)), (o0, .inl (cL, 1, .inr (.inl fo)))] H := hP
  have hD : va_D (bb_A s) [(g0, .inr (1, [.ref b0, .ref b1, .ref b2, .int k, .int th])), (b0, .inl (cA, 10, .inl w)), (b1, .inl (cA, 10, .inl pr)), (b2, .inl (cA, 310, .inl vt)), (h0, .inr (0, [.ref a0, .ref a1, .ref a2, .ref a3, .int k])), (a0, .inl (cA, 10, .inl w)), (a1, .inl (cA, 10, .inl pr)), (a2, .inl (cA, 31, .inl vo)), (a3, .inl (cA, 31, .inl vf)), (o0, .inl (cL, 1, .inr (.inl fo)))] := hD
  refine lv_istore (lv' := [(5, .int 1), (0, .ref b), (1, .ref h0), (2, .ref g0), (3, .ref o0), (4, .int (nI (4 * j)))]) hx hb dL_law_335 hl (by decide) rfl (fun ls hl => ?_)
  refine lv_aload_n hx hb dL_law_337 rfl (lv_at hl 3 rfl) ?_
  refine lv_aload_n hx hb dL_law_338 rfl (lv_at hl 1 rfl) ?_
  refine lv_iload hx hb dL_law_339 (lv_at hl 5 rfl) ?_
  refine lv_iconst (v := 1) hx hb dL_law_341 (by decide) ?_
  refine lv_iadd hx hb dL_law_342 ?_
  refine bb_topi (y := nI (4 * j + 1)) (bb_add1 j) ?_
  refine bb_sld hx hb hX hbl hbA hS (4 * j + 1) (by omega) hL e1 dL_law_343 ?_
  refine lv_aload_n hx hb dL_law_344 rfl (lv_at hl 1 rfl) ?_
  refine lv_iload hx hb dL_law_345 (lv_at hl 5 rfl) ?_
  refine lv_iconst (v := 2) hx hb dL_law_347 (by decide) ?_
  refine lv_iadd hx hb dL_law_348 ?_
  refine bb_topi (y := nI (4 * j + 2)) (bb_add2 j) ?_
  refine bb_sld hx hb hX hbl hbA hS (4 * j + 2) (by omega) hL e2 dL_law_349 ?_
  refine lv_aload_n hx hb dL_law_350 rfl (lv_at hl 1 rfl) ?_
  refine lv_iload hx hb dL_law_351 (lv_at hl 5 rfl) ?_
  refine lv_iconst (v := 3) hx hb dL_law_353 (by decide) ?_
  refine lv_iadd hx hb dL_law_354 ?_
  refine bb_topi (y := nI (4 * j + 3)) (bb_add3 j) ?_
  refine bb_sld hx hb hX hbl hbA hS (4 * j + 3) (by omega) hL e3 dL_law_355 ?_
  refine bb_cVf (As := [.int x0, .int x1, .int x2]) (rest := []) (r := 0) (pre := []) (wc := [(g0, .inr (1, [.ref b0, .ref b1, .ref b2, .int k, .int th])), (b0, .inl (cA, 10, .inl w)), (b1, .inl (cA, 10, .inl pr)), (b2, .inl (cA, 310, .inl vt))]) (post := [(h0, .inr (0, [.ref a0, .ref a1, .ref a2, .ref a3, .int k])), (a0, .inl (cA, 10, .inl w)), (a1, .inl (cA, 10, .inl pr)), (a2, .inl (cA, 31, .inl vo)), (a3, .inl (cA, 31, .inl vf)), (o0, .inl (cL, 1, .inr (.inl fo)))]) (wc' := [(g0, .inr (1, [.ref b0, .ref b1, .ref b2, .int k, .int 1])), (b0, .inl (cA, 10, .inl w)), (b1, .inl (cA, 10, .inl pr)), (b2, .inl (cA, 310, .inl vt))]) 0 ⟨hx, hb, hml, hown, hts⟩ (r_vote1 l dC dI cA g0 b0 b1 b2 w pr vt k th H.size x0 x1 x2 hbad) (cwV 3 hts gL_law_X1_vote rfl rfl rfl (by decide +kernel) ⟨Nat.le_of_ble_eq_true rfl, Nat.le_of_ble_eq_true rfl⟩) hP hK1 hD hS hA rfl rfl rfl rfl hl.1 rfl (Nat.le_of_ble_eq_true rfl) dL_law_356 (by show _ ≤ 1046; omega) (by show _ ≤ 8687; omega) (fun H locs hP hD hS => ?_)
  have hP : va_P (dC, dI) vwCl [(g0, .inr (1, [.ref b0, .ref b1, .ref b2, .int k, .int 1])), (b0, .inl (cA, 10, .inl w)), (b1, .inl (cA, 10, .inl pr)), (b2, .inl (cA, 310, .inl vt)), (h0, .inr (0, [.ref a0, .ref a1, .ref a2, .ref a3, .int k])), (a0, .inl (cA, 10, .inl w)), (a1, .inl (cA, 10, .inl pr)), (a2, .inl (cA, 31, .inl vo)), (a3, .inl (cA, 31, .inl vf)), (o0, .inl (cL, 1, .inr (.inl fo)))] H := hP
  have hD : va_D (bb_A s) [(g0, .inr (1, [.ref b0, .ref b1, .ref b2, .int k, .int 1])), (b0, .inl (cA, 10, .inl w)), (b1, .inl (cA, 10, .inl pr)), (b2, .inl (cA, 310, .inl vt)), (h0, .inr (0, [.ref a0, .ref a1, .ref a2, .ref a3, .int k])), (a0, .inl (cA, 10, .inl w)), (a1, .inl (cA, 10, .inl pr)), (a2, .inl (cA, 31, .inl vo)), (a3, .inl (cA, 31, .inl vf)), (o0, .inl (cL, 1, .inr (.inl fo)))] := hD
  refine lv_istore (lv' := [(6, .int 0), (5, .int 1), (0, .ref b), (1, .ref h0), (2, .ref g0), (3, .ref o0), (4, .int (nI (4 * j)))]) hx hb dL_law_359 hl (by decide) rfl (fun ls hl => ?_)
  refine lv_aload_n hx hb dL_law_361 rfl (lv_at hl 4 rfl) ?_
  have hPm : va_P (dC, dI) vwCl [(g0, .inr (1, [.ref b0, .ref b1, .ref b2, .int k, .int 1])), (b0, .inl (cA, 10, .inl w)), (b1, .inl (cA, 10, .inl pr)), (b2, .inl (cA, 310, .inl vt))] H := bb_Pmid (pre := []) (wc := [(g0, .inr (1, [.ref b0, .ref b1, .ref b2, .int k, .int 1])), (b0, .inl (cA, 10, .inl w)), (b1, .inl (cA, 10, .inl pr)), (b2, .inl (cA, 310, .inl vt))]) (post := [(h0, .inr (0, [.ref a0, .ref a1, .ref a2, .ref a3, .int k])), (a0, .inl (cA, 10, .inl w)), (a1, .inl (cA, 10, .inl pr)), (a2, .inl (cA, 31, .inl vo)), (a3, .inl (cA, 31, .inl vf)), (o0, .inl (cL, 1, .inr (.inl fo)))]) hP
  refine bb_cV (As := []) (rest := []) (r := 1) 0 ⟨hx, hb, hml, hown, hts⟩ (m_thrown l dC dI cA g0 b0 b1 b2 w pr vt k 1) (cwV 0 hts gL_law_X1_thrown rfl rfl rfl (by decide +kernel) ⟨Nat.le_of_ble_eq_true rfl, Nat.le_of_ble_eq_true rfl⟩) hPm hK1 rfl rfl rfl hl.1 rfl (Nat.le_of_ble_eq_true rfl) dL_law_362 (by show _ ≤ 1046; omega) (by show _ ≤ 8687; omega) ?_
  refine lv_iload hx hb dL_law_365 (lv_at hl 1 rfl) ?_
  refine lv_icmp_eq (tgt := 372) hx hb dL_law_367 rfl (fun h367 => ?_) (fun h367 => absurd rfl h367)
  refine lv_iload hx hb dL_law_372 (lv_at hl 1 rfl) ?_
  refine lv_if_ne (tgt := 389) hx hb dL_law_374 rfl (fun h374 => ?_) (fun h374 => absurd h374 (by decide))
  refine lv_goto (tgt := 993) hx hb dL_law_389 rfl ?_
  refine W.widen (k := 11 + j) (n := 429 + 6 * j) (by omega) (by omega) ?_
  exact K _ _ _ _ _ _ _ _ _ _ _ (hok) hP hD hS (lv_sub hl [2, 3, 4, 5, 6] rfl)

set_option maxHeartbeats 4000000 in
set_option maxRecDepth 100000 in
theorem L_vote2 {p : Program} {l : Launch} {e : Env} {s : State} {m : MethodId} {below : List Frame} {meth : Method} {c : Code} {Q : State → Prop} {b L : Nat} {xs : Nat → Int32} {dC : Nat → ClassId} {dI : Nat → Nat → Nat} {cA cL : ClassId} (X : bb_Cx p l s m c b L xs dC dI cA cL) {g0 b0 b1 b2 h0 a0 a1 a2 a3 o0 : Nat} {w pr vo vf vt : Nat → Int32} {k th : Int32} {fo : Nat → Int64} {H : Heap} {locs : List Loc} {ls : Array Slot} {j : Nat} (hj : 4 * j + 3 < L) (hok : bb_ok w k pr vo vf vt)
    (hP : va_P (dC, dI) vwCl (bb_F g0 b0 b1 b2 h0 a0 a1 a2 a3 o0 cA cL w pr vo vf vt k th fo) H) (hD : va_D (bb_A s) (bb_F g0 b0 b1 b2 h0 a0 a1 a2 a3 o0 cA cL w pr vo vf vt k th fo)) (hS : va_S (bb_A s) s.heap H locs) (hl : lv_has ls 7 (bb_ll b h0 g0 o0 j)) (K : bb_K p l e s m below meth c b dC dI cA cL g0 b0 b1 b2 h0 a0 a1 a2 a3 o0 j Q) (n : Nat) (hn0 : n < 10) (b9 : Nat) (hb0 : b9 < 31) (v : Nat) (hv0 : v < 10) (hb2 : (!bb_op pr vo b9 n || !bb_only vf b9 (nI v)) = true) (e1 : xs (4 * j + 1) = nI n) (e2 : xs (4 * j + 2) = nI b9) (e3 : xs (4 * j + 3) = nI v) : W p l e room_1 s m #[Value.ref b] below meth c H locs (10 + j) (423 + 6 * j) Q (F0 m 312 ls []) := by
  obtain ⟨hx, hb, hml, hown, hts, hX, hbl, hK, hZ, htr, hL⟩ := X
  have hA : ∀ q : Nat, s.heap.size ≤ q → bb_A s q := fun _ h => h
  have hbA : ¬ bb_A s b := Nat.not_le.mpr hbl
  have hK1 := hK.sub [0] (tys' := [(cA, .int)]) rfl
  have hjb : j < 512 := by omega
  have hl : lv_has ls 7 [(0, .ref b), (1, .ref h0), (2, .ref g0), (3, .ref o0), (4, .int (nI (4 * j)))] := hl
  have hP : va_P (dC, dI) vwCl [(g0, .inr (1, [.ref b0, .ref b1, .ref b2, .int k, .int th])), (b0, .inl (cA, 10, .inl w)), (b1, .inl (cA, 10, .inl pr)), (b2, .inl (cA, 310, .inl vt)), (h0, .inr (0, [.ref a0, .ref a1, .ref a2, .ref a3, .int k])), (a0, .inl (cA, 10, .inl w)), (a1, .inl (cA, 10, .inl pr)), (a2, .inl (cA, 31, .inl vo)), (a3, .inl (cA, 31, .inl vf)), (o0, .inl (cL, 1, .inr (.inl fo)))] H := hP
  have hD : va_D (bb_A s) [(g0, .inr (1, [.ref b0, .ref b1, .ref b2, .int k, .int th])), (b0, .inl (cA, 10, .inl w)), (b1, .inl (cA, 10, .inl pr)), (b2, .inl (cA, 310, .inl vt)), (h0, .inr (0, [.ref a0, .ref a1, .ref a2, .ref a3, .int k])), (a0, .inl (cA, 10, .inl w)), (a1, .inl (cA, 10, .inl pr)), (a2, .inl (cA, 31, .inl vo)), (a3, .inl (cA, 31, .inl vf)), (o0, .inl (cL, 1, .inr (.inl fo)))] := hD
  refine lv_aload_n hx hb dL_law_312 rfl (lv_at hl 1 rfl) ?_
  refine lv_aload_n hx hb dL_law_313 rfl (lv_at hl 0 rfl) ?_
  refine lv_iload hx hb dL_law_314 (lv_at hl 4 rfl) ?_
  refine lv_iconst (v := 1) hx hb dL_law_316 (by decide) ?_
  refine lv_iadd hx hb dL_law_317 ?_
  refine bb_topi (y := nI (4 * j + 1)) (bb_add1 j) ?_
  refine bb_sld hx hb hX hbl hbA hS (4 * j + 1) (by omega) hL e1 dL_law_318 ?_
  refine lv_aload_n hx hb dL_law_319 rfl (lv_at hl 0 rfl) ?_
  refine lv_iload hx hb dL_law_320 (lv_at hl 4 rfl) ?_
  refine lv_iconst (v := 2) hx hb dL_law_322 (by decide) ?_
  refine lv_iadd hx hb dL_law_323 ?_
  refine bb_topi (y := nI (4 * j + 2)) (bb_add2 j) ?_
  refine bb_sld hx hb hX hbl hbA hS (4 * j + 2) (by omega) hL e2 dL_law_324 ?_
  refine lv_aload_n hx hb dL_law_325 rfl (lv_at hl 0 rfl) ?_
  refine lv_iload hx hb dL_law_326 (lv_at hl 4 rfl) ?_
  refine lv_iconst (v := 3) hx hb dL_law_328 (by decide) ?_
  refine lv_iadd hx hb dL_law_329 ?_
  refine bb_topi (y := nI (4 * j + 3)) (bb_add3 j) ?_
  refine bb_sld hx hb hX hbl hbA hS (4 * j + 3) (by omega) hL e3 dL_law_330 ?_
  refine lv_aload_n hx hb dL_law_331 rfl (lv_at hl 3 rfl) ?_
  refine bb_cWf (As := [.ref h0, .int (nI n), .int (nI b9), .int (nI v), .ref o0]) (rest := []) (r := 2) (pre := [(g0, .inr (1, [.ref b0, .ref b1, .ref b2, .int k, .int th])), (b0, .inl (cA, 10, .inl w)), (b1, .inl (cA, 10, .inl pr)), (b2, .inl (cA, 310, .inl vt))]) (wc := [(h0, .inr (0, [.ref a0, .ref a1, .ref a2, .ref a3, .int k])), (a0, .inl (cA, 10, .inl w)), (a1, .inl (cA, 10, .inl pr)), (a2, .inl (cA, 31, .inl vo)), (a3, .inl (cA, 31, .inl vf)), (o0, .inl (cL, 1, .inr (.inl fo)))]) (wc' := [(h0, .inr (0, [.ref a0, .ref a1, .ref a2, .ref a3, .int k])), (a0, .inl (cA, 10, .inl w)), (a1, .inl (cA, 10, .inl pr)), (a2, .inl (cA, 31, .inl vo)), (a3, .inl (cA, 31, .inl vf)), (o0, .inl (cL, 1, .inr (.inl fo)))]) (post := []) (Px := fun U => bb_TS s.heap.size U) ⟨hx, hb, hml, hown, hts⟩ (w_vote2 l htr s.heap.size dC dI cA cL h0 a0 a1 a2 a3 o0 w pr vo vf k fo H.size n hn0 b9 hb0 v hv0 hb2) (bb_cw 5 hts gL_law_L_vote rfl rfl rfl gS_law_L_vote gT_law_L_vote gI_law_L_vote (by decide +kernel) ⟨Nat.le_of_ble_eq_true rfl, Nat.le_of_ble_eq_true rfl⟩) (fun a9 U9 g9 m9 q9 => bb_TS.same (u := U9) (U := U9.calling g9 m9 a9) rfl rfl q9) (fun U9 hU9 hW9 => hZ.mv hW9 (fun x9 h9 => by rw [hU9]; exact hS.2.1 x9 h9 (Nat.not_le.mpr h9))) hP hK hD hS hA rfl rfl hl.1 rfl (Nat.le_of_ble_eq_true rfl) dL_law_332 (by show _ ≤ 1046; omega) (by show _ ≤ 8687; omega) (fun H locs hP hD hS => ?_)
  have hP : va_P (dC, dI) vwCl [(g0, .inr (1, [.ref b0, .ref b1, .ref b2, .int k, .int th])), (b0, .inl (cA, 10, .inl w)), (b1, .inl (cA, 10, .inl pr)), (b2, .inl (cA, 310, .inl vt)), (h0, .inr (0, [.ref a0, .ref a1, .ref a2, .ref a3, .int k])), (a0, .inl (cA, 10, .inl w)), (a1, .inl (cA, 10, .inl pr)), (a2, .inl (cA, 31, .inl vo)), (a3, .inl (cA, 31, .inl vf)), (o0, .inl (cL, 1, .inr (.inl fo)))] H := hP
  have hD : va_D (bb_A s) [(g0, .inr (1, [.ref b0, .ref b1, .ref b2, .int k, .int th])), (b0, .inl (cA, 10, .inl w)), (b1, .inl (cA, 10, .inl pr)), (b2, .inl (cA, 310, .inl vt)), (h0, .inr (0, [.ref a0, .ref a1, .ref a2, .ref a3, .int k])), (a0, .inl (cA, 10, .inl w)), (a1, .inl (cA, 10, .inl pr)), (a2, .inl (cA, 31, .inl vo)), (a3, .inl (cA, 31, .inl vf)), (o0, .inl (cL, 1, .inr (.inl fo)))] := hD
  refine lv_istore (lv' := [(5, .int 2), (0, .ref b), (1, .ref h0), (2, .ref g0), (3, .ref o0), (4, .int (nI (4 * j)))]) hx hb dL_law_335 hl (by decide) rfl (fun ls hl => ?_)
  refine lv_aload_n hx hb dL_law_337 rfl (lv_at hl 3 rfl) ?_
  refine lv_aload_n hx hb dL_law_338 rfl (lv_at hl 1 rfl) ?_
  refine lv_iload hx hb dL_law_339 (lv_at hl 5 rfl) ?_
  refine lv_iconst (v := 1) hx hb dL_law_341 (by decide) ?_
  refine lv_iadd hx hb dL_law_342 ?_
  refine bb_topi (y := nI (4 * j + 1)) (bb_add1 j) ?_
  refine bb_sld hx hb hX hbl hbA hS (4 * j + 1) (by omega) hL e1 dL_law_343 ?_
  refine lv_aload_n hx hb dL_law_344 rfl (lv_at hl 1 rfl) ?_
  refine lv_iload hx hb dL_law_345 (lv_at hl 5 rfl) ?_
  refine lv_iconst (v := 2) hx hb dL_law_347 (by decide) ?_
  refine lv_iadd hx hb dL_law_348 ?_
  refine bb_topi (y := nI (4 * j + 2)) (bb_add2 j) ?_
  refine bb_sld hx hb hX hbl hbA hS (4 * j + 2) (by omega) hL e2 dL_law_349 ?_
  refine lv_aload_n hx hb dL_law_350 rfl (lv_at hl 1 rfl) ?_
  refine lv_iload hx hb dL_law_351 (lv_at hl 5 rfl) ?_
  refine lv_iconst (v := 3) hx hb dL_law_353 (by decide) ?_
  refine lv_iadd hx hb dL_law_354 ?_
  refine bb_topi (y := nI (4 * j + 3)) (bb_add3 j) ?_
  refine bb_sld hx hb hX hbl hbA hS (4 * j + 3) (by omega) hL e3 dL_law_355 ?_
  refine bb_cVf (As := [.int (nI n), .int (nI b9), .int (nI v)]) (rest := []) (r := 0) (pre := []) (wc := [(g0, .inr (1, [.ref b0, .ref b1, .ref b2, .int k, .int th])), (b0, .inl (cA, 10, .inl w)), (b1, .inl (cA, 10, .inl pr)), (b2, .inl (cA, 310, .inl vt))]) (post := [(h0, .inr (0, [.ref a0, .ref a1, .ref a2, .ref a3, .int k])), (a0, .inl (cA, 10, .inl w)), (a1, .inl (cA, 10, .inl pr)), (a2, .inl (cA, 31, .inl vo)), (a3, .inl (cA, 31, .inl vf)), (o0, .inl (cL, 1, .inr (.inl fo)))]) (wc' := [(g0, .inr (1, [.ref b0, .ref b1, .ref b2, .int k, .int 2])), (b0, .inl (cA, 10, .inl w)), (b1, .inl (cA, 10, .inl pr)), (b2, .inl (cA, 310, .inl vt))]) 0 ⟨hx, hb, hml, hown, hts⟩ (r_vote2 l dC dI cA g0 b0 b1 b2 w pr vt k th H.size n hn0 b9 hb0 v hv0 (by rw [bb_e_op hok hn0 hb0, bb_e_ot hok hb0 hv0]; exact hb2)) (cwV 3 hts gL_law_X1_vote rfl rfl rfl (by decide +kernel) ⟨Nat.le_of_ble_eq_true rfl, Nat.le_of_ble_eq_true rfl⟩) hP hK1 hD hS hA rfl rfl rfl rfl hl.1 rfl (Nat.le_of_ble_eq_true rfl) dL_law_356 (by show _ ≤ 1046; omega) (by show _ ≤ 8687; omega) (fun H locs hP hD hS => ?_)
  have hP : va_P (dC, dI) vwCl [(g0, .inr (1, [.ref b0, .ref b1, .ref b2, .int k, .int 2])), (b0, .inl (cA, 10, .inl w)), (b1, .inl (cA, 10, .inl pr)), (b2, .inl (cA, 310, .inl vt)), (h0, .inr (0, [.ref a0, .ref a1, .ref a2, .ref a3, .int k])), (a0, .inl (cA, 10, .inl w)), (a1, .inl (cA, 10, .inl pr)), (a2, .inl (cA, 31, .inl vo)), (a3, .inl (cA, 31, .inl vf)), (o0, .inl (cL, 1, .inr (.inl fo)))] H := hP
  have hD : va_D (bb_A s) [(g0, .inr (1, [.ref b0, .ref b1, .ref b2, .int k, .int 2])), (b0, .inl (cA, 10, .inl w)), (b1, .inl (cA, 10, .inl pr)), (b2, .inl (cA, 310, .inl vt)), (h0, .inr (0, [.ref a0, .ref a1, .ref a2, .ref a3, .int k])), (a0, .inl (cA, 10, .inl w)), (a1, .inl (cA, 10, .inl pr)), (a2, .inl (cA, 31, .inl vo)), (a3, .inl (cA, 31, .inl vf)), (o0, .inl (cL, 1, .inr (.inl fo)))] := hD
  refine lv_istore (lv' := [(6, .int 0), (5, .int 2), (0, .ref b), (1, .ref h0), (2, .ref g0), (3, .ref o0), (4, .int (nI (4 * j)))]) hx hb dL_law_359 hl (by decide) rfl (fun ls hl => ?_)
  refine lv_aload_n hx hb dL_law_361 rfl (lv_at hl 4 rfl) ?_
  have hPm : va_P (dC, dI) vwCl [(g0, .inr (1, [.ref b0, .ref b1, .ref b2, .int k, .int 2])), (b0, .inl (cA, 10, .inl w)), (b1, .inl (cA, 10, .inl pr)), (b2, .inl (cA, 310, .inl vt))] H := bb_Pmid (pre := []) (wc := [(g0, .inr (1, [.ref b0, .ref b1, .ref b2, .int k, .int 2])), (b0, .inl (cA, 10, .inl w)), (b1, .inl (cA, 10, .inl pr)), (b2, .inl (cA, 310, .inl vt))]) (post := [(h0, .inr (0, [.ref a0, .ref a1, .ref a2, .ref a3, .int k])), (a0, .inl (cA, 10, .inl w)), (a1, .inl (cA, 10, .inl pr)), (a2, .inl (cA, 31, .inl vo)), (a3, .inl (cA, 31, .inl vf)), (o0, .inl (cL, 1, .inr (.inl fo)))]) hP
  refine bb_cV (As := []) (rest := []) (r := 2) 0 ⟨hx, hb, hml, hown, hts⟩ (m_thrown l dC dI cA g0 b0 b1 b2 w pr vt k 2) (cwV 0 hts gL_law_X1_thrown rfl rfl rfl (by decide +kernel) ⟨Nat.le_of_ble_eq_true rfl, Nat.le_of_ble_eq_true rfl⟩) hPm hK1 rfl rfl rfl hl.1 rfl (Nat.le_of_ble_eq_true rfl) dL_law_362 (by show _ ≤ 1046; omega) (by show _ ≤ 8687; omega) ?_
  refine lv_iload hx hb dL_law_365 (lv_at hl 1 rfl) ?_
  refine lv_icmp_eq (tgt := 372) hx hb dL_law_367 rfl (fun h367 => ?_) (fun h367 => absurd rfl h367)
  refine lv_iload hx hb dL_law_372 (lv_at hl 1 rfl) ?_
  refine lv_if_ne (tgt := 389) hx hb dL_law_374 rfl (fun h374 => ?_) (fun h374 => absurd h374 (by decide))
  refine lv_goto (tgt := 993) hx hb dL_law_389 rfl ?_
  refine W.widen (k := 11 + j) (n := 429 + 6 * j) (by omega) (by omega) ?_
  exact K _ _ _ _ _ _ _ _ _ _ _ (hok) hP hD hS (lv_sub hl [2, 3, 4, 5, 6] rfl)

set_option maxHeartbeats 4000000 in
set_option maxRecDepth 100000 in
theorem L_ask {p : Program} {l : Launch} {e : Env} {s : State} {m : MethodId} {below : List Frame} {meth : Method} {c : Code} {Q : State → Prop} {b L : Nat} {xs : Nat → Int32} {dC : Nat → ClassId} {dI : Nat → Nat → Nat} {cA cL : ClassId} (X : bb_Cx p l s m c b L xs dC dI cA cL) {g0 b0 b1 b2 h0 a0 a1 a2 a3 o0 : Nat} {w pr vo vf vt : Nat → Int32} {k th : Int32} {fo : Nat → Int64} {H : Heap} {locs : List Loc} {ls : Array Slot} {j : Nat} (hj : 4 * j + 3 < L) (hok : bb_ok w k pr vo vf vt)
    (hP : va_P (dC, dI) vwCl (bb_F g0 b0 b1 b2 h0 a0 a1 a2 a3 o0 cA cL w pr vo vf vt k th fo) H) (hD : va_D (bb_A s) (bb_F g0 b0 b1 b2 h0 a0 a1 a2 a3 o0 cA cL w pr vo vf vt k th fo)) (hS : va_S (bb_A s) s.heap H locs) (hl : lv_has ls 7 (bb_ll b h0 g0 o0 j)) (K : bb_K p l e s m below meth c b dC dI cA cL g0 b0 b1 b2 h0 a0 a1 a2 a3 o0 j Q) (a : Nat) (ha0 : a < 1024) (b9 : Nat) (hb0 : b9 < 31) (hen : bb_en w k (nI a) = true) (hle : bb_hm pr (nI a) 10 ≤ nI b9) (e1 : xs (4 * j + 1) = nI a) (e2 : xs (4 * j + 2) = nI b9) : W p l e room_1 s m #[Value.ref b] below meth c H locs (10 + j) (423 + 6 * j) Q (F0 m 392 ls []) := by
  obtain ⟨hx, hb, hml, hown, hts, hX, hbl, hK, hZ, htr, hL⟩ := X
  have hA : ∀ q : Nat, s.heap.size ≤ q → bb_A s q := fun _ h => h
  have hbA : ¬ bb_A s b := Nat.not_le.mpr hbl
  have hK1 := hK.sub [0] (tys' := [(cA, .int)]) rfl
  have hjb : j < 512 := by omega
  have hl : lv_has ls 7 [(0, .ref b), (1, .ref h0), (2, .ref g0), (3, .ref o0), (4, .int (nI (4 * j)))] := hl
  have hP : va_P (dC, dI) vwCl [(g0, .inr (1, [.ref b0, .ref b1, .ref b2, .int k, .int th])), (b0, .inl (cA, 10, .inl w)), (b1, .inl (cA, 10, .inl pr)), (b2, .inl (cA, 310, .inl vt)), (h0, .inr (0, [.ref a0, .ref a1, .ref a2, .ref a3, .int k])), (a0, .inl (cA, 10, .inl w)), (a1, .inl (cA, 10, .inl pr)), (a2, .inl (cA, 31, .inl vo)), (a3, .inl (cA, 31, .inl vf)), (o0, .inl (cL, 1, .inr (.inl fo)))] H := hP
  have hD : va_D (bb_A s) [(g0, .inr (1, [.ref b0, .ref b1, .ref b2, .int k, .int th])), (b0, .inl (cA, 10, .inl w)), (b1, .inl (cA, 10, .inl pr)), (b2, .inl (cA, 310, .inl vt)), (h0, .inr (0, [.ref a0, .ref a1, .ref a2, .ref a3, .int k])), (a0, .inl (cA, 10, .inl w)), (a1, .inl (cA, 10, .inl pr)), (a2, .inl (cA, 31, .inl vo)), (a3, .inl (cA, 31, .inl vf)), (o0, .inl (cL, 1, .inr (.inl fo)))] := hD
  refine lv_aload_n hx hb dL_law_392 rfl (lv_at hl 1 rfl) ?_
  refine lv_aload_n hx hb dL_law_393 rfl (lv_at hl 0 rfl) ?_
  refine lv_iload hx hb dL_law_394 (lv_at hl 4 rfl) ?_
  refine lv_iconst (v := 1) hx hb dL_law_396 (by decide) ?_
  refine lv_iadd hx hb dL_law_397 ?_
  refine bb_topi (y := nI (4 * j + 1)) (bb_add1 j) ?_
  refine bb_sld hx hb hX hbl hbA hS (4 * j + 1) (by omega) hL e1 dL_law_398 ?_
  refine lv_aload_n hx hb dL_law_399 rfl (lv_at hl 0 rfl) ?_
  refine lv_iload hx hb dL_law_400 (lv_at hl 4 rfl) ?_
  refine lv_iconst (v := 2) hx hb dL_law_402 (by decide) ?_
  refine lv_iadd hx hb dL_law_403 ?_
  refine bb_topi (y := nI (4 * j + 2)) (bb_add2 j) ?_
  refine bb_sld hx hb hX hbl hbA hS (4 * j + 2) (by omega) hL e2 dL_law_404 ?_
  refine lv_aload_n hx hb dL_law_405 rfl (lv_at hl 3 rfl) ?_
  refine bb_cWf (As := [.ref h0, .int (nI a), .int (nI b9), .ref o0]) (rest := []) (r := 0) (pre := [(g0, .inr (1, [.ref b0, .ref b1, .ref b2, .int k, .int th])), (b0, .inl (cA, 10, .inl w)), (b1, .inl (cA, 10, .inl pr)), (b2, .inl (cA, 310, .inl vt))]) (wc := [(h0, .inr (0, [.ref a0, .ref a1, .ref a2, .ref a3, .int k])), (a0, .inl (cA, 10, .inl w)), (a1, .inl (cA, 10, .inl pr)), (a2, .inl (cA, 31, .inl vo)), (a3, .inl (cA, 31, .inl vf)), (o0, .inl (cL, 1, .inr (.inl fo)))]) (wc' := [(h0, .inr (0, [.ref a0, .ref a1, .ref a2, .ref a3, .int k])), (a0, .inl (cA, 10, .inl w)), (a1, .inl (cA, 10, .inl (bb_pal pr (nI a) (nI b9) 10))), (a2, .inl (cA, 31, .inl vo)), (a3, .inl (cA, 31, .inl vf)), (o0, .inl (cL, 1, .inr (.inl (fun _ => (bb_ask vo vf (nI a) b9).toInt64))))]) (post := []) (Px := fun _ => True) ⟨hx, hb, hml, hown, hts⟩ (w_ask l dC dI cA cL h0 a0 a1 a2 a3 o0 w pr vo vf k fo H.size a ha0 b9 hb0 hen hle) (bb_cw 4 hts gL_law_L_ask rfl rfl rfl gS_law_L_ask gT_law_L_ask gI_law_L_ask (by decide +kernel) ⟨Nat.le_of_ble_eq_true rfl, Nat.le_of_ble_eq_true rfl⟩) (fun _ _ _ _ _ => trivial) (fun _ _ _ => trivial) hP hK hD hS hA rfl rfl hl.1 rfl (Nat.le_of_ble_eq_true rfl) dL_law_406 (by show _ ≤ 1046; omega) (by show _ ≤ 8687; omega) (fun H locs hP hD hS => ?_)
  have hP : va_P (dC, dI) vwCl [(g0, .inr (1, [.ref b0, .ref b1, .ref b2, .int k, .int th])), (b0, .inl (cA, 10, .inl w)), (b1, .inl (cA, 10, .inl pr)), (b2, .inl (cA, 310, .inl vt)), (h0, .inr (0, [.ref a0, .ref a1, .ref a2, .ref a3, .int k])), (a0, .inl (cA, 10, .inl w)), (a1, .inl (cA, 10, .inl (bb_pal pr (nI a) (nI b9) 10))), (a2, .inl (cA, 31, .inl vo)), (a3, .inl (cA, 31, .inl vf)), (o0, .inl (cL, 1, .inr (.inl (fun _ => (bb_ask vo vf (nI a) b9).toInt64))))] H := hP
  have hD : va_D (bb_A s) [(g0, .inr (1, [.ref b0, .ref b1, .ref b2, .int k, .int th])), (b0, .inl (cA, 10, .inl w)), (b1, .inl (cA, 10, .inl pr)), (b2, .inl (cA, 310, .inl vt)), (h0, .inr (0, [.ref a0, .ref a1, .ref a2, .ref a3, .int k])), (a0, .inl (cA, 10, .inl w)), (a1, .inl (cA, 10, .inl (bb_pal pr (nI a) (nI b9) 10))), (a2, .inl (cA, 31, .inl vo)), (a3, .inl (cA, 31, .inl vf)), (o0, .inl (cL, 1, .inr (.inl (fun _ => (bb_ask vo vf (nI a) b9).toInt64))))] := hD
  refine lv_istore (lv' := [(5, .int 0), (0, .ref b), (1, .ref h0), (2, .ref g0), (3, .ref o0), (4, .int (nI (4 * j)))]) hx hb dL_law_409 hl (by decide) rfl (fun ls hl => ?_)
  refine lv_aload_n hx hb dL_law_411 rfl (lv_at hl 3 rfl) ?_
  refine lv_aload_n hx hb dL_law_412 rfl (lv_at hl 1 rfl) ?_
  refine lv_iload hx hb dL_law_413 (lv_at hl 5 rfl) ?_
  refine lv_iconst (v := 1) hx hb dL_law_415 (by decide) ?_
  refine lv_iadd hx hb dL_law_416 ?_
  refine bb_topi (y := nI (4 * j + 1)) (bb_add1 j) ?_
  refine bb_sld hx hb hX hbl hbA hS (4 * j + 1) (by omega) hL e1 dL_law_417 ?_
  refine lv_aload_n hx hb dL_law_418 rfl (lv_at hl 1 rfl) ?_
  refine lv_iload hx hb dL_law_419 (lv_at hl 5 rfl) ?_
  refine lv_iconst (v := 2) hx hb dL_law_421 (by decide) ?_
  refine lv_iadd hx hb dL_law_422 ?_
  refine bb_topi (y := nI (4 * j + 2)) (bb_add2 j) ?_
  refine bb_sld hx hb hX hbl hbA hS (4 * j + 2) (by omega) hL e2 dL_law_423 ?_
  refine bb_cVf (As := [.int (nI a), .int (nI b9)]) (rest := []) (r := bb_fo (nI a) vt b9) (pre := []) (wc := [(g0, .inr (1, [.ref b0, .ref b1, .ref b2, .int k, .int th])), (b0, .inl (cA, 10, .inl w)), (b1, .inl (cA, 10, .inl pr)), (b2, .inl (cA, 310, .inl vt))]) (post := [(h0, .inr (0, [.ref a0, .ref a1, .ref a2, .ref a3, .int k])), (a0, .inl (cA, 10, .inl w)), (a1, .inl (cA, 10, .inl (bb_pal pr (nI a) (nI b9) 10))), (a2, .inl (cA, 31, .inl vo)), (a3, .inl (cA, 31, .inl vf)), (o0, .inl (cL, 1, .inr (.inl (fun _ => (bb_ask vo vf (nI a) b9).toInt64))))]) (wc' := [(g0, .inr (1, [.ref b0, .ref b1, .ref b2, .int k, .int 0])), (b0, .inl (cA, 10, .inl w)), (b1, .inl (cA, 10, .inl (bb_pal pr (nI a) (nI b9) 10))), (b2, .inl (cA, 310, .inl vt))]) 0 ⟨hx, hb, hml, hown, hts⟩ (r_ask l dC dI cA g0 b0 b1 b2 w pr vt k th H.size a ha0 b9 hb0 hen (Bool.eq_false_iff.mpr (fun h9 => bb_nlt hle ((bb_e_hi (by omega) pr 10).mpr h9)))) (cwV 2 hts gL_law_X1_ask rfl rfl rfl (by decide +kernel) ⟨Nat.le_of_ble_eq_true rfl, Nat.le_of_ble_eq_true rfl⟩) hP hK1 hD hS hA rfl rfl rfl rfl hl.1 rfl (Nat.le_of_ble_eq_true rfl) dL_law_424 (by show _ ≤ 1046; omega) (by show _ ≤ 8687; omega) (fun H locs hP hD hS => ?_)
  have hP : va_P (dC, dI) vwCl [(g0, .inr (1, [.ref b0, .ref b1, .ref b2, .int k, .int 0])), (b0, .inl (cA, 10, .inl w)), (b1, .inl (cA, 10, .inl (bb_pal pr (nI a) (nI b9) 10))), (b2, .inl (cA, 310, .inl vt)), (h0, .inr (0, [.ref a0, .ref a1, .ref a2, .ref a3, .int k])), (a0, .inl (cA, 10, .inl w)), (a1, .inl (cA, 10, .inl (bb_pal pr (nI a) (nI b9) 10))), (a2, .inl (cA, 31, .inl vo)), (a3, .inl (cA, 31, .inl vf)), (o0, .inl (cL, 1, .inr (.inl (fun _ => (bb_ask vo vf (nI a) b9).toInt64))))] H := hP
  have hD : va_D (bb_A s) [(g0, .inr (1, [.ref b0, .ref b1, .ref b2, .int k, .int 0])), (b0, .inl (cA, 10, .inl w)), (b1, .inl (cA, 10, .inl (bb_pal pr (nI a) (nI b9) 10))), (b2, .inl (cA, 310, .inl vt)), (h0, .inr (0, [.ref a0, .ref a1, .ref a2, .ref a3, .int k])), (a0, .inl (cA, 10, .inl w)), (a1, .inl (cA, 10, .inl (bb_pal pr (nI a) (nI b9) 10))), (a2, .inl (cA, 31, .inl vo)), (a3, .inl (cA, 31, .inl vf)), (o0, .inl (cL, 1, .inr (.inl (fun _ => (bb_ask vo vf (nI a) b9).toInt64))))] := hD
  refine bb_topi (y := bb_ask vo vf (nI a) b9) (bb_e_ask hok (by omega)) ?_
  refine lv_istore (lv' := [(6, .int (bb_ask vo vf (nI a) b9)), (5, .int 0), (0, .ref b), (1, .ref h0), (2, .ref g0), (3, .ref o0), (4, .int (nI (4 * j)))]) hx hb dL_law_427 hl (by decide) rfl (fun ls hl => ?_)
  refine lv_aload_n hx hb dL_law_429 rfl (lv_at hl 4 rfl) ?_
  have hPm : va_P (dC, dI) vwCl [(g0, .inr (1, [.ref b0, .ref b1, .ref b2, .int k, .int 0])), (b0, .inl (cA, 10, .inl w)), (b1, .inl (cA, 10, .inl (bb_pal pr (nI a) (nI b9) 10))), (b2, .inl (cA, 310, .inl vt))] H := bb_Pmid (pre := []) (wc := [(g0, .inr (1, [.ref b0, .ref b1, .ref b2, .int k, .int 0])), (b0, .inl (cA, 10, .inl w)), (b1, .inl (cA, 10, .inl (bb_pal pr (nI a) (nI b9) 10))), (b2, .inl (cA, 310, .inl vt))]) (post := [(h0, .inr (0, [.ref a0, .ref a1, .ref a2, .ref a3, .int k])), (a0, .inl (cA, 10, .inl w)), (a1, .inl (cA, 10, .inl (bb_pal pr (nI a) (nI b9) 10))), (a2, .inl (cA, 31, .inl vo)), (a3, .inl (cA, 31, .inl vf)), (o0, .inl (cL, 1, .inr (.inl (fun _ => (bb_ask vo vf (nI a) b9).toInt64))))]) hP
  refine bb_cV (As := []) (rest := []) (r := 0) 0 ⟨hx, hb, hml, hown, hts⟩ (m_thrown l dC dI cA g0 b0 b1 b2 w (bb_pal pr (nI a) (nI b9) 10) vt k 0) (cwV 0 hts gL_law_X1_thrown rfl rfl rfl (by decide +kernel) ⟨Nat.le_of_ble_eq_true rfl, Nat.le_of_ble_eq_true rfl⟩) hPm hK1 rfl rfl rfl hl.1 rfl (Nat.le_of_ble_eq_true rfl) dL_law_430 (by show _ ≤ 1046; omega) (by show _ ≤ 8687; omega) ?_
  refine lv_iload hx hb dL_law_433 (lv_at hl 1 rfl) ?_
  refine lv_icmp_eq (tgt := 440) hx hb dL_law_435 rfl (fun h435 => ?_) (fun h435 => absurd rfl h435)
  refine lv_iload hx hb dL_law_440 (lv_at hl 1 rfl) ?_
  refine lv_if_ne (tgt := 457) hx hb dL_law_442 rfl (fun h442 => absurd rfl h442) (fun h442 => ?_)
  refine lv_aload_n hx hb dL_law_445 rfl (lv_at hl 5 rfl) ?_
  refine lv_iconst (v := nI 0) hx hb dL_law_446 (by decide) ?_
  refine bb_lal hx hb hK hP 9 1 rfl rfl dL_law_447 ?_
  refine lv_iload hx hb dL_law_448 (lv_at hl 0 rfl) ?_
  refine lv_i2l (v := (bb_ask vo vf (nI a) b9).toInt64) hx hb dL_law_450 rfl ?_
  refine W.lcmp hx hb dL_law_451 ?_
  refine bb_topi (y := 0) (bb_cmp0 _) ?_
  refine lv_if_eq (tgt := 457) hx hb dL_law_452 rfl (fun h452 => ?_) (fun h452 => absurd rfl h452)
  refine lv_goto (tgt := 993) hx hb dL_law_457 rfl ?_
  refine W.widen (k := 11 + j) (n := 429 + 6 * j) (by omega) (by omega) ?_
  exact K _ _ _ _ _ _ _ _ _ _ _ (bb_ok_pal hok hb0 10) hP hD hS (lv_sub hl [2, 3, 4, 5, 6] rfl)

set_option maxHeartbeats 4000000 in
set_option maxRecDepth 100000 in
theorem L_ask1 {p : Program} {l : Launch} {e : Env} {s : State} {m : MethodId} {below : List Frame} {meth : Method} {c : Code} {Q : State → Prop} {b L : Nat} {xs : Nat → Int32} {dC : Nat → ClassId} {dI : Nat → Nat → Nat} {cA cL : ClassId} (X : bb_Cx p l s m c b L xs dC dI cA cL) {g0 b0 b1 b2 h0 a0 a1 a2 a3 o0 : Nat} {w pr vo vf vt : Nat → Int32} {k th : Int32} {fo : Nat → Int64} {H : Heap} {locs : List Loc} {ls : Array Slot} {j : Nat} (hj : 4 * j + 3 < L) (hok : bb_ok w k pr vo vf vt)
    (hP : va_P (dC, dI) vwCl (bb_F g0 b0 b1 b2 h0 a0 a1 a2 a3 o0 cA cL w pr vo vf vt k th fo) H) (hD : va_D (bb_A s) (bb_F g0 b0 b1 b2 h0 a0 a1 a2 a3 o0 cA cL w pr vo vf vt k th fo)) (hS : va_S (bb_A s) s.heap H locs) (hl : lv_has ls 7 (bb_ll b h0 g0 o0 j)) (K : bb_K p l e s m below meth c b dC dI cA cL g0 b0 b1 b2 h0 a0 a1 a2 a3 o0 j Q) (x0 x1 : Int32) (hbad : (bb_out x0 (nI 1024) || bb_out x1 (nI 31)) = true) (e1 : xs (4 * j + 1) = x0) (e2 : xs (4 * j + 2) = x1) : W p l e room_1 s m #[Value.ref b] below meth c H locs (10 + j) (423 + 6 * j) Q (F0 m 392 ls []) := by
  obtain ⟨hx, hb, hml, hown, hts, hX, hbl, hK, hZ, htr, hL⟩ := X
  have hA : ∀ q : Nat, s.heap.size ≤ q → bb_A s q := fun _ h => h
  have hbA : ¬ bb_A s b := Nat.not_le.mpr hbl
  have hK1 := hK.sub [0] (tys' := [(cA, .int)]) rfl
  have hjb : j < 512 := by omega
  have hl : lv_has ls 7 [(0, .ref b), (1, .ref h0), (2, .ref g0), (3, .ref o0), (4, .int (nI (4 * j)))] := hl
  have hP : va_P (dC, dI) vwCl [(g0, .inr (1, [.ref b0, .ref b1, .ref b2, .int k, .int th])), (b0, .inl (cA, 10, .inl w)), (b1, .inl (cA, 10, .inl pr)), (b2, .inl (cA, 310, .inl vt)), (h0, .inr (0, [.ref a0, .ref a1, .ref a2, .ref a3, .int k])), (a0, .inl (cA, 10, .inl w)), (a1, .inl (cA, 10, .inl pr)), (a2, .inl (cA, 31, .inl vo)), (a3, .inl (cA, 31, .inl vf)), (o0, .inl (cL, 1, .inr (.inl fo)))] H := hP
  have hD : va_D (bb_A s) [(g0, .inr (1, [.ref b0, .ref b1, .ref b2, .int k, .int th])), (b0, .inl (cA, 10, .inl w)), (b1, .inl (cA, 10, .inl pr)), (b2, .inl (cA, 310, .inl vt)), (h0, .inr (0, [.ref a0, .ref a1, .ref a2, .ref a3, .int k])), (a0, .inl (cA, 10, .inl w)), (a1, .inl (cA, 10, .inl pr)), (a2, .inl (cA, 31, .inl vo)), (a3, .inl (cA, 31, .inl vf)), (o0, .inl (cL, 1, .inr (.inl fo)))] := hD
  refine lv_aload_n hx hb dL_law_392 rfl (lv_at hl 1 rfl) ?_
  refine lv_aload_n hx hb dL_law_393 rfl (lv_at hl 0 rfl) ?_
  refine lv_iload hx hb dL_law_394 (lv_at hl 4 rfl) ?_
  refine lv_iconst (v := 1) hx hb dL_law_396 (by decide) ?_
  refine lv_iadd hx hb dL_law_397 ?_
  refine bb_topi (y := nI (4 * j + 1)) (bb_add1 j) ?_
  refine bb_sld hx hb hX hbl hbA hS (4 * j + 1) (by omega) hL e1 dL_law_398 ?_
  refine lv_aload_n hx hb dL_law_399 rfl (lv_at hl 0 rfl) ?_
  refine lv_iload hx hb dL_law_400 (lv_at hl 4 rfl) ?_
  refine lv_iconst (v := 2) hx hb dL_law_402 (by decide) ?_
  refine lv_iadd hx hb dL_law_403 ?_
  refine bb_topi (y := nI (4 * j + 2)) (bb_add2 j) ?_
  refine bb_sld hx hb hX hbl hbA hS (4 * j + 2) (by omega) hL e2 dL_law_404 ?_
  refine lv_aload_n hx hb dL_law_405 rfl (lv_at hl 3 rfl) ?_
  refine bb_cWf (As := [.ref h0, .int x0, .int x1, .ref o0]) (rest := []) (r := 1) (pre := [(g0, .inr (1, [.ref b0, .ref b1, .ref b2, .int k, .int th])), (b0, .inl (cA, 10, .inl w)), (b1, .inl (cA, 10, .inl pr)), (b2, .inl (cA, 310, .inl vt))]) (wc := [(h0, .inr (0, [.ref a0, .ref a1, .ref a2, .ref a3, .int k])), (a0, .inl (cA, 10, .inl w)), (a1, .inl (cA, 10, .inl pr)), (a2, .inl (cA, 31, .inl vo)), (a3, .inl (cA, 31, .inl vf)), (o0, .inl (cL, 1, .inr (.inl fo)))]) (wc' := [(h0, .inr (0, [.ref a0, .ref a1, .ref a2, .ref a3, .int k])), (a0, .inl (cA, 10, .inl w)), (a1, .inl (cA, 10, .inl pr)), (a2, .inl (cA, 31, .inl vo)), (a3, .inl (cA, 31, .inl vf)), (o0, .inl (cL, 1, .inr (.inl fo)))]) (post := []) (Px := fun U => bb_TS s.heap.size U) ⟨hx, hb, hml, hown, hts⟩ (w_ask1 l htr s.heap.size dC dI cA cL h0 a0 a1 a2 a3 o0 w pr vo vf k fo H.size x0 x1 hbad) (bb_cw 4 hts gL_law_L_ask rfl rfl rfl gS_law_L_ask gT_law_L_ask gI_law_L_ask (by decide +kernel) ⟨Nat.le_of_ble_eq_true rfl, Nat.le_of_ble_eq_true rfl⟩) (fun a9 U9 g9 m9 q9 => bb_TS.same (u := U9) (U := U9.calling g9 m9 a9) rfl rfl q9) (fun U9 hU9 hW9 => hZ.mv hW9 (fun x9 h9 => by rw [hU9]; exact hS.2.1 x9 h9 (Nat.not_le.mpr h9))) hP hK hD hS hA rfl rfl hl.1 rfl (Nat.le_of_ble_eq_true rfl) dL_law_406 (by show _ ≤ 1046; omega) (by show _ ≤ 8687; omega) (fun H locs hP hD hS => ?_)
  have hP : va_P (dC, dI) vwCl [(g0, .inr (1, [.ref b0, .ref b1, .ref b2, .int k, .int th])), (b0, .inl (cA, 10, .inl w)), (b1, .inl (cA, 10, .inl pr)), (b2, .inl (cA, 310, .inl vt)), (h0, .inr (0, [.ref a0, .ref a1, .ref a2, .ref a3, .int k])), (a0, .inl (cA, 10, .inl w)), (a1, .inl (cA, 10, .inl pr)), (a2, .inl (cA, 31, .inl vo)), (a3, .inl (cA, 31, .inl vf)), (o0, .inl (cL, 1, .inr (.inl fo)))] H := hP
  have hD : va_D (bb_A s) [(g0, .inr (1, [.ref b0, .ref b1, .ref b2, .int k, .int th])), (b0, .inl (cA, 10, .inl w)), (b1, .inl (cA, 10, .inl pr)), (b2, .inl (cA, 310, .inl vt)), (h0, .inr (0, [.ref a0, .ref a1, .ref a2, .ref a3, .int k])), (a0, .inl (cA, 10, .inl w)), (a1, .inl (cA, 10, .inl pr)), (a2, .inl (cA, 31, .inl vo)), (a3, .inl (cA, 31, .inl vf)), (o0, .inl (cL, 1, .inr (.inl fo)))] := hD
  refine lv_istore (lv' := [(5, .int 1), (0, .ref b), (1, .ref h0), (2, .ref g0), (3, .ref o0), (4, .int (nI (4 * j)))]) hx hb dL_law_409 hl (by decide) rfl (fun ls hl => ?_)
  refine lv_aload_n hx hb dL_law_411 rfl (lv_at hl 3 rfl) ?_
  refine lv_aload_n hx hb dL_law_412 rfl (lv_at hl 1 rfl) ?_
  refine lv_iload hx hb dL_law_413 (lv_at hl 5 rfl) ?_
  refine lv_iconst (v := 1) hx hb dL_law_415 (by decide) ?_
  refine lv_iadd hx hb dL_law_416 ?_
  refine bb_topi (y := nI (4 * j + 1)) (bb_add1 j) ?_
  refine bb_sld hx hb hX hbl hbA hS (4 * j + 1) (by omega) hL e1 dL_law_417 ?_
  refine lv_aload_n hx hb dL_law_418 rfl (lv_at hl 1 rfl) ?_
  refine lv_iload hx hb dL_law_419 (lv_at hl 5 rfl) ?_
  refine lv_iconst (v := 2) hx hb dL_law_421 (by decide) ?_
  refine lv_iadd hx hb dL_law_422 ?_
  refine bb_topi (y := nI (4 * j + 2)) (bb_add2 j) ?_
  refine bb_sld hx hb hX hbl hbA hS (4 * j + 2) (by omega) hL e2 dL_law_423 ?_
  refine bb_cVf (As := [.int x0, .int x1]) (rest := []) (r := 0) (pre := []) (wc := [(g0, .inr (1, [.ref b0, .ref b1, .ref b2, .int k, .int th])), (b0, .inl (cA, 10, .inl w)), (b1, .inl (cA, 10, .inl pr)), (b2, .inl (cA, 310, .inl vt))]) (post := [(h0, .inr (0, [.ref a0, .ref a1, .ref a2, .ref a3, .int k])), (a0, .inl (cA, 10, .inl w)), (a1, .inl (cA, 10, .inl pr)), (a2, .inl (cA, 31, .inl vo)), (a3, .inl (cA, 31, .inl vf)), (o0, .inl (cL, 1, .inr (.inl fo)))]) (wc' := [(g0, .inr (1, [.ref b0, .ref b1, .ref b2, .int k, .int 1])), (b0, .inl (cA, 10, .inl w)), (b1, .inl (cA, 10, .inl pr)), (b2, .inl (cA, 310, .inl vt))]) 0 ⟨hx, hb, hml, hown, hts⟩ (r_ask1 l dC dI cA g0 b0 b1 b2 w pr vt k th H.size x0 x1 hbad) (cwV 2 hts gL_law_X1_ask rfl rfl rfl (by decide +kernel) ⟨Nat.le_of_ble_eq_true rfl, Nat.le_of_ble_eq_true rfl⟩) hP hK1 hD hS hA rfl rfl rfl rfl hl.1 rfl (Nat.le_of_ble_eq_true rfl) dL_law_424 (by show _ ≤ 1046; omega) (by show _ ≤ 8687; omega) (fun H locs hP hD hS => ?_)
  have hP : va_P (dC, dI) vwCl [(g0, .inr (1, [.ref b0, .ref b1, .ref b2, .int k, .int 1])), (b0, .inl (cA, 10, .inl w)), (b1, .inl (cA, 10, .inl pr)), (b2, .inl (cA, 310, .inl vt)), (h0, .inr (0, [.ref a0, .ref a1, .ref a2, .ref a3, .int k])), (a0, .inl (cA, 10, .inl w)), (a1, .inl (cA, 10, .inl pr)), (a2, .inl (cA, 31, .inl vo)), (a3, .inl (cA, 31, .inl vf)), (o0, .inl (cL, 1, .inr (.inl fo)))] H := hP
  have hD : va_D (bb_A s) [(g0, .inr (1, [.ref b0, .ref b1, .ref b2, .int k, .int 1])), (b0, .inl (cA, 10, .inl w)), (b1, .inl (cA, 10, .inl pr)), (b2, .inl (cA, 310, .inl vt)), (h0, .inr (0, [.ref a0, .ref a1, .ref a2, .ref a3, .int k])), (a0, .inl (cA, 10, .inl w)), (a1, .inl (cA, 10, .inl pr)), (a2, .inl (cA, 31, .inl vo)), (a3, .inl (cA, 31, .inl vf)), (o0, .inl (cL, 1, .inr (.inl fo)))] := hD
  refine lv_istore (lv' := [(6, .int 0), (5, .int 1), (0, .ref b), (1, .ref h0), (2, .ref g0), (3, .ref o0), (4, .int (nI (4 * j)))]) hx hb dL_law_427 hl (by decide) rfl (fun ls hl => ?_)
  refine lv_aload_n hx hb dL_law_429 rfl (lv_at hl 4 rfl) ?_
  have hPm : va_P (dC, dI) vwCl [(g0, .inr (1, [.ref b0, .ref b1, .ref b2, .int k, .int 1])), (b0, .inl (cA, 10, .inl w)), (b1, .inl (cA, 10, .inl pr)), (b2, .inl (cA, 310, .inl vt))] H := bb_Pmid (pre := []) (wc := [(g0, .inr (1, [.ref b0, .ref b1, .ref b2, .int k, .int 1])), (b0, .inl (cA, 10, .inl w)), (b1, .inl (cA, 10, .inl pr)), (b2, .inl (cA, 310, .inl vt))]) (post := [(h0, .inr (0, [.ref a0, .ref a1, .ref a2, .ref a3, .int k])), (a0, .inl (cA, 10, .inl w)), (a1, .inl (cA, 10, .inl pr)), (a2, .inl (cA, 31, .inl vo)), (a3, .inl (cA, 31, .inl vf)), (o0, .inl (cL, 1, .inr (.inl fo)))]) hP
  refine bb_cV (As := []) (rest := []) (r := 1) 0 ⟨hx, hb, hml, hown, hts⟩ (m_thrown l dC dI cA g0 b0 b1 b2 w pr vt k 1) (cwV 0 hts gL_law_X1_thrown rfl rfl rfl (by decide +kernel) ⟨Nat.le_of_ble_eq_true rfl, Nat.le_of_ble_eq_true rfl⟩) hPm hK1 rfl rfl rfl hl.1 rfl (Nat.le_of_ble_eq_true rfl) dL_law_430 (by show _ ≤ 1046; omega) (by show _ ≤ 8687; omega) ?_
  refine lv_iload hx hb dL_law_433 (lv_at hl 1 rfl) ?_
  refine lv_icmp_eq (tgt := 440) hx hb dL_law_435 rfl (fun h435 => ?_) (fun h435 => absurd rfl h435)
  refine lv_iload hx hb dL_law_440 (lv_at hl 1 rfl) ?_
  refine lv_if_ne (tgt := 457) hx hb dL_law_442 rfl (fun h442 => ?_) (fun h442 => absurd h442 (by decide))
  refine lv_goto (tgt := 993) hx hb dL_law_457 rfl ?_
  refine W.widen (k := 11 + j) (n := 429 + 6 * j) (by omega) (by omega) ?_
  exact K _ _ _ _ _ _ _ _ _ _ _ (hok) hP hD hS (lv_sub hl [2, 3, 4, 5, 6] rfl)

set_option maxHeartbeats 4000000 in
set_option maxRecDepth 100000 in
theorem L_ask2 {p : Program} {l : Launch} {e : Env} {s : State} {m : MethodId} {below : List Frame} {meth : Method} {c : Code} {Q : State → Prop} {b L : Nat} {xs : Nat → Int32} {dC : Nat → ClassId} {dI : Nat → Nat → Nat} {cA cL : ClassId} (X : bb_Cx p l s m c b L xs dC dI cA cL) {g0 b0 b1 b2 h0 a0 a1 a2 a3 o0 : Nat} {w pr vo vf vt : Nat → Int32} {k th : Int32} {fo : Nat → Int64} {H : Heap} {locs : List Loc} {ls : Array Slot} {j : Nat} (hj : 4 * j + 3 < L) (hok : bb_ok w k pr vo vf vt)
    (hP : va_P (dC, dI) vwCl (bb_F g0 b0 b1 b2 h0 a0 a1 a2 a3 o0 cA cL w pr vo vf vt k th fo) H) (hD : va_D (bb_A s) (bb_F g0 b0 b1 b2 h0 a0 a1 a2 a3 o0 cA cL w pr vo vf vt k th fo)) (hS : va_S (bb_A s) s.heap H locs) (hl : lv_has ls 7 (bb_ll b h0 g0 o0 j)) (K : bb_K p l e s m below meth c b dC dI cA cL g0 b0 b1 b2 h0 a0 a1 a2 a3 o0 j Q) (a : Nat) (ha0 : a < 1024) (b9 : Nat) (hb0 : b9 < 31) (hb2 : (!bb_en w k (nI a) || !decide (bb_hm pr (nI a) 10 ≤ nI b9)) = true) (e1 : xs (4 * j + 1) = nI a) (e2 : xs (4 * j + 2) = nI b9) : W p l e room_1 s m #[Value.ref b] below meth c H locs (10 + j) (423 + 6 * j) Q (F0 m 392 ls []) := by
  obtain ⟨hx, hb, hml, hown, hts, hX, hbl, hK, hZ, htr, hL⟩ := X
  have hA : ∀ q : Nat, s.heap.size ≤ q → bb_A s q := fun _ h => h
  have hbA : ¬ bb_A s b := Nat.not_le.mpr hbl
  have hK1 := hK.sub [0] (tys' := [(cA, .int)]) rfl
  have hjb : j < 512 := by omega
  have hl : lv_has ls 7 [(0, .ref b), (1, .ref h0), (2, .ref g0), (3, .ref o0), (4, .int (nI (4 * j)))] := hl
  have hP : va_P (dC, dI) vwCl [(g0, .inr (1, [.ref b0, .ref b1, .ref b2, .int k, .int th])), (b0, .inl (cA, 10, .inl w)), (b1, .inl (cA, 10, .inl pr)), (b2, .inl (cA, 310, .inl vt)), (h0, .inr (0, [.ref a0, .ref a1, .ref a2, .ref a3, .int k])), (a0, .inl (cA, 10, .inl w)), (a1, .inl (cA, 10, .inl pr)), (a2, .inl (cA, 31, .inl vo)), (a3, .inl (cA, 31, .inl vf)), (o0, .inl (cL, 1, .inr (.inl fo)))] H := hP
  have hD : va_D (bb_A s) [(g0, .inr (1, [.ref b0, .ref b1, .ref b2, .int k, .int th])), (b0, .inl (cA, 10, .inl w)), (b1, .inl (cA, 10, .inl pr)), (b2, .inl (cA, 310, .inl vt)), (h0, .inr (0, [.ref a0, .ref a1, .ref a2, .ref a3, .int k])), (a0, .inl (cA, 10, .inl w)), (a1, .inl (cA, 10, .inl pr)), (a2, .inl (cA, 31, .inl vo)), (a3, .inl (cA, 31, .inl vf)), (o0, .inl (cL, 1, .inr (.inl fo)))] := hD
  refine lv_aload_n hx hb dL_law_392 rfl (lv_at hl 1 rfl) ?_
  refine lv_aload_n hx hb dL_law_393 rfl (lv_at hl 0 rfl) ?_
  refine lv_iload hx hb dL_law_394 (lv_at hl 4 rfl) ?_
  refine lv_iconst (v := 1) hx hb dL_law_396 (by decide) ?_
  refine lv_iadd hx hb dL_law_397 ?_
  refine bb_topi (y := nI (4 * j + 1)) (bb_add1 j) ?_
  refine bb_sld hx hb hX hbl hbA hS (4 * j + 1) (by omega) hL e1 dL_law_398 ?_
  refine lv_aload_n hx hb dL_law_399 rfl (lv_at hl 0 rfl) ?_
  refine lv_iload hx hb dL_law_400 (lv_at hl 4 rfl) ?_
  refine lv_iconst (v := 2) hx hb dL_law_402 (by decide) ?_
  refine lv_iadd hx hb dL_law_403 ?_
  refine bb_topi (y := nI (4 * j + 2)) (bb_add2 j) ?_
  refine bb_sld hx hb hX hbl hbA hS (4 * j + 2) (by omega) hL e2 dL_law_404 ?_
  refine lv_aload_n hx hb dL_law_405 rfl (lv_at hl 3 rfl) ?_
  refine bb_cWf (As := [.ref h0, .int (nI a), .int (nI b9), .ref o0]) (rest := []) (r := 2) (pre := [(g0, .inr (1, [.ref b0, .ref b1, .ref b2, .int k, .int th])), (b0, .inl (cA, 10, .inl w)), (b1, .inl (cA, 10, .inl pr)), (b2, .inl (cA, 310, .inl vt))]) (wc := [(h0, .inr (0, [.ref a0, .ref a1, .ref a2, .ref a3, .int k])), (a0, .inl (cA, 10, .inl w)), (a1, .inl (cA, 10, .inl pr)), (a2, .inl (cA, 31, .inl vo)), (a3, .inl (cA, 31, .inl vf)), (o0, .inl (cL, 1, .inr (.inl fo)))]) (wc' := [(h0, .inr (0, [.ref a0, .ref a1, .ref a2, .ref a3, .int k])), (a0, .inl (cA, 10, .inl w)), (a1, .inl (cA, 10, .inl pr)), (a2, .inl (cA, 31, .inl vo)), (a3, .inl (cA, 31, .inl vf)), (o0, .inl (cL, 1, .inr (.inl fo)))]) (post := []) (Px := fun U => bb_TS s.heap.size U) ⟨hx, hb, hml, hown, hts⟩ (w_ask2 l htr s.heap.size dC dI cA cL h0 a0 a1 a2 a3 o0 w pr vo vf k fo H.size a ha0 b9 hb0 hb2) (bb_cw 4 hts gL_law_L_ask rfl rfl rfl gS_law_L_ask gT_law_L_ask gI_law_L_ask (by decide +kernel) ⟨Nat.le_of_ble_eq_true rfl, Nat.le_of_ble_eq_true rfl⟩) (fun a9 U9 g9 m9 q9 => bb_TS.same (u := U9) (U := U9.calling g9 m9 a9) rfl rfl q9) (fun U9 hU9 hW9 => hZ.mv hW9 (fun x9 h9 => by rw [hU9]; exact hS.2.1 x9 h9 (Nat.not_le.mpr h9))) hP hK hD hS hA rfl rfl hl.1 rfl (Nat.le_of_ble_eq_true rfl) dL_law_406 (by show _ ≤ 1046; omega) (by show _ ≤ 8687; omega) (fun H locs hP hD hS => ?_)
  have hP : va_P (dC, dI) vwCl [(g0, .inr (1, [.ref b0, .ref b1, .ref b2, .int k, .int th])), (b0, .inl (cA, 10, .inl w)), (b1, .inl (cA, 10, .inl pr)), (b2, .inl (cA, 310, .inl vt)), (h0, .inr (0, [.ref a0, .ref a1, .ref a2, .ref a3, .int k])), (a0, .inl (cA, 10, .inl w)), (a1, .inl (cA, 10, .inl pr)), (a2, .inl (cA, 31, .inl vo)), (a3, .inl (cA, 31, .inl vf)), (o0, .inl (cL, 1, .inr (.inl fo)))] H := hP
  have hD : va_D (bb_A s) [(g0, .inr (1, [.ref b0, .ref b1, .ref b2, .int k, .int th])), (b0, .inl (cA, 10, .inl w)), (b1, .inl (cA, 10, .inl pr)), (b2, .inl (cA, 310, .inl vt)), (h0, .inr (0, [.ref a0, .ref a1, .ref a2, .ref a3, .int k])), (a0, .inl (cA, 10, .inl w)), (a1, .inl (cA, 10, .inl pr)), (a2, .inl (cA, 31, .inl vo)), (a3, .inl (cA, 31, .inl vf)), (o0, .inl (cL, 1, .inr (.inl fo)))] := hD
  refine lv_istore (lv' := [(5, .int 2), (0, .ref b), (1, .ref h0), (2, .ref g0), (3, .ref o0), (4, .int (nI (4 * j)))]) hx hb dL_law_409 hl (by decide) rfl (fun ls hl => ?_)
  refine lv_aload_n hx hb dL_law_411 rfl (lv_at hl 3 rfl) ?_
  refine lv_aload_n hx hb dL_law_412 rfl (lv_at hl 1 rfl) ?_
  refine lv_iload hx hb dL_law_413 (lv_at hl 5 rfl) ?_
  refine lv_iconst (v := 1) hx hb dL_law_415 (by decide) ?_
  refine lv_iadd hx hb dL_law_416 ?_
  refine bb_topi (y := nI (4 * j + 1)) (bb_add1 j) ?_
  refine bb_sld hx hb hX hbl hbA hS (4 * j + 1) (by omega) hL e1 dL_law_417 ?_
  refine lv_aload_n hx hb dL_law_418 rfl (lv_at hl 1 rfl) ?_
  refine lv_iload hx hb dL_law_419 (lv_at hl 5 rfl) ?_
  refine lv_iconst (v := 2) hx hb dL_law_421 (by decide) ?_
  refine lv_iadd hx hb dL_law_422 ?_
  refine bb_topi (y := nI (4 * j + 2)) (bb_add2 j) ?_
  refine bb_sld hx hb hX hbl hbA hS (4 * j + 2) (by omega) hL e2 dL_law_423 ?_
  refine bb_cVf (As := [.int (nI a), .int (nI b9)]) (rest := []) (r := 0) (pre := []) (wc := [(g0, .inr (1, [.ref b0, .ref b1, .ref b2, .int k, .int th])), (b0, .inl (cA, 10, .inl w)), (b1, .inl (cA, 10, .inl pr)), (b2, .inl (cA, 310, .inl vt))]) (post := [(h0, .inr (0, [.ref a0, .ref a1, .ref a2, .ref a3, .int k])), (a0, .inl (cA, 10, .inl w)), (a1, .inl (cA, 10, .inl pr)), (a2, .inl (cA, 31, .inl vo)), (a3, .inl (cA, 31, .inl vf)), (o0, .inl (cL, 1, .inr (.inl fo)))]) (wc' := [(g0, .inr (1, [.ref b0, .ref b1, .ref b2, .int k, .int 2])), (b0, .inl (cA, 10, .inl w)), (b1, .inl (cA, 10, .inl pr)), (b2, .inl (cA, 310, .inl vt))]) 0 ⟨hx, hb, hml, hown, hts⟩ (r_ask2 l dC dI cA g0 b0 b1 b2 w pr vt k th H.size a ha0 b9 hb0 (by rw [← bb_hi2 (by omega)]; exact hb2)) (cwV 2 hts gL_law_X1_ask rfl rfl rfl (by decide +kernel) ⟨Nat.le_of_ble_eq_true rfl, Nat.le_of_ble_eq_true rfl⟩) hP hK1 hD hS hA rfl rfl rfl rfl hl.1 rfl (Nat.le_of_ble_eq_true rfl) dL_law_424 (by show _ ≤ 1046; omega) (by show _ ≤ 8687; omega) (fun H locs hP hD hS => ?_)
  have hP : va_P (dC, dI) vwCl [(g0, .inr (1, [.ref b0, .ref b1, .ref b2, .int k, .int 2])), (b0, .inl (cA, 10, .inl w)), (b1, .inl (cA, 10, .inl pr)), (b2, .inl (cA, 310, .inl vt)), (h0, .inr (0, [.ref a0, .ref a1, .ref a2, .ref a3, .int k])), (a0, .inl (cA, 10, .inl w)), (a1, .inl (cA, 10, .inl pr)), (a2, .inl (cA, 31, .inl vo)), (a3, .inl (cA, 31, .inl vf)), (o0, .inl (cL, 1, .inr (.inl fo)))] H := hP
  have hD : va_D (bb_A s) [(g0, .inr (1, [.ref b0, .ref b1, .ref b2, .int k, .int 2])), (b0, .inl (cA, 10, .inl w)), (b1, .inl (cA, 10, .inl pr)), (b2, .inl (cA, 310, .inl vt)), (h0, .inr (0, [.ref a0, .ref a1, .ref a2, .ref a3, .int k])), (a0, .inl (cA, 10, .inl w)), (a1, .inl (cA, 10, .inl pr)), (a2, .inl (cA, 31, .inl vo)), (a3, .inl (cA, 31, .inl vf)), (o0, .inl (cL, 1, .inr (.inl fo)))] := hD
  refine lv_istore (lv' := [(6, .int 0), (5, .int 2), (0, .ref b), (1, .ref h0), (2, .ref g0), (3, .ref o0), (4, .int (nI (4 * j)))]) hx hb dL_law_427 hl (by decide) rfl (fun ls hl => ?_)
  refine lv_aload_n hx hb dL_law_429 rfl (lv_at hl 4 rfl) ?_
  have hPm : va_P (dC, dI) vwCl [(g0, .inr (1, [.ref b0, .ref b1, .ref b2, .int k, .int 2])), (b0, .inl (cA, 10, .inl w)), (b1, .inl (cA, 10, .inl pr)), (b2, .inl (cA, 310, .inl vt))] H := bb_Pmid (pre := []) (wc := [(g0, .inr (1, [.ref b0, .ref b1, .ref b2, .int k, .int 2])), (b0, .inl (cA, 10, .inl w)), (b1, .inl (cA, 10, .inl pr)), (b2, .inl (cA, 310, .inl vt))]) (post := [(h0, .inr (0, [.ref a0, .ref a1, .ref a2, .ref a3, .int k])), (a0, .inl (cA, 10, .inl w)), (a1, .inl (cA, 10, .inl pr)), (a2, .inl (cA, 31, .inl vo)), (a3, .inl (cA, 31, .inl vf)), (o0, .inl (cL, 1, .inr (.inl fo)))]) hP
  refine bb_cV (As := []) (rest := []) (r := 2) 0 ⟨hx, hb, hml, hown, hts⟩ (m_thrown l dC dI cA g0 b0 b1 b2 w pr vt k 2) (cwV 0 hts gL_law_X1_thrown rfl rfl rfl (by decide +kernel) ⟨Nat.le_of_ble_eq_true rfl, Nat.le_of_ble_eq_true rfl⟩) hPm hK1 rfl rfl rfl hl.1 rfl (Nat.le_of_ble_eq_true rfl) dL_law_430 (by show _ ≤ 1046; omega) (by show _ ≤ 8687; omega) ?_
  refine lv_iload hx hb dL_law_433 (lv_at hl 1 rfl) ?_
  refine lv_icmp_eq (tgt := 440) hx hb dL_law_435 rfl (fun h435 => ?_) (fun h435 => absurd rfl h435)
  refine lv_iload hx hb dL_law_440 (lv_at hl 1 rfl) ?_
  refine lv_if_ne (tgt := 457) hx hb dL_law_442 rfl (fun h442 => ?_) (fun h442 => absurd h442 (by decide))
  refine lv_goto (tgt := 993) hx hb dL_law_457 rfl ?_
  refine W.widen (k := 11 + j) (n := 429 + 6 * j) (by omega) (by omega) ?_
  exact K _ _ _ _ _ _ _ _ _ _ _ (hok) hP hD hS (lv_sub hl [2, 3, 4, 5, 6] rfl)
