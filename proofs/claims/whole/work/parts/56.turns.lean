set_option maxHeartbeats 4000000 in
set_option maxRecDepth 100000 in
theorem L_about_2 {p : Program} {l : Launch} {e : Env} {s : State} {m : MethodId} {below : List Frame} {meth : Method} {c : Code} {Q : State → Prop} {b L : Nat} {xs : Nat → Int32} {dC : Nat → ClassId} {dI : Nat → Nat → Nat} {cA cL : ClassId} (X : bb_Cx p l s m c b L xs dC dI cA cL) {g0 b0 b1 b2 h0 a0 a1 a2 a3 o0 : Nat} {w pr vo vf vt : Nat → Int32} {k th : Int32} {fo : Nat → Int64} {H : Heap} {locs : List Loc} {ls : Array Slot} {j : Nat} (hj : 4 * j + 3 < L) (hok : bb_ok w k pr vo vf vt)
    (hP : va_P (dC, dI) vwCl (bb_F g0 b0 b1 b2 h0 a0 a1 a2 a3 o0 cA cL w pr vo vf vt k th fo) H) (hD : va_D (bb_A s) (bb_F g0 b0 b1 b2 h0 a0 a1 a2 a3 o0 cA cL w pr vo vf vt k th fo)) (hS : va_S (bb_A s) s.heap H locs) (hl : lv_has ls 7 (bb_ll b h0 g0 o0 j)) (K : bb_K p l e s m below meth c b dC dI cA cL g0 b0 b1 b2 h0 a0 a1 a2 a3 o0 j Q) (n : Nat) (hn0 : n < 10) (e1 : xs (4 * j + 1) = nI n) (e2 : xs (4 * j + 2) = 2) : W p l e room_1 s m #[Value.ref b] below meth c H locs (10 + j) (423 + 6 * j) Q (F0 m 900 ls []) := by
  obtain ⟨hx, hb, hml, hown, hts, hX, hbl, hK, hZ, htr, hL⟩ := X
  have hA : ∀ q : Nat, s.heap.size ≤ q → bb_A s q := fun _ h => h
  have hbA : ¬ bb_A s b := Nat.not_le.mpr hbl
  have hK1 := hK.sub [0] (tys' := [(cA, .int)]) rfl
  have hjb : j < 512 := by omega
  have hl : lv_has ls 7 [(0, .ref b), (1, .ref h0), (2, .ref g0), (3, .ref o0), (4, .int (nI (4 * j)))] := hl
  have hP : va_P (dC, dI) vwCl [(g0, .inr (1, [.ref b0, .ref b1, .ref b2, .int k, .int th])), (b0, .inl (cA, 10, .inl w)), (b1, .inl (cA, 10, .inl pr)), (b2, .inl (cA, 310, .inl vt)), (h0, .inr (0, [.ref a0, .ref a1, .ref a2, .ref a3, .int k])), (a0, .inl (cA, 10, .inl w)), (a1, .inl (cA, 10, .inl pr)), (a2, .inl (cA, 31, .inl vo)), (a3, .inl (cA, 31, .inl vf)), (o0, .inl (cL, 1, .inr (.inl fo)))] H := hP
  have hD : va_D (bb_A s) [(g0, .inr (1, [.ref b0, .ref b1, .ref b2, .int k, .int th])), (b0, .inl (cA, 10, .inl w)), (b1, .inl (cA, 10, .inl pr)), (b2, .inl (cA, 310, .inl vt)), (h0, .inr (0, [.ref a0, .ref a1, .ref a2, .ref a3, .int k])), (a0, .inl (cA, 10, .inl w)), (a1, .inl (cA, 10, .inl pr)), (a2, .inl (cA, 31, .inl vo)), (a3, .inl (cA, 31, .inl vf)), (o0, .inl (cL, 1, .inr (.inl fo)))] := hD
  refine lv_aload_n hx hb dL_law_900 rfl (lv_at hl 1 rfl) ?_
  refine lv_aload_n hx hb dL_law_901 rfl (lv_at hl 0 rfl) ?_
  refine lv_iload hx hb dL_law_902 (lv_at hl 4 rfl) ?_
  refine lv_iconst (v := 1) hx hb dL_law_904 (by decide) ?_
  refine lv_iadd hx hb dL_law_905 ?_
  refine bb_topi (y := nI (4 * j + 1)) (bb_add1 j) ?_
  refine bb_sld hx hb hX hbl hbA hS (4 * j + 1) (by omega) hL e1 dL_law_906 ?_
  refine lv_aload_n hx hb dL_law_907 rfl (lv_at hl 0 rfl) ?_
  refine lv_iload hx hb dL_law_908 (lv_at hl 4 rfl) ?_
  refine lv_iconst (v := 2) hx hb dL_law_910 (by decide) ?_
  refine lv_iadd hx hb dL_law_911 ?_
  refine bb_topi (y := nI (4 * j + 2)) (bb_add2 j) ?_
  refine bb_sld hx hb hX hbl hbA hS (4 * j + 2) (by omega) hL e2 dL_law_912 ?_
  refine lv_aload_n hx hb dL_law_913 rfl (lv_at hl 3 rfl) ?_
  refine bb_cWf (As := [.ref h0, .int (nI n), .int 2, .ref o0]) (rest := []) (r := 0) (pre := [(g0, .inr (1, [.ref b0, .ref b1, .ref b2, .int k, .int th])), (b0, .inl (cA, 10, .inl w)), (b1, .inl (cA, 10, .inl pr)), (b2, .inl (cA, 310, .inl vt))]) (wc := [(h0, .inr (0, [.ref a0, .ref a1, .ref a2, .ref a3, .int k])), (a0, .inl (cA, 10, .inl w)), (a1, .inl (cA, 10, .inl pr)), (a2, .inl (cA, 31, .inl vo)), (a3, .inl (cA, 31, .inl vf)), (o0, .inl (cL, 1, .inr (.inl fo)))]) (wc' := [(h0, .inr (0, [.ref a0, .ref a1, .ref a2, .ref a3, .int k])), (a0, .inl (cA, 10, .inl w)), (a1, .inl (cA, 10, .inl pr)), (a2, .inl (cA, 31, .inl vo)), (a3, .inl (cA, 31, .inl vf)), (o0, .inl (cL, 1, .inr (.inl (fun _ => (nI (bb_cn (fun b9 => bb_hb (vo b9) n) 31)).toInt64))))]) (post := []) (Px := fun _ => True) ⟨hx, hb, hml, hown, hts⟩ (w_about_2 l dC dI cA cL h0 a0 a1 a2 a3 o0 w pr vo vf k fo H.size n hn0) (bb_cw 4 hts gL_law_L_about rfl rfl rfl gS_law_L_about gT_law_L_about gI_law_L_about (by decide +kernel) ⟨Nat.le_of_ble_eq_true rfl, Nat.le_of_ble_eq_true rfl⟩) (fun _ _ _ _ _ => trivial) (fun _ _ _ => trivial) hP hK hD hS hA rfl rfl hl.1 rfl (Nat.le_of_ble_eq_true rfl) dL_law_914 (by show _ ≤ 1046; omega) (by show _ ≤ 8687; omega) (fun H locs hP hD hS => ?_)
  have hP : va_P (dC, dI) vwCl [(g0, .inr (1, [.ref b0, .ref b1, .ref b2, .int k, .int th])), (b0, .inl (cA, 10, .inl w)), (b1, .inl (cA, 10, .inl pr)), (b2, .inl (cA, 310, .inl vt)), (h0, .inr (0, [.ref a0, .ref a1, .ref a2, .ref a3, .int k])), (a0, .inl (cA, 10, .inl w)), (a1, .inl (cA, 10, .inl pr)), (a2, .inl (cA, 31, .inl vo)), (a3, .inl (cA, 31, .inl vf)), (o0, .inl (cL, 1, .inr (.inl (fun _ => (nI (bb_cn (fun b9 => bb_hb (vo b9) n) 31)).toInt64))))] H := hP
  have hD : va_D (bb_A s) [(g0, .inr (1, [.ref b0, .ref b1, .ref b2, .int k, .int th])), (b0, .inl (cA, 10, .inl w)), (b1, .inl (cA, 10, .inl pr)), (b2, .inl (cA, 310, .inl vt)), (h0, .inr (0, [.ref a0, .ref a1, .ref a2, .ref a3, .int k])), (a0, .inl (cA, 10, .inl w)), (a1, .inl (cA, 10, .inl pr)), (a2, .inl (cA, 31, .inl vo)), (a3, .inl (cA, 31, .inl vf)), (o0, .inl (cL, 1, .inr (.inl (fun _ => (nI (bb_cn (fun b9 => bb_hb (vo b9) n) 31)).toInt64))))] := hD
  refine lv_istore (lv' := [(5, .int 0), (0, .ref b), (1, .ref h0), (2, .ref g0), (3, .ref o0), (4, .int (nI (4 * j)))]) hx hb dL_law_917 hl (by decide) rfl (fun ls hl => ?_)
  refine lv_aload_n hx hb dL_law_919 rfl (lv_at hl 3 rfl) ?_
  refine lv_aload_n hx hb dL_law_920 rfl (lv_at hl 1 rfl) ?_
  refine lv_iload hx hb dL_law_921 (lv_at hl 5 rfl) ?_
  refine lv_iconst (v := 1) hx hb dL_law_923 (by decide) ?_
  refine lv_iadd hx hb dL_law_924 ?_
  refine bb_topi (y := nI (4 * j + 1)) (bb_add1 j) ?_
  refine bb_sld hx hb hX hbl hbA hS (4 * j + 1) (by omega) hL e1 dL_law_925 ?_
  refine lv_aload_n hx hb dL_law_926 rfl (lv_at hl 1 rfl) ?_
  refine lv_iload hx hb dL_law_927 (lv_at hl 5 rfl) ?_
  refine lv_iconst (v := 2) hx hb dL_law_929 (by decide) ?_
  refine lv_iadd hx hb dL_law_930 ?_
  refine bb_topi (y := nI (4 * j + 2)) (bb_add2 j) ?_
  refine bb_sld hx hb hX hbl hbA hS (4 * j + 2) (by omega) hL e2 dL_law_931 ?_
  refine bb_cVf (As := [.int (nI n), .int 2]) (rest := []) (r := nI (bb_cn (fun b9 => decide (vt (31 * n + b9) ≠ -1)) 31)) (pre := []) (wc := [(g0, .inr (1, [.ref b0, .ref b1, .ref b2, .int k, .int th])), (b0, .inl (cA, 10, .inl w)), (b1, .inl (cA, 10, .inl pr)), (b2, .inl (cA, 310, .inl vt))]) (post := [(h0, .inr (0, [.ref a0, .ref a1, .ref a2, .ref a3, .int k])), (a0, .inl (cA, 10, .inl w)), (a1, .inl (cA, 10, .inl pr)), (a2, .inl (cA, 31, .inl vo)), (a3, .inl (cA, 31, .inl vf)), (o0, .inl (cL, 1, .inr (.inl (fun _ => (nI (bb_cn (fun b9 => bb_hb (vo b9) n) 31)).toInt64))))]) (wc' := [(g0, .inr (1, [.ref b0, .ref b1, .ref b2, .int k, .int 0])), (b0, .inl (cA, 10, .inl w)), (b1, .inl (cA, 10, .inl pr)), (b2, .inl (cA, 310, .inl vt))]) 0 ⟨hx, hb, hml, hown, hts⟩ (r_about_2 l dC dI cA g0 b0 b1 b2 w pr vt k th H.size n hn0) (cwV 2 hts gL_law_X1_about rfl rfl rfl (by decide +kernel) ⟨Nat.le_of_ble_eq_true rfl, Nat.le_of_ble_eq_true rfl⟩) hP hK1 hD hS hA rfl rfl rfl rfl hl.1 rfl (Nat.le_of_ble_eq_true rfl) dL_law_932 (by show _ ≤ 1046; omega) (by show _ ≤ 8687; omega) (fun H locs hP hD hS => ?_)
  have hP : va_P (dC, dI) vwCl [(g0, .inr (1, [.ref b0, .ref b1, .ref b2, .int k, .int 0])), (b0, .inl (cA, 10, .inl w)), (b1, .inl (cA, 10, .inl pr)), (b2, .inl (cA, 310, .inl vt)), (h0, .inr (0, [.ref a0, .ref a1, .ref a2, .ref a3, .int k])), (a0, .inl (cA, 10, .inl w)), (a1, .inl (cA, 10, .inl pr)), (a2, .inl (cA, 31, .inl vo)), (a3, .inl (cA, 31, .inl vf)), (o0, .inl (cL, 1, .inr (.inl (fun _ => (nI (bb_cn (fun b9 => bb_hb (vo b9) n) 31)).toInt64))))] H := hP
  have hD : va_D (bb_A s) [(g0, .inr (1, [.ref b0, .ref b1, .ref b2, .int k, .int 0])), (b0, .inl (cA, 10, .inl w)), (b1, .inl (cA, 10, .inl pr)), (b2, .inl (cA, 310, .inl vt)), (h0, .inr (0, [.ref a0, .ref a1, .ref a2, .ref a3, .int k])), (a0, .inl (cA, 10, .inl w)), (a1, .inl (cA, 10, .inl pr)), (a2, .inl (cA, 31, .inl vo)), (a3, .inl (cA, 31, .inl vf)), (o0, .inl (cL, 1, .inr (.inl (fun _ => (nI (bb_cn (fun b9 => bb_hb (vo b9) n) 31)).toInt64))))] := hD
  refine bb_topi (y := nI (bb_cn (fun b9 => bb_hb (vo b9) n) 31)) (congrArg nI (bb_e_about2 hok hn0)) ?_
  refine lv_istore (lv' := [(6, .int (nI (bb_cn (fun b9 => bb_hb (vo b9) n) 31))), (5, .int 0), (0, .ref b), (1, .ref h0), (2, .ref g0), (3, .ref o0), (4, .int (nI (4 * j)))]) hx hb dL_law_935 hl (by decide) rfl (fun ls hl => ?_)
  refine lv_aload_n hx hb dL_law_937 rfl (lv_at hl 4 rfl) ?_
  have hPm : va_P (dC, dI) vwCl [(g0, .inr (1, [.ref b0, .ref b1, .ref b2, .int k, .int 0])), (b0, .inl (cA, 10, .inl w)), (b1, .inl (cA, 10, .inl pr)), (b2, .inl (cA, 310, .inl vt))] H := bb_Pmid (pre := []) (wc := [(g0, .inr (1, [.ref b0, .ref b1, .ref b2, .int k, .int 0])), (b0, .inl (cA, 10, .inl w)), (b1, .inl (cA, 10, .inl pr)), (b2, .inl (cA, 310, .inl vt))]) (post := [(h0, .inr (0, [.ref a0, .ref a1, .ref a2, .ref a3, .int k])), (a0, .inl (cA, 10, .inl w)), (a1, .inl (cA, 10, .inl pr)), (a2, .inl (cA, 31, .inl vo)), (a3, .inl (cA, 31, .inl vf)), (o0, .inl (cL, 1, .inr (.inl (fun _ => (nI (bb_cn (fun b9 => bb_hb (vo b9) n) 31)).toInt64))))]) hP
  refine bb_cV (As := []) (rest := []) (r := 0) 0 ⟨hx, hb, hml, hown, hts⟩ (m_thrown l dC dI cA g0 b0 b1 b2 w pr vt k 0) (cwV 0 hts gL_law_X1_thrown rfl rfl rfl (by decide +kernel) ⟨Nat.le_of_ble_eq_true rfl, Nat.le_of_ble_eq_true rfl⟩) hPm hK1 rfl rfl rfl hl.1 rfl (Nat.le_of_ble_eq_true rfl) dL_law_938 (by show _ ≤ 1046; omega) (by show _ ≤ 8687; omega) ?_
  refine lv_iload hx hb dL_law_941 (lv_at hl 1 rfl) ?_
  refine lv_icmp_eq (tgt := 948) hx hb dL_law_943 rfl (fun h943 => ?_) (fun h943 => absurd rfl h943)
  refine lv_iload hx hb dL_law_948 (lv_at hl 1 rfl) ?_
  refine lv_if_ne (tgt := 965) hx hb dL_law_950 rfl (fun h950 => absurd rfl h950) (fun h950 => ?_)
  refine lv_aload_n hx hb dL_law_953 rfl (lv_at hl 5 rfl) ?_
  refine lv_iconst (v := nI 0) hx hb dL_law_954 (by decide) ?_
  refine bb_lal hx hb hK hP 9 1 rfl rfl dL_law_955 ?_
  refine lv_iload hx hb dL_law_956 (lv_at hl 0 rfl) ?_
  refine lv_i2l (v := (nI (bb_cn (fun b9 => bb_hb (vo b9) n) 31)).toInt64) hx hb dL_law_958 rfl ?_
  refine W.lcmp hx hb dL_law_959 ?_
  refine bb_topi (y := 0) (bb_cmp0 _) ?_
  refine lv_if_eq (tgt := 965) hx hb dL_law_960 rfl (fun h960 => ?_) (fun h960 => absurd rfl h960)
  refine lv_goto (tgt := 993) hx hb dL_law_965 rfl ?_
  refine W.widen (k := 11 + j) (n := 429 + 6 * j) (by omega) (by omega) ?_
  exact K _ _ _ _ _ _ _ _ _ _ _ (hok) hP hD hS (lv_sub hl [2, 3, 4, 5, 6] rfl)

set_option maxHeartbeats 4000000 in
set_option maxRecDepth 100000 in
theorem L_about_3 {p : Program} {l : Launch} {e : Env} {s : State} {m : MethodId} {below : List Frame} {meth : Method} {c : Code} {Q : State → Prop} {b L : Nat} {xs : Nat → Int32} {dC : Nat → ClassId} {dI : Nat → Nat → Nat} {cA cL : ClassId} (X : bb_Cx p l s m c b L xs dC dI cA cL) {g0 b0 b1 b2 h0 a0 a1 a2 a3 o0 : Nat} {w pr vo vf vt : Nat → Int32} {k th : Int32} {fo : Nat → Int64} {H : Heap} {locs : List Loc} {ls : Array Slot} {j : Nat} (hj : 4 * j + 3 < L) (hok : bb_ok w k pr vo vf vt)
    (hP : va_P (dC, dI) vwCl (bb_F g0 b0 b1 b2 h0 a0 a1 a2 a3 o0 cA cL w pr vo vf vt k th fo) H) (hD : va_D (bb_A s) (bb_F g0 b0 b1 b2 h0 a0 a1 a2 a3 o0 cA cL w pr vo vf vt k th fo)) (hS : va_S (bb_A s) s.heap H locs) (hl : lv_has ls 7 (bb_ll b h0 g0 o0 j)) (K : bb_K p l e s m below meth c b dC dI cA cL g0 b0 b1 b2 h0 a0 a1 a2 a3 o0 j Q) (n : Nat) (hn0 : n < 10) (e1 : xs (4 * j + 1) = nI n) (e2 : xs (4 * j + 2) = 3) : W p l e room_1 s m #[Value.ref b] below meth c H locs (10 + j) (423 + 6 * j) Q (F0 m 900 ls []) := by
  obtain ⟨hx, hb, hml, hown, hts, hX, hbl, hK, hZ, htr, hL⟩ := X
  have hA : ∀ q : Nat, s.heap.size ≤ q → bb_A s q := fun _ h => h
  have hbA : ¬ bb_A s b := Nat.not_le.mpr hbl
  have hK1 := hK.sub [0] (tys' := [(cA, .int)]) rfl
  have hjb : j < 512 := by omega
  have hl : lv_has ls 7 [(0, .ref b), (1, .ref h0), (2, .ref g0), (3, .ref o0), (4, .int (nI (4 * j)))] := hl
  have hP : va_P (dC, dI) vwCl [(g0, .inr (1, [.ref b0, .ref b1, .ref b2, .int k, .int th])), (b0, .inl (cA, 10, .inl w)), (b1, .inl (cA, 10, .inl pr)), (b2, .inl (cA, 310, .inl vt)), (h0, .inr (0, [.ref a0, .ref a1, .ref a2, .ref a3, .int k])), (a0, .inl (cA, 10, .inl w)), (a1, .inl (cA, 10, .inl pr)), (a2, .inl (cA, 31, .inl vo)), (a3, .inl (cA, 31, .inl vf)), (o0, .inl (cL, 1, .inr (.inl fo)))] H := hP
  have hD : va_D (bb_A s) [(g0, .inr (1, [.ref b0, .ref b1, .ref b2, .int k, .int th])), (b0, .inl (cA, 10, .inl w)), (b1, .inl (cA, 10, .inl pr)), (b2, .inl (cA, 310, .inl vt)), (h0, .inr (0, [.ref a0, .ref a1, .ref a2, .ref a3, .int k])), (a0, .inl (cA, 10, .inl w)), (a1, .inl (cA, 10, .inl pr)), (a2, .inl (cA, 31, .inl vo)), (a3, .inl (cA, 31, .inl vf)), (o0, .inl (cL, 1, .inr (.inl fo)))] := hD
  refine lv_aload_n hx hb dL_law_900 rfl (lv_at hl 1 rfl) ?_
  refine lv_aload_n hx hb dL_law_901 rfl (lv_at hl 0 rfl) ?_
  refine lv_iload hx hb dL_law_902 (lv_at hl 4 rfl) ?_
  refine lv_iconst (v := 1) hx hb dL_law_904 (by decide) ?_
  refine lv_iadd hx hb dL_law_905 ?_
  refine bb_topi (y := nI (4 * j + 1)) (bb_add1 j) ?_
  refine bb_sld hx hb hX hbl hbA hS (4 * j + 1) (by omega) hL e1 dL_law_906 ?_
  refine lv_aload_n hx hb dL_law_907 rfl (lv_at hl 0 rfl) ?_
  refine lv_iload hx hb dL_law_908 (lv_at hl 4 rfl) ?_
  refine lv_iconst (v := 2) hx hb dL_law_910 (by decide) ?_
  refine lv_iadd hx hb dL_law_911 ?_
  refine bb_topi (y := nI (4 * j + 2)) (bb_add2 j) ?_
  refine bb_sld hx hb hX hbl hbA hS (4 * j + 2) (by omega) hL e2 dL_law_912 ?_
  refine lv_aload_n hx hb dL_law_913 rfl (lv_at hl 3 rfl) ?_
  refine bb_cWf (As := [.ref h0, .int (nI n), .int 3, .ref o0]) (rest := []) (r := 0) (pre := [(g0, .inr (1, [.ref b0, .ref b1, .ref b2, .int k, .int th])), (b0, .inl (cA, 10, .inl w)), (b1, .inl (cA, 10, .inl pr)), (b2, .inl (cA, 310, .inl vt))]) (wc := [(h0, .inr (0, [.ref a0, .ref a1, .ref a2, .ref a3, .int k])), (a0, .inl (cA, 10, .inl w)), (a1, .inl (cA, 10, .inl pr)), (a2, .inl (cA, 31, .inl vo)), (a3, .inl (cA, 31, .inl vf)), (o0, .inl (cL, 1, .inr (.inl fo)))]) (wc' := [(h0, .inr (0, [.ref a0, .ref a1, .ref a2, .ref a3, .int k])), (a0, .inl (cA, 10, .inl w)), (a1, .inl (cA, 10, .inl pr)), (a2, .inl (cA, 31, .inl vo)), (a3, .inl (cA, 31, .inl vf)), (o0, .inl (cL, 1, .inr (.inl (fun _ => (bb_la (fun c9 => decide (vo c9 &&& (1 <<< (nI n &&& 31)) ≠ 0)) 31).toInt64))))]) (post := []) (Px := fun _ => True) ⟨hx, hb, hml, hown, hts⟩ (w_about_3 l dC dI cA cL h0 a0 a1 a2 a3 o0 w pr vo vf k fo H.size n hn0) (bb_cw 4 hts gL_law_L_about rfl rfl rfl gS_law_L_about gT_law_L_about gI_law_L_about (by decide +kernel) ⟨Nat.le_of_ble_eq_true rfl, Nat.le_of_ble_eq_true rfl⟩) (fun _ _ _ _ _ => trivial) (fun _ _ _ => trivial) hP hK hD hS hA rfl rfl hl.1 rfl (Nat.le_of_ble_eq_true rfl) dL_law_914 (by show _ ≤ 1046; omega) (by show _ ≤ 8687; omega) (fun H locs hP hD hS => ?_)
  have hP : va_P (dC, dI) vwCl [(g0, .inr (1, [.ref b0, .ref b1, .ref b2, .int k, .int th])), (b0, .inl (cA, 10, .inl w)), (b1, .inl (cA, 10, .inl pr)), (b2, .inl (cA, 310, .inl vt)), (h0, .inr (0, [.ref a0, .ref a1, .ref a2, .ref a3, .int k])), (a0, .inl (cA, 10, .inl w)), (a1, .inl (cA, 10, .inl pr)), (a2, .inl (cA, 31, .inl vo)), (a3, .inl (cA, 31, .inl vf)), (o0, .inl (cL, 1, .inr (.inl (fun _ => (bb_la (fun c9 => decide (vo c9 &&& (1 <<< (nI n &&& 31)) ≠ 0)) 31).toInt64))))] H := hP
  have hD : va_D (bb_A s) [(g0, .inr (1, [.ref b0, .ref b1, .ref b2, .int k, .int th])), (b0, .inl (cA, 10, .inl w)), (b1, .inl (cA, 10, .inl pr)), (b2, .inl (cA, 310, .inl vt)), (h0, .inr (0, [.ref a0, .ref a1, .ref a2, .ref a3, .int k])), (a0, .inl (cA, 10, .inl w)), (a1, .inl (cA, 10, .inl pr)), (a2, .inl (cA, 31, .inl vo)), (a3, .inl (cA, 31, .inl vf)), (o0, .inl (cL, 1, .inr (.inl (fun _ => (bb_la (fun c9 => decide (vo c9 &&& (1 <<< (nI n &&& 31)) ≠ 0)) 31).toInt64))))] := hD
  refine lv_istore (lv' := [(5, .int 0), (0, .ref b), (1, .ref h0), (2, .ref g0), (3, .ref o0), (4, .int (nI (4 * j)))]) hx hb dL_law_917 hl (by decide) rfl (fun ls hl => ?_)
  refine lv_aload_n hx hb dL_law_919 rfl (lv_at hl 3 rfl) ?_
  refine lv_aload_n hx hb dL_law_920 rfl (lv_at hl 1 rfl) ?_
  refine lv_iload hx hb dL_law_921 (lv_at hl 5 rfl) ?_
  refine lv_iconst (v := 1) hx hb dL_law_923 (by decide) ?_
  refine lv_iadd hx hb dL_law_924 ?_
  refine bb_topi (y := nI (4 * j + 1)) (bb_add1 j) ?_
  refine bb_sld hx hb hX hbl hbA hS (4 * j + 1) (by omega) hL e1 dL_law_925 ?_
  refine lv_aload_n hx hb dL_law_926 rfl (lv_at hl 1 rfl) ?_
  refine lv_iload hx hb dL_law_927 (lv_at hl 5 rfl) ?_
  refine lv_iconst (v := 2) hx hb dL_law_929 (by decide) ?_
  refine lv_iadd hx hb dL_law_930 ?_
  refine bb_topi (y := nI (4 * j + 2)) (bb_add2 j) ?_
  refine bb_sld hx hb hX hbl hbA hS (4 * j + 2) (by omega) hL e2 dL_law_931 ?_
  refine bb_cVf (As := [.int (nI n), .int 3]) (rest := []) (r := bb_la (fun b9 => decide (vt (31 * n + b9) ≠ -1)) 31) (pre := []) (wc := [(g0, .inr (1, [.ref b0, .ref b1, .ref b2, .int k, .int th])), (b0, .inl (cA, 10, .inl w)), (b1, .inl (cA, 10, .inl pr)), (b2, .inl (cA, 310, .inl vt))]) (post := [(h0, .inr (0, [.ref a0, .ref a1, .ref a2, .ref a3, .int k])), (a0, .inl (cA, 10, .inl w)), (a1, .inl (cA, 10, .inl pr)), (a2, .inl (cA, 31, .inl vo)), (a3, .inl (cA, 31, .inl vf)), (o0, .inl (cL, 1, .inr (.inl (fun _ => (bb_la (fun c9 => decide (vo c9 &&& (1 <<< (nI n &&& 31)) ≠ 0)) 31).toInt64))))]) (wc' := [(g0, .inr (1, [.ref b0, .ref b1, .ref b2, .int k, .int 0])), (b0, .inl (cA, 10, .inl w)), (b1, .inl (cA, 10, .inl pr)), (b2, .inl (cA, 310, .inl vt))]) 0 ⟨hx, hb, hml, hown, hts⟩ (r_about_3 l dC dI cA g0 b0 b1 b2 w pr vt k th H.size n hn0) (cwV 2 hts gL_law_X1_about rfl rfl rfl (by decide +kernel) ⟨Nat.le_of_ble_eq_true rfl, Nat.le_of_ble_eq_true rfl⟩) hP hK1 hD hS hA rfl rfl rfl rfl hl.1 rfl (Nat.le_of_ble_eq_true rfl) dL_law_932 (by show _ ≤ 1046; omega) (by show _ ≤ 8687; omega) (fun H locs hP hD hS => ?_)
  have hP : va_P (dC, dI) vwCl [(g0, .inr (1, [.ref b0, .ref b1, .ref b2, .int k, .int 0])), (b0, .inl (cA, 10, .inl w)), (b1, .inl (cA, 10, .inl pr)), (b2, .inl (cA, 310, .inl vt)), (h0, .inr (0, [.ref a0, .ref a1, .ref a2, .ref a3, .int k])), (a0, .inl (cA, 10, .inl w)), (a1, .inl (cA, 10, .inl pr)), (a2, .inl (cA, 31, .inl vo)), (a3, .inl (cA, 31, .inl vf)), (o0, .inl (cL, 1, .inr (.inl (fun _ => (bb_la (fun c9 => decide (vo c9 &&& (1 <<< (nI n &&& 31)) ≠ 0)) 31).toInt64))))] H := hP
  have hD : va_D (bb_A s) [(g0, .inr (1, [.ref b0, .ref b1, .ref b2, .int k, .int 0])), (b0, .inl (cA, 10, .inl w)), (b1, .inl (cA, 10, .inl pr)), (b2, .inl (cA, 310, .inl vt)), (h0, .inr (0, [.ref a0, .ref a1, .ref a2, .ref a3, .int k])), (a0, .inl (cA, 10, .inl w)), (a1, .inl (cA, 10, .inl pr)), (a2, .inl (cA, 31, .inl vo)), (a3, .inl (cA, 31, .inl vf)), (o0, .inl (cL, 1, .inr (.inl (fun _ => (bb_la (fun c9 => decide (vo c9 &&& (1 <<< (nI n &&& 31)) ≠ 0)) 31).toInt64))))] := hD
  refine bb_topi (y := bb_la (fun c9 => decide (vo c9 &&& (1 <<< (nI n &&& 31)) ≠ 0)) 31) (bb_e_about3 hok hn0) ?_
  refine lv_istore (lv' := [(6, .int (bb_la (fun c9 => decide (vo c9 &&& (1 <<< (nI n &&& 31)) ≠ 0)) 31)), (5, .int 0), (0, .ref b), (1, .ref h0), (2, .ref g0), (3, .ref o0), (4, .int (nI (4 * j)))]) hx hb dL_law_935 hl (by decide) rfl (fun ls hl => ?_)
  refine lv_aload_n hx hb dL_law_937 rfl (lv_at hl 4 rfl) ?_
  have hPm : va_P (dC, dI) vwCl [(g0, .inr (1, [.ref b0, .ref b1, .ref b2, .int k, .int 0])), (b0, .inl (cA, 10, .inl w)), (b1, .inl (cA, 10, .inl pr)), (b2, .inl (cA, 310, .inl vt))] H := bb_Pmid (pre := []) (wc := [(g0, .inr (1, [.ref b0, .ref b1, .ref b2, .int k, .int 0])), (b0, .inl (cA, 10, .inl w)), (b1, .inl (cA, 10, .inl pr)), (b2, .inl (cA, 310, .inl vt))]) (post := [(h0, .inr (0, [.ref a0, .ref a1, .ref a2, .ref a3, .int k])), (a0, .inl (cA, 10, .inl w)), (a1, .inl (cA, 10, .inl pr)), (a2, .inl (cA, 31, .inl vo)), (a3, .inl (cA, 31, .inl vf)), (o0, .inl (cL, 1, .inr (.inl (fun _ => (bb_la (fun c9 => decide (vo c9 &&& (1 <<< (nI n &&& 31)) ≠ 0)) 31).toInt64))))]) hP
  refine bb_cV (As := []) (rest := []) (r := 0) 0 ⟨hx, hb, hml, hown, hts⟩ (m_thrown l dC dI cA g0 b0 b1 b2 w pr vt k 0) (cwV 0 hts gL_law_X1_thrown rfl rfl rfl (by decide +kernel) ⟨Nat.le_of_ble_eq_true rfl, Nat.le_of_ble_eq_true rfl⟩) hPm hK1 rfl rfl rfl hl.1 rfl (Nat.le_of_ble_eq_true rfl) dL_law_938 (by show _ ≤ 1046; omega) (by show _ ≤ 8687; omega) ?_
  refine lv_iload hx hb dL_law_941 (lv_at hl 1 rfl) ?_
  refine lv_icmp_eq (tgt := 948) hx hb dL_law_943 rfl (fun h943 => ?_) (fun h943 => absurd rfl h943)
  refine lv_iload hx hb dL_law_948 (lv_at hl 1 rfl) ?_
  refine lv_if_ne (tgt := 965) hx hb dL_law_950 rfl (fun h950 => absurd rfl h950) (fun h950 => ?_)
  refine lv_aload_n hx hb dL_law_953 rfl (lv_at hl 5 rfl) ?_
  refine lv_iconst (v := nI 0) hx hb dL_law_954 (by decide) ?_
  refine bb_lal hx hb hK hP 9 1 rfl rfl dL_law_955 ?_
  refine lv_iload hx hb dL_law_956 (lv_at hl 0 rfl) ?_
  refine lv_i2l (v := (bb_la (fun c9 => decide (vo c9 &&& (1 <<< (nI n &&& 31)) ≠ 0)) 31).toInt64) hx hb dL_law_958 rfl ?_
  refine W.lcmp hx hb dL_law_959 ?_
  refine bb_topi (y := 0) (bb_cmp0 _) ?_
  refine lv_if_eq (tgt := 965) hx hb dL_law_960 rfl (fun h960 => ?_) (fun h960 => absurd rfl h960)
  refine lv_goto (tgt := 993) hx hb dL_law_965 rfl ?_
  refine W.widen (k := 11 + j) (n := 429 + 6 * j) (by omega) (by omega) ?_
  exact K _ _ _ _ _ _ _ _ _ _ _ (hok) hP hD hS (lv_sub hl [2, 3, 4, 5, 6] rfl)

set_option maxHeartbeats 4000000 in
set_option maxRecDepth 100000 in
theorem L_about1 {p : Program} {l : Launch} {e : Env} {s : State} {m : MethodId} {below : List Frame} {meth : Method} {c : Code} {Q : State → Prop} {b L : Nat} {xs : Nat → Int32} {dC : Nat → ClassId} {dI : Nat → Nat → Nat} {cA cL : ClassId} (X : bb_Cx p l s m c b L xs dC dI cA cL) {g0 b0 b1 b2 h0 a0 a1 a2 a3 o0 : Nat} {w pr vo vf vt : Nat → Int32} {k th : Int32} {fo : Nat → Int64} {H : Heap} {locs : List Loc} {ls : Array Slot} {j : Nat} (hj : 4 * j + 3 < L) (hok : bb_ok w k pr vo vf vt)
    (hP : va_P (dC, dI) vwCl (bb_F g0 b0 b1 b2 h0 a0 a1 a2 a3 o0 cA cL w pr vo vf vt k th fo) H) (hD : va_D (bb_A s) (bb_F g0 b0 b1 b2 h0 a0 a1 a2 a3 o0 cA cL w pr vo vf vt k th fo)) (hS : va_S (bb_A s) s.heap H locs) (hl : lv_has ls 7 (bb_ll b h0 g0 o0 j)) (K : bb_K p l e s m below meth c b dC dI cA cL g0 b0 b1 b2 h0 a0 a1 a2 a3 o0 j Q) (x0 x1 : Int32) (hbad : bb_out x0 (nI 10) = true) (e1 : xs (4 * j + 1) = x0) (e2 : xs (4 * j + 2) = x1) : W p l e room_1 s m #[Value.ref b] below meth c H locs (10 + j) (423 + 6 * j) Q (F0 m 900 ls []) := by
  obtain ⟨hx, hb, hml, hown, hts, hX, hbl, hK, hZ, htr, hL⟩ := X
  have hA : ∀ q : Nat, s.heap.size ≤ q → bb_A s q := fun _ h => h
  have hbA : ¬ bb_A s b := Nat.not_le.mpr hbl
  have hK1 := hK.sub [0] (tys' := [(cA, .int)]) rfl
  have hjb : j < 512 := by omega
  have hl : lv_has ls 7 [(0, .ref b), (1, .ref h0), (2, .ref g0), (3, .ref o0), (4, .int (nI (4 * j)))] := hl
  have hP : va_P (dC, dI) vwCl [(g0, .inr (1, [.ref b0, .ref b1, .ref b2, .int k, .int th])), (b0, .inl (cA, 10, .inl w)), (b1, .inl (cA, 10, .inl pr)), (b2, .inl (cA, 310, .inl vt)), (h0, .inr (0, [.ref a0, .ref a1, .ref a2, .ref a3, .int k])), (a0, .inl (cA, 10, .inl w)), (a1, .inl (cA, 10, .inl pr)), (a2, .inl (cA, 31, .inl vo)), (a3, .inl (cA, 31, .inl vf)), (o0, .inl (cL, 1, .inr (.inl fo)))] H := hP
  have hD : va_D (bb_A s) [(g0, .inr (1, [.ref b0, .ref b1, .ref b2, .int k, .int th])), (b0, .inl (cA, 10, .inl w)), (b1, .inl (cA, 10, .inl pr)), (b2, .inl (cA, 310, .inl vt)), (h0, .inr (0, [.ref a0, .ref a1, .ref a2, .ref a3, .int k])), (a0, .inl (cA, 10, .inl w)), (a1, .inl (cA, 10, .inl pr)), (a2, .inl (cA, 31, .inl vo)), (a3, .inl (cA, 31, .inl vf)), (o0, .inl (cL, 1, .inr (.inl fo)))] := hD
  refine lv_aload_n hx hb dL_law_900 rfl (lv_at hl 1 rfl) ?_
  refine lv_aload_n hx hb dL_law_901 rfl (lv_at hl 0 rfl) ?_
  refine lv_iload hx hb dL_law_902 (lv_at hl 4 rfl) ?_
  refine lv_iconst (v := 1) hx hb dL_law_904 (by decide) ?_
  refine lv_iadd hx hb dL_law_905 ?_
  refine bb_topi (y := nI (4 * j + 1)) (bb_add1 j) ?_
  refine bb_sld hx hb hX hbl hbA hS (4 * j + 1) (by omega) hL e1 dL_law_906 ?_
  refine lv_aload_n hx hb dL_law_907 rfl (lv_at hl 0 rfl) ?_
  refine lv_iload hx hb dL_law_908 (lv_at hl 4 rfl) ?_
  refine lv_iconst (v := 2) hx hb dL_law_910 (by decide) ?_
  refine lv_iadd hx hb dL_law_911 ?_
  refine bb_topi (y := nI (4 * j + 2)) (bb_add2 j) ?_
  refine bb_sld hx hb hX hbl hbA hS (4 * j + 2) (by omega) hL e2 dL_law_912 ?_
  refine lv_aload_n hx hb dL_law_913 rfl (lv_at hl 3 rfl) ?_
  refine bb_cWf (As := [.ref h0, .int x0, .int x1, .ref o0]) (rest := []) (r := 1) (pre := [(g0, .inr (1, [.ref b0, .ref b1, .ref b2, .int k, .int th])), (b0, .inl (cA, 10, .inl w)), (b1, .inl (cA, 10, .inl pr)), (b2, .inl (cA, 310, .inl vt))]) (wc := [(h0, .inr (0, [.ref a0, .ref a1, .ref a2, .ref a3, .int k])), (a0, .inl (cA, 10, .inl w)), (a1, .inl (cA, 10, .inl pr)), (a2, .inl (cA, 31, .inl vo)), (a3, .inl (cA, 31, .inl vf)), (o0, .inl (cL, 1, .inr (.inl fo)))]) (wc' := [(h0, .inr (0, [.ref a0, .ref a1, .ref a2, .ref a3, .int k])), (a0, .inl (cA, 10, .inl w)), (a1, .inl (cA, 10, .inl pr)), (a2, .inl (cA, 31, .inl vo)), (a3, .inl (cA, 31, .inl vf)), (o0, .inl (cL, 1, .inr (.inl fo)))]) (post := []) (Px := fun U => bb_TS s.heap.size U) ⟨hx, hb, hml, hown, hts⟩ (w_about1 l htr s.heap.size dC dI cA cL h0 a0 a1 a2 a3 o0 w pr vo vf k fo H.size x0 x1 hbad) (bb_cw 4 hts gL_law_L_about rfl rfl rfl gS_law_L_about gT_law_L_about gI_law_L_about (by decide +kernel) ⟨Nat.le_of_ble_eq_true rfl, Nat.le_of_ble_eq_true rfl⟩) (fun a9 U9 g9 m9 q9 => bb_TS.same (u := U9) (U := U9.calling g9 m9 a9) rfl rfl q9) (fun U9 hU9 hW9 => hZ.mv hW9 (fun x9 h9 => by rw [hU9]; exact hS.2.1 x9 h9 (Nat.not_le.mpr h9))) hP hK hD hS hA rfl rfl hl.1 rfl (Nat.le_of_ble_eq_true rfl) dL_law_914 (by show _ ≤ 1046; omega) (by show _ ≤ 8687; omega) (fun H locs hP hD hS => ?_)
  have hP : va_P (dC, dI) vwCl [(g0, .inr (1, [.ref b0, .ref b1, .ref b2, .int k, .int th])), (b0, .inl (cA, 10, .inl w)), (b1, .inl (cA, 10, .inl pr)), (b2, .inl (cA, 310, .inl vt)), (h0, .inr (0, [.ref a0, .ref a1, .ref a2, .ref a3, .int k])), (a0, .inl (cA, 10, .inl w)), (a1, .inl (cA, 10, .inl pr)), (a2, .inl (cA, 31, .inl vo)), (a3, .inl (cA, 31, .inl vf)), (o0, .inl (cL, 1, .inr (.inl fo)))] H := hP
  have hD : va_D (bb_A s) [(g0, .inr (1, [.ref b0, .ref b1, .ref b2, .int k, .int th])), (b0, .inl (cA, 10, .inl w)), (b1, .inl (cA, 10, .inl pr)), (b2, .inl (cA, 310, .inl vt)), (h0, .inr (0, [.ref a0, .ref a1, .ref a2, .ref a3, .int k])), (a0, .inl (cA, 10, .inl w)), (a1, .inl (cA, 10, .inl pr)), (a2, .inl (cA, 31, .inl vo)), (a3, .inl (cA, 31, .inl vf)), (o0, .inl (cL, 1, .inr (.inl fo)))] := hD
  refine lv_istore (lv' := [(5, .int 1), (0, .ref b), (1, .ref h0), (2, .ref g0), (3, .ref o0), (4, .int (nI (4 * j)))]) hx hb dL_law_917 hl (by decide) rfl (fun ls hl => ?_)
  refine lv_aload_n hx hb dL_law_919 rfl (lv_at hl 3 rfl) ?_
  refine lv_aload_n hx hb dL_law_920 rfl (lv_at hl 1 rfl) ?_
  refine lv_iload hx hb dL_law_921 (lv_at hl 5 rfl) ?_
  refine lv_iconst (v := 1) hx hb dL_law_923 (by decide) ?_
  refine lv_iadd hx hb dL_law_924 ?_
  refine bb_topi (y := nI (4 * j + 1)) (bb_add1 j) ?_
  refine bb_sld hx hb hX hbl hbA hS (4 * j + 1) (by omega) hL e1 dL_law_925 ?_
  refine lv_aload_n hx hb dL_law_926 rfl (lv_at hl 1 rfl) ?_
  refine lv_iload hx hb dL_law_927 (lv_at hl 5 rfl) ?_
  refine lv_iconst (v := 2) hx hb dL_law_929 (by decide) ?_
  refine lv_iadd hx hb dL_law_930 ?_
  refine bb_topi (y := nI (4 * j + 2)) (bb_add2 j) ?_
  refine bb_sld hx hb hX hbl hbA hS (4 * j + 2) (by omega) hL e2 dL_law_931 ?_
  refine bb_cVf (As := [.int x0, .int x1]) (rest := []) (r := 0) (pre := []) (wc := [(g0, .inr (1, [.ref b0, .ref b1, .ref b2, .int k, .int th])), (b0, .inl (cA, 10, .inl w)), (b1, .inl (cA, 10, .inl pr)), (b2, .inl (cA, 310, .inl vt))]) (post := [(h0, .inr (0, [.ref a0, .ref a1, .ref a2, .ref a3, .int k])), (a0, .inl (cA, 10, .inl w)), (a1, .inl (cA, 10, .inl pr)), (a2, .inl (cA, 31, .inl vo)), (a3, .inl (cA, 31, .inl vf)), (o0, .inl (cL, 1, .inr (.inl fo)))]) (wc' := [(g0, .inr (1, [.ref b0, .ref b1, .ref b2, .int k, .int 1])), (b0, .inl (cA, 10, .inl w)), (b1, .inl (cA, 10, .inl pr)), (b2, .inl (cA, 310, .inl vt))]) 0 ⟨hx, hb, hml, hown, hts⟩ (r_about1 l dC dI cA g0 b0 b1 b2 w pr vt k th H.size x0 x1 hbad) (cwV 2 hts gL_law_X1_about rfl rfl rfl (by decide +kernel) ⟨Nat.le_of_ble_eq_true rfl, Nat.le_of_ble_eq_true rfl⟩) hP hK1 hD hS hA rfl rfl rfl rfl hl.1 rfl (Nat.le_of_ble_eq_true rfl) dL_law_932 (by show _ ≤ 1046; omega) (by show _ ≤ 8687; omega) (fun H locs hP hD hS => ?_)
  have hP : va_P (dC, dI) vwCl [(g0, .inr (1, [.ref b0, .ref b1, .ref b2, .int k, .int 1])), (b0, .inl (cA, 10, .inl w)), (b1, .inl (cA, 10, .inl pr)), (b2, .inl (cA, 310, .inl vt)), (h0, .inr (0, [.ref a0, .ref a1, .ref a2, .ref a3, .int k])), (a0, .inl (cA, 10, .inl w)), (a1, .inl (cA, 10, .inl pr)), (a2, .inl (cA, 31, .inl vo)), (a3, .inl (cA, 31, .inl vf)), (o0, .inl (cL, 1, .inr (.inl fo)))] H := hP
  have hD : va_D (bb_A s) [(g0, .inr (1, [.ref b0, .ref b1, .ref b2, .int k, .int 1])), (b0, .inl (cA, 10, .inl w)), (b1, .inl (cA, 10, .inl pr)), (b2, .inl (cA, 310, .inl vt)), (h0, .inr (0, [.ref a0, .ref a1, .ref a2, .ref a3, .int k])), (a0, .inl (cA, 10, .inl w)), (a1, .inl (cA, 10, .inl pr)), (a2, .inl (cA, 31, .inl vo)), (a3, .inl (cA, 31, .inl vf)), (o0, .inl (cL, 1, .inr (.inl fo)))] := hD
  refine lv_istore (lv' := [(6, .int 0), (5, .int 1), (0, .ref b), (1, .ref h0), (2, .ref g0), (3, .ref o0), (4, .int (nI (4 * j)))]) hx hb dL_law_935 hl (by decide) rfl (fun ls hl => ?_)
  refine lv_aload_n hx hb dL_law_937 rfl (lv_at hl 4 rfl) ?_
  have hPm : va_P (dC, dI) vwCl [(g0, .inr (1, [.ref b0, .ref b1, .ref b2, .int k, .int 1])), (b0, .inl (cA, 10, .inl w)), (b1, .inl (cA, 10, .inl pr)), (b2, .inl (cA, 310, .inl vt))] H := bb_Pmid (pre := []) (wc := [(g0, .inr (1, [.ref b0, .ref b1, .ref b2, .int k, .int 1])), (b0, .inl (cA, 10, .inl w)), (b1, .inl (cA, 10, .inl pr)), (b2, .inl (cA, 310, .inl vt))]) (post := [(h0, .inr (0, [.ref a0, .ref a1, .ref a2, .ref a3, .int k])), (a0, .inl (cA, 10, .inl w)), (a1, .inl (cA, 10, .inl pr)), (a2, .inl (cA, 31, .inl vo)), (a3, .inl (cA, 31, .inl vf)), (o0, .inl (cL, 1, .inr (.inl fo)))]) hP
  refine bb_cV (As := []) (rest := []) (r := 1) 0 ⟨hx, hb, hml, hown, hts⟩ (m_thrown l dC dI cA g0 b0 b1 b2 w pr vt k 1) (cwV 0 hts gL_law_X1_thrown rfl rfl rfl (by decide +kernel) ⟨Nat.le_of_ble_eq_true rfl, Nat.le_of_ble_eq_true rfl⟩) hPm hK1 rfl rfl rfl hl.1 rfl (Nat.le_of_ble_eq_true rfl) dL_law_938 (by show _ ≤ 1046; omega) (by show _ ≤ 8687; omega) ?_
  refine lv_iload hx hb dL_law_941 (lv_at hl 1 rfl) ?_
  refine lv_icmp_eq (tgt := 948) hx hb dL_law_943 rfl (fun h943 => ?_) (fun h943 => absurd rfl h943)
  refine lv_iload hx hb dL_law_948 (lv_at hl 1 rfl) ?_
  refine lv_if_ne (tgt := 965) hx hb dL_law_950 rfl (fun h950 => ?_) (fun h950 => absurd h950 (by decide))
  refine lv_goto (tgt := 993) hx hb dL_law_965 rfl ?_
  refine W.widen (k := 11 + j) (n := 429 + 6 * j) (by omega) (by omega) ?_
  exact K _ _ _ _ _ _ _ _ _ _ _ (hok) hP hD hS (lv_sub hl [2, 3, 4, 5, 6] rfl)

set_option maxHeartbeats 4000000 in
set_option maxRecDepth 100000 in
theorem L_about2 {p : Program} {l : Launch} {e : Env} {s : State} {m : MethodId} {below : List Frame} {meth : Method} {c : Code} {Q : State → Prop} {b L : Nat} {xs : Nat → Int32} {dC : Nat → ClassId} {dI : Nat → Nat → Nat} {cA cL : ClassId} (X : bb_Cx p l s m c b L xs dC dI cA cL) {g0 b0 b1 b2 h0 a0 a1 a2 a3 o0 : Nat} {w pr vo vf vt : Nat → Int32} {k th : Int32} {fo : Nat → Int64} {H : Heap} {locs : List Loc} {ls : Array Slot} {j : Nat} (hj : 4 * j + 3 < L) (hok : bb_ok w k pr vo vf vt)
    (hP : va_P (dC, dI) vwCl (bb_F g0 b0 b1 b2 h0 a0 a1 a2 a3 o0 cA cL w pr vo vf vt k th fo) H) (hD : va_D (bb_A s) (bb_F g0 b0 b1 b2 h0 a0 a1 a2 a3 o0 cA cL w pr vo vf vt k th fo)) (hS : va_S (bb_A s) s.heap H locs) (hl : lv_has ls 7 (bb_ll b h0 g0 o0 j)) (K : bb_K p l e s m below meth c b dC dI cA cL g0 b0 b1 b2 h0 a0 a1 a2 a3 o0 j Q) (n : Nat) (hn0 : n < 10) (x1 : Int32) (hbad : x1 < 0 ∨ ¬ x1 ≤ nI 3) (e1 : xs (4 * j + 1) = nI n) (e2 : xs (4 * j + 2) = x1) : W p l e room_1 s m #[Value.ref b] below meth c H locs (10 + j) (423 + 6 * j) Q (F0 m 900 ls []) := by
  obtain ⟨hx, hb, hml, hown, hts, hX, hbl, hK, hZ, htr, hL⟩ := X
  have hA : ∀ q : Nat, s.heap.size ≤ q → bb_A s q := fun _ h => h
  have hbA : ¬ bb_A s b := Nat.not_le.mpr hbl
  have hK1 := hK.sub [0] (tys' := [(cA, .int)]) rfl
  have hjb : j < 512 := by omega
  have hl : lv_has ls 7 [(0, .ref b), (1, .ref h0), (2, .ref g0), (3, .ref o0), (4, .int (nI (4 * j)))] := hl
  have hP : va_P (dC, dI) vwCl [(g0, .inr (1, [.ref b0, .ref b1, .ref b2, .int k, .int th])), (b0, .inl (cA, 10, .inl w)), (b1, .inl (cA, 10, .inl pr)), (b2, .inl (cA, 310, .inl vt)), (h0, .inr (0, [.ref a0, .ref a1, .ref a2, .ref a3, .int k])), (a0, .inl (cA, 10, .inl w)), (a1, .inl (cA, 10, .inl pr)), (a2, .inl (cA, 31, .inl vo)), (a3, .inl (cA, 31, .inl vf)), (o0, .inl (cL, 1, .inr (.inl fo)))] H := hP
  have hD : va_D (bb_A s) [(g0, .inr (1, [.ref b0, .ref b1, .ref b2, .int k, .int th])), (b0, .inl (cA, 10, .inl w)), (b1, .inl (cA, 10, .inl pr)), (b2, .inl (cA, 310, .inl vt)), (h0, .inr (0, [.ref a0, .ref a1, .ref a2, .ref a3, .int k])), (a0, .inl (cA, 10, .inl w)), (a1, .inl (cA, 10, .inl pr)), (a2, .inl (cA, 31, .inl vo)), (a3, .inl (cA, 31, .inl vf)), (o0, .inl (cL, 1, .inr (.inl fo)))] := hD
  refine lv_aload_n hx hb dL_law_900 rfl (lv_at hl 1 rfl) ?_
  refine lv_aload_n hx hb dL_law_901 rfl (lv_at hl 0 rfl) ?_
  refine lv_iload hx hb dL_law_902 (lv_at hl 4 rfl) ?_
  refine lv_iconst (v := 1) hx hb dL_law_904 (by decide) ?_
  refine lv_iadd hx hb dL_law_905 ?_
  refine bb_topi (y := nI (4 * j + 1)) (bb_add1 j) ?_
  refine bb_sld hx hb hX hbl hbA hS (4 * j + 1) (by omega) hL e1 dL_law_906 ?_
  refine lv_aload_n hx hb dL_law_907 rfl (lv_at hl 0 rfl) ?_
  refine lv_iload hx hb dL_law_908 (lv_at hl 4 rfl) ?_
  refine lv_iconst (v := 2) hx hb dL_law_910 (by decide) ?_
  refine lv_iadd hx hb dL_law_911 ?_
  refine bb_topi (y := nI (4 * j + 2)) (bb_add2 j) ?_
  refine bb_sld hx hb hX hbl hbA hS (4 * j + 2) (by omega) hL e2 dL_law_912 ?_
  refine lv_aload_n hx hb dL_law_913 rfl (lv_at hl 3 rfl) ?_
  refine bb_cWf (As := [.ref h0, .int (nI n), .int x1, .ref o0]) (rest := []) (r := 2) (pre := [(g0, .inr (1, [.ref b0, .ref b1, .ref b2, .int k, .int th])), (b0, .inl (cA, 10, .inl w)), (b1, .inl (cA, 10, .inl pr)), (b2, .inl (cA, 310, .inl vt))]) (wc := [(h0, .inr (0, [.ref a0, .ref a1, .ref a2, .ref a3, .int k])), (a0, .inl (cA, 10, .inl w)), (a1, .inl (cA, 10, .inl pr)), (a2, .inl (cA, 31, .inl vo)), (a3, .inl (cA, 31, .inl vf)), (o0, .inl (cL, 1, .inr (.inl fo)))]) (wc' := [(h0, .inr (0, [.ref a0, .ref a1, .ref a2, .ref a3, .int k])), (a0, .inl (cA, 10, .inl w)), (a1, .inl (cA, 10, .inl pr)), (a2, .inl (cA, 31, .inl vo)), (a3, .inl (cA, 31, .inl vf)), (o0, .inl (cL, 1, .inr (.inl fo)))]) (post := []) (Px := fun U => bb_TS s.heap.size U) ⟨hx, hb, hml, hown, hts⟩ (w_about2 l htr s.heap.size dC dI cA cL h0 a0 a1 a2 a3 o0 w pr vo vf k fo H.size n hn0 x1 ((bb_le_int (by decide)).mp hbad)) (bb_cw 4 hts gL_law_L_about rfl rfl rfl gS_law_L_about gT_law_L_about gI_law_L_about (by decide +kernel) ⟨Nat.le_of_ble_eq_true rfl, Nat.le_of_ble_eq_true rfl⟩) (fun a9 U9 g9 m9 q9 => bb_TS.same (u := U9) (U := U9.calling g9 m9 a9) rfl rfl q9) (fun U9 hU9 hW9 => hZ.mv hW9 (fun x9 h9 => by rw [hU9]; exact hS.2.1 x9 h9 (Nat.not_le.mpr h9))) hP hK hD hS hA rfl rfl hl.1 rfl (Nat.le_of_ble_eq_true rfl) dL_law_914 (by show _ ≤ 1046; omega) (by show _ ≤ 8687; omega) (fun H locs hP hD hS => ?_)
  have hP : va_P (dC, dI) vwCl [(g0, .inr (1, [.ref b0, .ref b1, .ref b2, .int k, .int th])), (b0, .inl (cA, 10, .inl w)), (b1, .inl (cA, 10, .inl pr)), (b2, .inl (cA, 310, .inl vt)), (h0, .inr (0, [.ref a0, .ref a1, .ref a2, .ref a3, .int k])), (a0, .inl (cA, 10, .inl w)), (a1, .inl (cA, 10, .inl pr)), (a2, .inl (cA, 31, .inl vo)), (a3, .inl (cA, 31, .inl vf)), (o0, .inl (cL, 1, .inr (.inl fo)))] H := hP
  have hD : va_D (bb_A s) [(g0, .inr (1, [.ref b0, .ref b1, .ref b2, .int k, .int th])), (b0, .inl (cA, 10, .inl w)), (b1, .inl (cA, 10, .inl pr)), (b2, .inl (cA, 310, .inl vt)), (h0, .inr (0, [.ref a0, .ref a1, .ref a2, .ref a3, .int k])), (a0, .inl (cA, 10, .inl w)), (a1, .inl (cA, 10, .inl pr)), (a2, .inl (cA, 31, .inl vo)), (a3, .inl (cA, 31, .inl vf)), (o0, .inl (cL, 1, .inr (.inl fo)))] := hD
  refine lv_istore (lv' := [(5, .int 2), (0, .ref b), (1, .ref h0), (2, .ref g0), (3, .ref o0), (4, .int (nI (4 * j)))]) hx hb dL_law_917 hl (by decide) rfl (fun ls hl => ?_)
  refine lv_aload_n hx hb dL_law_919 rfl (lv_at hl 3 rfl) ?_
  refine lv_aload_n hx hb dL_law_920 rfl (lv_at hl 1 rfl) ?_
  refine lv_iload hx hb dL_law_921 (lv_at hl 5 rfl) ?_
  refine lv_iconst (v := 1) hx hb dL_law_923 (by decide) ?_
  refine lv_iadd hx hb dL_law_924 ?_
  refine bb_topi (y := nI (4 * j + 1)) (bb_add1 j) ?_
  refine bb_sld hx hb hX hbl hbA hS (4 * j + 1) (by omega) hL e1 dL_law_925 ?_
  refine lv_aload_n hx hb dL_law_926 rfl (lv_at hl 1 rfl) ?_
  refine lv_iload hx hb dL_law_927 (lv_at hl 5 rfl) ?_
  refine lv_iconst (v := 2) hx hb dL_law_929 (by decide) ?_
  refine lv_iadd hx hb dL_law_930 ?_
  refine bb_topi (y := nI (4 * j + 2)) (bb_add2 j) ?_
  refine bb_sld hx hb hX hbl hbA hS (4 * j + 2) (by omega) hL e2 dL_law_931 ?_
  refine bb_cVf (As := [.int (nI n), .int x1]) (rest := []) (r := 0) (pre := []) (wc := [(g0, .inr (1, [.ref b0, .ref b1, .ref b2, .int k, .int th])), (b0, .inl (cA, 10, .inl w)), (b1, .inl (cA, 10, .inl pr)), (b2, .inl (cA, 310, .inl vt))]) (post := [(h0, .inr (0, [.ref a0, .ref a1, .ref a2, .ref a3, .int k])), (a0, .inl (cA, 10, .inl w)), (a1, .inl (cA, 10, .inl pr)), (a2, .inl (cA, 31, .inl vo)), (a3, .inl (cA, 31, .inl vf)), (o0, .inl (cL, 1, .inr (.inl fo)))]) (wc' := [(g0, .inr (1, [.ref b0, .ref b1, .ref b2, .int k, .int 2])), (b0, .inl (cA, 10, .inl w)), (b1, .inl (cA, 10, .inl pr)), (b2, .inl (cA, 310, .inl vt))]) 0 ⟨hx, hb, hml, hown, hts⟩ (r_about2 l dC dI cA g0 b0 b1 b2 w pr vt k th H.size n hn0 x1 hbad) (cwV 2 hts gL_law_X1_about rfl rfl rfl (by decide +kernel) ⟨Nat.le_of_ble_eq_true rfl, Nat.le_of_ble_eq_true rfl⟩) hP hK1 hD hS hA rfl rfl rfl rfl hl.1 rfl (Nat.le_of_ble_eq_true rfl) dL_law_932 (by show _ ≤ 1046; omega) (by show _ ≤ 8687; omega) (fun H locs hP hD hS => ?_)
  have hP : va_P (dC, dI) vwCl [(g0, .inr (1, [.ref b0, .ref b1, .ref b2, .int k, .int 2])), (b0, .inl (cA, 10, .inl w)), (b1, .inl (cA, 10, .inl pr)), (b2, .inl (cA, 310, .inl vt)), (h0, .inr (0, [.ref a0, .ref a1, .ref a2, .ref a3, .int k])), (a0, .inl (cA, 10, .inl w)), (a1, .inl (cA, 10, .inl pr)), (a2, .inl (cA, 31, .inl vo)), (a3, .inl (cA, 31, .inl vf)), (o0, .inl (cL, 1, .inr (.inl fo)))] H := hP
  have hD : va_D (bb_A s) [(g0, .inr (1, [.ref b0, .ref b1, .ref b2, .int k, .int 2])), (b0, .inl (cA, 10, .inl w)), (b1, .inl (cA, 10, .inl pr)), (b2, .inl (cA, 310, .inl vt)), (h0, .inr (0, [.ref a0, .ref a1, .ref a2, .ref a3, .int k])), (a0, .inl (cA, 10, .inl w)), (a1, .inl (cA, 10, .inl pr)), (a2, .inl (cA, 31, .inl vo)), (a3, .inl (cA, 31, .inl vf)), (o0, .inl (cL, 1, .inr (.inl fo)))] := hD
  refine lv_istore (lv' := [(6, .int 0), (5, .int 2), (0, .ref b), (1, .ref h0), (2, .ref g0), (3, .ref o0), (4, .int (nI (4 * j)))]) hx hb dL_law_935 hl (by decide) rfl (fun ls hl => ?_)
  refine lv_aload_n hx hb dL_law_937 rfl (lv_at hl 4 rfl) ?_
  have hPm : va_P (dC, dI) vwCl [(g0, .inr (1, [.ref b0, .ref b1, .ref b2, .int k, .int 2])), (b0, .inl (cA, 10, .inl w)), (b1, .inl (cA, 10, .inl pr)), (b2, .inl (cA, 310, .inl vt))] H := bb_Pmid (pre := []) (wc := [(g0, .inr (1, [.ref b0, .ref b1, .ref b2, .int k, .int 2])), (b0, .inl (cA, 10, .inl w)), (b1, .inl (cA, 10, .inl pr)), (b2, .inl (cA, 310, .inl vt))]) (post := [(h0, .inr (0, [.ref a0, .ref a1, .ref a2, .ref a3, .int k])), (a0, .inl (cA, 10, .inl w)), (a1, .inl (cA, 10, .inl pr)), (a2, .inl (cA, 31, .inl vo)), (a3, .inl (cA, 31, .inl vf)), (o0, .inl (cL, 1, .inr (.inl fo)))]) hP
  refine bb_cV (As := []) (rest := []) (r := 2) 0 ⟨hx, hb, hml, hown, hts⟩ (m_thrown l dC dI cA g0 b0 b1 b2 w pr vt k 2) (cwV 0 hts gL_law_X1_thrown rfl rfl rfl (by decide +kernel) ⟨Nat.le_of_ble_eq_true rfl, Nat.le_of_ble_eq_true rfl⟩) hPm hK1 rfl rfl rfl hl.1 rfl (Nat.le_of_ble_eq_true rfl) dL_law_938 (by show _ ≤ 1046; omega) (by show _ ≤ 8687; omega) ?_
  refine lv_iload hx hb dL_law_941 (lv_at hl 1 rfl) ?_
  refine lv_icmp_eq (tgt := 948) hx hb dL_law_943 rfl (fun h943 => ?_) (fun h943 => absurd rfl h943)
  refine lv_iload hx hb dL_law_948 (lv_at hl 1 rfl) ?_
  refine lv_if_ne (tgt := 965) hx hb dL_law_950 rfl (fun h950 => ?_) (fun h950 => absurd h950 (by decide))
  refine lv_goto (tgt := 993) hx hb dL_law_965 rfl ?_
  refine W.widen (k := 11 + j) (n := 429 + 6 * j) (by omega) (by omega) ?_
  exact K _ _ _ _ _ _ _ _ _ _ _ (hok) hP hD hS (lv_sub hl [2, 3, 4, 5, 6] rfl)

set_option maxHeartbeats 4000000 in
set_option maxRecDepth 100000 in
theorem L_sets {p : Program} {l : Launch} {e : Env} {s : State} {m : MethodId} {below : List Frame} {meth : Method} {c : Code} {Q : State → Prop} {b L : Nat} {xs : Nat → Int32} {dC : Nat → ClassId} {dI : Nat → Nat → Nat} {cA cL : ClassId} (X : bb_Cx p l s m c b L xs dC dI cA cL) {g0 b0 b1 b2 h0 a0 a1 a2 a3 o0 : Nat} {w pr vo vf vt : Nat → Int32} {k th : Int32} {fo : Nat → Int64} {H : Heap} {locs : List Loc} {ls : Array Slot} {j : Nat} (hj : 4 * j + 3 < L) (hok : bb_ok w k pr vo vf vt)
    (hP : va_P (dC, dI) vwCl (bb_F g0 b0 b1 b2 h0 a0 a1 a2 a3 o0 cA cL w pr vo vf vt k th fo) H) (hD : va_D (bb_A s) (bb_F g0 b0 b1 b2 h0 a0 a1 a2 a3 o0 cA cL w pr vo vf vt k th fo)) (hS : va_S (bb_A s) s.heap H locs) (hl : lv_has ls 7 (bb_ll b h0 g0 o0 j)) (K : bb_K p l e s m below meth c b dC dI cA cL g0 b0 b1 b2 h0 a0 a1 a2 a3 o0 j Q)   : W p l e room_1 s m #[Value.ref b] below meth c H locs (10 + j) (423 + 6 * j) Q (F0 m 848 ls []) := by
  obtain ⟨hx, hb, hml, hown, hts, hX, hbl, hK, hZ, htr, hL⟩ := X
  have hA : ∀ q : Nat, s.heap.size ≤ q → bb_A s q := fun _ h => h
  have hbA : ¬ bb_A s b := Nat.not_le.mpr hbl
  have hK1 := hK.sub [0] (tys' := [(cA, .int)]) rfl
  have hjb : j < 512 := by omega
  have hl : lv_has ls 7 [(0, .ref b), (1, .ref h0), (2, .ref g0), (3, .ref o0), (4, .int (nI (4 * j)))] := hl
  have hP : va_P (dC, dI) vwCl [(g0, .inr (1, [.ref b0, .ref b1, .ref b2, .int k, .int th])), (b0, .inl (cA, 10, .inl w)), (b1, .inl (cA, 10, .inl pr)), (b2, .inl (cA, 310, .inl vt)), (h0, .inr (0, [.ref a0, .ref a1, .ref a2, .ref a3, .int k])), (a0, .inl (cA, 10, .inl w)), (a1, .inl (cA, 10, .inl pr)), (a2, .inl (cA, 31, .inl vo)), (a3, .inl (cA, 31, .inl vf)), (o0, .inl (cL, 1, .inr (.inl fo)))] H := hP
  have hD : va_D (bb_A s) [(g0, .inr (1, [.ref b0, .ref b1, .ref b2, .int k, .int th])), (b0, .inl (cA, 10, .inl w)), (b1, .inl (cA, 10, .inl pr)), (b2, .inl (cA, 310, .inl vt)), (h0, .inr (0, [.ref a0, .ref a1, .ref a2, .ref a3, .int k])), (a0, .inl (cA, 10, .inl w)), (a1, .inl (cA, 10, .inl pr)), (a2, .inl (cA, 31, .inl vo)), (a3, .inl (cA, 31, .inl vf)), (o0, .inl (cL, 1, .inr (.inl fo)))] := hD
  refine lv_aload_n hx hb dL_law_848 rfl (lv_at hl 1 rfl) ?_
  have hPc : va_P (dC, dI) vwCl [(h0, .inr (0, [.ref a0, .ref a1, .ref a2, .ref a3, .int k])), (a0, .inl (cA, 10, .inl w)), (a1, .inl (cA, 10, .inl pr)), (a2, .inl (cA, 31, .inl vo)), (a3, .inl (cA, 31, .inl vf))] H := bb_Pmid (pre := [(g0, .inr (1, [.ref b0, .ref b1, .ref b2, .int k, .int th])), (b0, .inl (cA, 10, .inl w)), (b1, .inl (cA, 10, .inl pr)), (b2, .inl (cA, 310, .inl vt))]) (wc := [(h0, .inr (0, [.ref a0, .ref a1, .ref a2, .ref a3, .int k])), (a0, .inl (cA, 10, .inl w)), (a1, .inl (cA, 10, .inl pr)), (a2, .inl (cA, 31, .inl vo)), (a3, .inl (cA, 31, .inl vf))]) (post := [(o0, .inl (cL, 1, .inr (.inl fo)))]) hP
  refine bb_cV (As := []) (rest := []) (r := nI (bb_cn (fun x9 => bb_en w k (nI x9)) 1024)) 0 ⟨hx, hb, hml, hown, hts⟩ (k_sets l dC dI cA h0 a0 a1 a2 a3 w pr vo vf k ) (cwV 0 hts gL_law_X0_sets rfl rfl rfl (by decide +kernel) ⟨Nat.le_of_ble_eq_true rfl, Nat.le_of_ble_eq_true rfl⟩) hPc hK1 rfl rfl rfl hl.1 rfl (Nat.le_of_ble_eq_true rfl) dL_law_849 (by show _ ≤ 1046; omega) (by show _ ≤ 8687; omega) ?_
  refine lv_aload_n hx hb dL_law_852 rfl (lv_at hl 2 rfl) ?_
  refine bb_cVf (As := []) (rest := [.int (nI (bb_cn (fun x9 => bb_en w k (nI x9)) 1024))]) (r := nI (bb_cn (fun x9 => bb_en w k (nI x9)) 1024)) (pre := []) (wc := [(g0, .inr (1, [.ref b0, .ref b1, .ref b2, .int k, .int th])), (b0, .inl (cA, 10, .inl w)), (b1, .inl (cA, 10, .inl pr)), (b2, .inl (cA, 310, .inl vt))]) (post := [(h0, .inr (0, [.ref a0, .ref a1, .ref a2, .ref a3, .int k])), (a0, .inl (cA, 10, .inl w)), (a1, .inl (cA, 10, .inl pr)), (a2, .inl (cA, 31, .inl vo)), (a3, .inl (cA, 31, .inl vf)), (o0, .inl (cL, 1, .inr (.inl fo)))]) (wc' := [(g0, .inr (1, [.ref b0, .ref b1, .ref b2, .int k, .int 0])), (b0, .inl (cA, 10, .inl w)), (b1, .inl (cA, 10, .inl pr)), (b2, .inl (cA, 310, .inl vt))]) 0 ⟨hx, hb, hml, hown, hts⟩ (r_sets l dC dI cA g0 b0 b1 b2 w pr vt k th H.size ) (cwV 0 hts gL_law_X1_sets rfl rfl rfl (by decide +kernel) ⟨Nat.le_of_ble_eq_true rfl, Nat.le_of_ble_eq_true rfl⟩) hP hK1 hD hS hA rfl rfl rfl rfl hl.1 rfl (Nat.le_of_ble_eq_true rfl) dL_law_853 (by show _ ≤ 1046; omega) (by show _ ≤ 8687; omega) (fun H locs hP hD hS => ?_)
  have hP : va_P (dC, dI) vwCl [(g0, .inr (1, [.ref b0, .ref b1, .ref b2, .int k, .int 0])), (b0, .inl (cA, 10, .inl w)), (b1, .inl (cA, 10, .inl pr)), (b2, .inl (cA, 310, .inl vt)), (h0, .inr (0, [.ref a0, .ref a1, .ref a2, .ref a3, .int k])), (a0, .inl (cA, 10, .inl w)), (a1, .inl (cA, 10, .inl pr)), (a2, .inl (cA, 31, .inl vo)), (a3, .inl (cA, 31, .inl vf)), (o0, .inl (cL, 1, .inr (.inl fo)))] H := hP
  have hD : va_D (bb_A s) [(g0, .inr (1, [.ref b0, .ref b1, .ref b2, .int k, .int 0])), (b0, .inl (cA, 10, .inl w)), (b1, .inl (cA, 10, .inl pr)), (b2, .inl (cA, 310, .inl vt)), (h0, .inr (0, [.ref a0, .ref a1, .ref a2, .ref a3, .int k])), (a0, .inl (cA, 10, .inl w)), (a1, .inl (cA, 10, .inl pr)), (a2, .inl (cA, 31, .inl vo)), (a3, .inl (cA, 31, .inl vf)), (o0, .inl (cL, 1, .inr (.inl fo)))] := hD
  refine lv_icmp_eq (tgt := 993) hx hb dL_law_856 rfl (fun h856 => ?_) (fun h856 => absurd rfl h856)
  refine W.widen (k := 11 + j) (n := 429 + 6 * j) (by omega) (by omega) ?_
  exact K _ _ _ _ _ _ _ _ _ _ _ (hok) hP hD hS (lv_sub hl [0, 1, 2, 3, 4] rfl)

set_option maxHeartbeats 4000000 in
set_option maxRecDepth 100000 in
theorem L_least {p : Program} {l : Launch} {e : Env} {s : State} {m : MethodId} {below : List Frame} {meth : Method} {c : Code} {Q : State → Prop} {b L : Nat} {xs : Nat → Int32} {dC : Nat → ClassId} {dI : Nat → Nat → Nat} {cA cL : ClassId} (X : bb_Cx p l s m c b L xs dC dI cA cL) {g0 b0 b1 b2 h0 a0 a1 a2 a3 o0 : Nat} {w pr vo vf vt : Nat → Int32} {k th : Int32} {fo : Nat → Int64} {H : Heap} {locs : List Loc} {ls : Array Slot} {j : Nat} (hj : 4 * j + 3 < L) (hok : bb_ok w k pr vo vf vt)
    (hP : va_P (dC, dI) vwCl (bb_F g0 b0 b1 b2 h0 a0 a1 a2 a3 o0 cA cL w pr vo vf vt k th fo) H) (hD : va_D (bb_A s) (bb_F g0 b0 b1 b2 h0 a0 a1 a2 a3 o0 cA cL w pr vo vf vt k th fo)) (hS : va_S (bb_A s) s.heap H locs) (hl : lv_has ls 7 (bb_ll b h0 g0 o0 j)) (K : bb_K p l e s m below meth c b dC dI cA cL g0 b0 b1 b2 h0 a0 a1 a2 a3 o0 j Q)   : W p l e room_1 s m #[Value.ref b] below meth c H locs (10 + j) (423 + 6 * j) Q (F0 m 861 ls []) := by
  obtain ⟨hx, hb, hml, hown, hts, hX, hbl, hK, hZ, htr, hL⟩ := X
  have hA : ∀ q : Nat, s.heap.size ≤ q → bb_A s q := fun _ h => h
  have hbA : ¬ bb_A s b := Nat.not_le.mpr hbl
  have hK1 := hK.sub [0] (tys' := [(cA, .int)]) rfl
  have hjb : j < 512 := by omega
  have hl : lv_has ls 7 [(0, .ref b), (1, .ref h0), (2, .ref g0), (3, .ref o0), (4, .int (nI (4 * j)))] := hl
  have hP : va_P (dC, dI) vwCl [(g0, .inr (1, [.ref b0, .ref b1, .ref b2, .int k, .int th])), (b0, .inl (cA, 10, .inl w)), (b1, .inl (cA, 10, .inl pr)), (b2, .inl (cA, 310, .inl vt)), (h0, .inr (0, [.ref a0, .ref a1, .ref a2, .ref a3, .int k])), (a0, .inl (cA, 10, .inl w)), (a1, .inl (cA, 10, .inl pr)), (a2, .inl (cA, 31, .inl vo)), (a3, .inl (cA, 31, .inl vf)), (o0, .inl (cL, 1, .inr (.inl fo)))] H := hP
  have hD : va_D (bb_A s) [(g0, .inr (1, [.ref b0, .ref b1, .ref b2, .int k, .int th])), (b0, .inl (cA, 10, .inl w)), (b1, .inl (cA, 10, .inl pr)), (b2, .inl (cA, 310, .inl vt)), (h0, .inr (0, [.ref a0, .ref a1, .ref a2, .ref a3, .int k])), (a0, .inl (cA, 10, .inl w)), (a1, .inl (cA, 10, .inl pr)), (a2, .inl (cA, 31, .inl vo)), (a3, .inl (cA, 31, .inl vf)), (o0, .inl (cL, 1, .inr (.inl fo)))] := hD
  refine lv_aload_n hx hb dL_law_861 rfl (lv_at hl 1 rfl) ?_
  have hPc : va_P (dC, dI) vwCl [(h0, .inr (0, [.ref a0, .ref a1, .ref a2, .ref a3, .int k])), (a0, .inl (cA, 10, .inl w)), (a1, .inl (cA, 10, .inl pr)), (a2, .inl (cA, 31, .inl vo)), (a3, .inl (cA, 31, .inl vf))] H := bb_Pmid (pre := [(g0, .inr (1, [.ref b0, .ref b1, .ref b2, .int k, .int th])), (b0, .inl (cA, 10, .inl w)), (b1, .inl (cA, 10, .inl pr)), (b2, .inl (cA, 310, .inl vt))]) (wc := [(h0, .inr (0, [.ref a0, .ref a1, .ref a2, .ref a3, .int k])), (a0, .inl (cA, 10, .inl w)), (a1, .inl (cA, 10, .inl pr)), (a2, .inl (cA, 31, .inl vo)), (a3, .inl (cA, 31, .inl vf))]) (post := [(o0, .inl (cL, 1, .inr (.inl fo)))]) hP
  refine bb_cV (As := []) (rest := []) (r := bb_lc w k 1024) 0 ⟨hx, hb, hml, hown, hts⟩ (k_least l dC dI cA h0 a0 a1 a2 a3 w pr vo vf k ) (cwV 0 hts gL_law_X0_least rfl rfl rfl (by decide +kernel) ⟨Nat.le_of_ble_eq_true rfl, Nat.le_of_ble_eq_true rfl⟩) hPc hK1 rfl rfl rfl hl.1 rfl (Nat.le_of_ble_eq_true rfl) dL_law_862 (by show _ ≤ 1046; omega) (by show _ ≤ 8687; omega) ?_
  refine lv_aload_n hx hb dL_law_865 rfl (lv_at hl 2 rfl) ?_
  refine bb_cVf (As := []) (rest := [.int (bb_lc w k 1024)]) (r := bb_lr w k 1024) (pre := []) (wc := [(g0, .inr (1, [.ref b0, .ref b1, .ref b2, .int k, .int th])), (b0, .inl (cA, 10, .inl w)), (b1, .inl (cA, 10, .inl pr)), (b2, .inl (cA, 310, .inl vt))]) (post := [(h0, .inr (0, [.ref a0, .ref a1, .ref a2, .ref a3, .int k])), (a0, .inl (cA, 10, .inl w)), (a1, .inl (cA, 10, .inl pr)), (a2, .inl (cA, 31, .inl vo)), (a3, .inl (cA, 31, .inl vf)), (o0, .inl (cL, 1, .inr (.inl fo)))]) (wc' := [(g0, .inr (1, [.ref b0, .ref b1, .ref b2, .int k, .int 0])), (b0, .inl (cA, 10, .inl w)), (b1, .inl (cA, 10, .inl pr)), (b2, .inl (cA, 310, .inl vt))]) 0 ⟨hx, hb, hml, hown, hts⟩ (r_least l dC dI cA g0 b0 b1 b2 w pr vt k th H.size ) (cwV 0 hts gL_law_X1_least rfl rfl rfl (by decide +kernel) ⟨Nat.le_of_ble_eq_true rfl, Nat.le_of_ble_eq_true rfl⟩) hP hK1 hD hS hA rfl rfl rfl rfl hl.1 rfl (Nat.le_of_ble_eq_true rfl) dL_law_866 (by show _ ≤ 1046; omega) (by show _ ≤ 8687; omega) (fun H locs hP hD hS => ?_)
  have hP : va_P (dC, dI) vwCl [(g0, .inr (1, [.ref b0, .ref b1, .ref b2, .int k, .int 0])), (b0, .inl (cA, 10, .inl w)), (b1, .inl (cA, 10, .inl pr)), (b2, .inl (cA, 310, .inl vt)), (h0, .inr (0, [.ref a0, .ref a1, .ref a2, .ref a3, .int k])), (a0, .inl (cA, 10, .inl w)), (a1, .inl (cA, 10, .inl pr)), (a2, .inl (cA, 31, .inl vo)), (a3, .inl (cA, 31, .inl vf)), (o0, .inl (cL, 1, .inr (.inl fo)))] H := hP
  have hD : va_D (bb_A s) [(g0, .inr (1, [.ref b0, .ref b1, .ref b2, .int k, .int 0])), (b0, .inl (cA, 10, .inl w)), (b1, .inl (cA, 10, .inl pr)), (b2, .inl (cA, 310, .inl vt)), (h0, .inr (0, [.ref a0, .ref a1, .ref a2, .ref a3, .int k])), (a0, .inl (cA, 10, .inl w)), (a1, .inl (cA, 10, .inl pr)), (a2, .inl (cA, 31, .inl vo)), (a3, .inl (cA, 31, .inl vf)), (o0, .inl (cL, 1, .inr (.inl fo)))] := hD
  refine bb_topi (y := bb_lc w k 1024) (bb_e_least (by decide)) ?_
  refine lv_icmp_eq (tgt := 993) hx hb dL_law_869 rfl (fun h869 => ?_) (fun h869 => absurd rfl h869)
  refine W.widen (k := 11 + j) (n := 429 + 6 * j) (by omega) (by omega) ?_
  exact K _ _ _ _ _ _ _ _ _ _ _ (hok) hP hD hS (lv_sub hl [0, 1, 2, 3, 4] rfl)

set_option maxHeartbeats 4000000 in
set_option maxRecDepth 100000 in
theorem L_meet {p : Program} {l : Launch} {e : Env} {s : State} {m : MethodId} {below : List Frame} {meth : Method} {c : Code} {Q : State → Prop} {b L : Nat} {xs : Nat → Int32} {dC : Nat → ClassId} {dI : Nat → Nat → Nat} {cA cL : ClassId} (X : bb_Cx p l s m c b L xs dC dI cA cL) {g0 b0 b1 b2 h0 a0 a1 a2 a3 o0 : Nat} {w pr vo vf vt : Nat → Int32} {k th : Int32} {fo : Nat → Int64} {H : Heap} {locs : List Loc} {ls : Array Slot} {j : Nat} (hj : 4 * j + 3 < L) (hok : bb_ok w k pr vo vf vt)
    (hP : va_P (dC, dI) vwCl (bb_F g0 b0 b1 b2 h0 a0 a1 a2 a3 o0 cA cL w pr vo vf vt k th fo) H) (hD : va_D (bb_A s) (bb_F g0 b0 b1 b2 h0 a0 a1 a2 a3 o0 cA cL w pr vo vf vt k th fo)) (hS : va_S (bb_A s) s.heap H locs) (hl : lv_has ls 7 (bb_ll b h0 g0 o0 j)) (K : bb_K p l e s m below meth c b dC dI cA cL g0 b0 b1 b2 h0 a0 a1 a2 a3 o0 j Q)   : W p l e room_1 s m #[Value.ref b] below meth c H locs (10 + j) (423 + 6 * j) Q (F0 m 874 ls []) := by
  obtain ⟨hx, hb, hml, hown, hts, hX, hbl, hK, hZ, htr, hL⟩ := X
  have hA : ∀ q : Nat, s.heap.size ≤ q → bb_A s q := fun _ h => h
  have hbA : ¬ bb_A s b := Nat.not_le.mpr hbl
  have hK1 := hK.sub [0] (tys' := [(cA, .int)]) rfl
  have hjb : j < 512 := by omega
  have hl : lv_has ls 7 [(0, .ref b), (1, .ref h0), (2, .ref g0), (3, .ref o0), (4, .int (nI (4 * j)))] := hl
  have hP : va_P (dC, dI) vwCl [(g0, .inr (1, [.ref b0, .ref b1, .ref b2, .int k, .int th])), (b0, .inl (cA, 10, .inl w)), (b1, .inl (cA, 10, .inl pr)), (b2, .inl (cA, 310, .inl vt)), (h0, .inr (0, [.ref a0, .ref a1, .ref a2, .ref a3, .int k])), (a0, .inl (cA, 10, .inl w)), (a1, .inl (cA, 10, .inl pr)), (a2, .inl (cA, 31, .inl vo)), (a3, .inl (cA, 31, .inl vf)), (o0, .inl (cL, 1, .inr (.inl fo)))] H := hP
  have hD : va_D (bb_A s) [(g0, .inr (1, [.ref b0, .ref b1, .ref b2, .int k, .int th])), (b0, .inl (cA, 10, .inl w)), (b1, .inl (cA, 10, .inl pr)), (b2, .inl (cA, 310, .inl vt)), (h0, .inr (0, [.ref a0, .ref a1, .ref a2, .ref a3, .int k])), (a0, .inl (cA, 10, .inl w)), (a1, .inl (cA, 10, .inl pr)), (a2, .inl (cA, 31, .inl vo)), (a3, .inl (cA, 31, .inl vf)), (o0, .inl (cL, 1, .inr (.inl fo)))] := hD
  refine lv_aload_n hx hb dL_law_874 rfl (lv_at hl 1 rfl) ?_
  have hPc : va_P (dC, dI) vwCl [(h0, .inr (0, [.ref a0, .ref a1, .ref a2, .ref a3, .int k])), (a0, .inl (cA, 10, .inl w)), (a1, .inl (cA, 10, .inl pr)), (a2, .inl (cA, 31, .inl vo)), (a3, .inl (cA, 31, .inl vf))] H := bb_Pmid (pre := [(g0, .inr (1, [.ref b0, .ref b1, .ref b2, .int k, .int th])), (b0, .inl (cA, 10, .inl w)), (b1, .inl (cA, 10, .inl pr)), (b2, .inl (cA, 310, .inl vt))]) (wc := [(h0, .inr (0, [.ref a0, .ref a1, .ref a2, .ref a3, .int k])), (a0, .inl (cA, 10, .inl w)), (a1, .inl (cA, 10, .inl pr)), (a2, .inl (cA, 31, .inl vo)), (a3, .inl (cA, 31, .inl vf))]) (post := [(o0, .inl (cL, 1, .inr (.inl fo)))]) hP
  refine bb_cV (As := []) (rest := []) (r := bb_I (bb_al (fun x9 => !(bb_en w k (nI x9) && bb_en w k (1023 &&& bb_not (nI x9)))) 1024)) 0 ⟨hx, hb, hml, hown, hts⟩ (k_meet l dC dI cA h0 a0 a1 a2 a3 w pr vo vf k ) (cwV 0 hts gL_law_X0_meet rfl rfl rfl (by decide +kernel) ⟨Nat.le_of_ble_eq_true rfl, Nat.le_of_ble_eq_true rfl⟩) hPc hK1 rfl rfl rfl hl.1 rfl (Nat.le_of_ble_eq_true rfl) dL_law_875 (by show _ ≤ 1046; omega) (by show _ ≤ 8687; omega) ?_
  refine lv_aload_n hx hb dL_law_878 rfl (lv_at hl 2 rfl) ?_
  refine bb_cVf (As := []) (rest := [.int (bb_I (bb_al (fun x9 => !(bb_en w k (nI x9) && bb_en w k (1023 &&& bb_not (nI x9)))) 1024))]) (r := bb_I (bb_al (fun x9 => !(bb_en w k (nI x9) && bb_en w k (bb_not (nI x9) &&& 1023))) 1024)) (pre := []) (wc := [(g0, .inr (1, [.ref b0, .ref b1, .ref b2, .int k, .int th])), (b0, .inl (cA, 10, .inl w)), (b1, .inl (cA, 10, .inl pr)), (b2, .inl (cA, 310, .inl vt))]) (post := [(h0, .inr (0, [.ref a0, .ref a1, .ref a2, .ref a3, .int k])), (a0, .inl (cA, 10, .inl w)), (a1, .inl (cA, 10, .inl pr)), (a2, .inl (cA, 31, .inl vo)), (a3, .inl (cA, 31, .inl vf)), (o0, .inl (cL, 1, .inr (.inl fo)))]) (wc' := [(g0, .inr (1, [.ref b0, .ref b1, .ref b2, .int k, .int 0])), (b0, .inl (cA, 10, .inl w)), (b1, .inl (cA, 10, .inl pr)), (b2, .inl (cA, 310, .inl vt))]) 0 ⟨hx, hb, hml, hown, hts⟩ (r_meet l dC dI cA g0 b0 b1 b2 w pr vt k th H.size ) (cwV 0 hts gL_law_X1_meet rfl rfl rfl (by decide +kernel) ⟨Nat.le_of_ble_eq_true rfl, Nat.le_of_ble_eq_true rfl⟩) hP hK1 hD hS hA rfl rfl rfl rfl hl.1 rfl (Nat.le_of_ble_eq_true rfl) dL_law_879 (by show _ ≤ 1046; omega) (by show _ ≤ 8687; omega) (fun H locs hP hD hS => ?_)
  have hP : va_P (dC, dI) vwCl [(g0, .inr (1, [.ref b0, .ref b1, .ref b2, .int k, .int 0])), (b0, .inl (cA, 10, .inl w)), (b1, .inl (cA, 10, .inl pr)), (b2, .inl (cA, 310, .inl vt)), (h0, .inr (0, [.ref a0, .ref a1, .ref a2, .ref a3, .int k])), (a0, .inl (cA, 10, .inl w)), (a1, .inl (cA, 10, .inl pr)), (a2, .inl (cA, 31, .inl vo)), (a3, .inl (cA, 31, .inl vf)), (o0, .inl (cL, 1, .inr (.inl fo)))] H := hP
  have hD : va_D (bb_A s) [(g0, .inr (1, [.ref b0, .ref b1, .ref b2, .int k, .int 0])), (b0, .inl (cA, 10, .inl w)), (b1, .inl (cA, 10, .inl pr)), (b2, .inl (cA, 310, .inl vt)), (h0, .inr (0, [.ref a0, .ref a1, .ref a2, .ref a3, .int k])), (a0, .inl (cA, 10, .inl w)), (a1, .inl (cA, 10, .inl pr)), (a2, .inl (cA, 31, .inl vo)), (a3, .inl (cA, 31, .inl vf)), (o0, .inl (cL, 1, .inr (.inl fo)))] := hD
  refine bb_topi (y := bb_I (bb_al (fun x9 => !(bb_en w k (nI x9) && bb_en w k (1023 &&& bb_not (nI x9)))) 1024)) (congrArg bb_I bb_e_meet) ?_
  refine lv_icmp_eq (tgt := 993) hx hb dL_law_882 rfl (fun h882 => ?_) (fun h882 => absurd rfl h882)
  refine W.widen (k := 11 + j) (n := 429 + 6 * j) (by omega) (by omega) ?_
  exact K _ _ _ _ _ _ _ _ _ _ _ (hok) hP hD hS (lv_sub hl [0, 1, 2, 3, 4] rfl)

set_option maxHeartbeats 4000000 in
set_option maxRecDepth 100000 in
theorem L_bare {p : Program} {l : Launch} {e : Env} {s : State} {m : MethodId} {below : List Frame} {meth : Method} {c : Code} {Q : State → Prop} {b L : Nat} {xs : Nat → Int32} {dC : Nat → ClassId} {dI : Nat → Nat → Nat} {cA cL : ClassId} (X : bb_Cx p l s m c b L xs dC dI cA cL) {g0 b0 b1 b2 h0 a0 a1 a2 a3 o0 : Nat} {w pr vo vf vt : Nat → Int32} {k th : Int32} {fo : Nat → Int64} {H : Heap} {locs : List Loc} {ls : Array Slot} {j : Nat} (hj : 4 * j + 3 < L) (hok : bb_ok w k pr vo vf vt)
    (hP : va_P (dC, dI) vwCl (bb_F g0 b0 b1 b2 h0 a0 a1 a2 a3 o0 cA cL w pr vo vf vt k th fo) H) (hD : va_D (bb_A s) (bb_F g0 b0 b1 b2 h0 a0 a1 a2 a3 o0 cA cL w pr vo vf vt k th fo)) (hS : va_S (bb_A s) s.heap H locs) (hl : lv_has ls 7 (bb_ll b h0 g0 o0 j)) (K : bb_K p l e s m below meth c b dC dI cA cL g0 b0 b1 b2 h0 a0 a1 a2 a3 o0 j Q)   : W p l e room_1 s m #[Value.ref b] below meth c H locs (10 + j) (423 + 6 * j) Q (F0 m 887 ls []) := by
  obtain ⟨hx, hb, hml, hown, hts, hX, hbl, hK, hZ, htr, hL⟩ := X
  have hA : ∀ q : Nat, s.heap.size ≤ q → bb_A s q := fun _ h => h
  have hbA : ¬ bb_A s b := Nat.not_le.mpr hbl
  have hK1 := hK.sub [0] (tys' := [(cA, .int)]) rfl
  have hjb : j < 512 := by omega
  have hl : lv_has ls 7 [(0, .ref b), (1, .ref h0), (2, .ref g0), (3, .ref o0), (4, .int (nI (4 * j)))] := hl
  have hP : va_P (dC, dI) vwCl [(g0, .inr (1, [.ref b0, .ref b1, .ref b2, .int k, .int th])), (b0, .inl (cA, 10, .inl w)), (b1, .inl (cA, 10, .inl pr)), (b2, .inl (cA, 310, .inl vt)), (h0, .inr (0, [.ref a0, .ref a1, .ref a2, .ref a3, .int k])), (a0, .inl (cA, 10, .inl w)), (a1, .inl (cA, 10, .inl pr)), (a2, .inl (cA, 31, .inl vo)), (a3, .inl (cA, 31, .inl vf)), (o0, .inl (cL, 1, .inr (.inl fo)))] H := hP
  have hD : va_D (bb_A s) [(g0, .inr (1, [.ref b0, .ref b1, .ref b2, .int k, .int th])), (b0, .inl (cA, 10, .inl w)), (b1, .inl (cA, 10, .inl pr)), (b2, .inl (cA, 310, .inl vt)), (h0, .inr (0, [.ref a0, .ref a1, .ref a2, .ref a3, .int k])), (a0, .inl (cA, 10, .inl w)), (a1, .inl (cA, 10, .inl pr)), (a2, .inl (cA, 31, .inl vo)), (a3, .inl (cA, 31, .inl vf)), (o0, .inl (cL, 1, .inr (.inl fo)))] := hD
  refine lv_aload_n hx hb dL_law_887 rfl (lv_at hl 1 rfl) ?_
  have hPc : va_P (dC, dI) vwCl [(h0, .inr (0, [.ref a0, .ref a1, .ref a2, .ref a3, .int k])), (a0, .inl (cA, 10, .inl w)), (a1, .inl (cA, 10, .inl pr)), (a2, .inl (cA, 31, .inl vo)), (a3, .inl (cA, 31, .inl vf))] H := bb_Pmid (pre := [(g0, .inr (1, [.ref b0, .ref b1, .ref b2, .int k, .int th])), (b0, .inl (cA, 10, .inl w)), (b1, .inl (cA, 10, .inl pr)), (b2, .inl (cA, 310, .inl vt))]) (wc := [(h0, .inr (0, [.ref a0, .ref a1, .ref a2, .ref a3, .int k])), (a0, .inl (cA, 10, .inl w)), (a1, .inl (cA, 10, .inl pr)), (a2, .inl (cA, 31, .inl vo)), (a3, .inl (cA, 31, .inl vf))]) (post := [(o0, .inl (cL, 1, .inr (.inl fo)))]) hP
  refine bb_cV (As := []) (rest := []) (r := nI (bb_cn (fun x9 => bb_bare w k (nI x9)) 1024)) 0 ⟨hx, hb, hml, hown, hts⟩ (k_bare l dC dI cA h0 a0 a1 a2 a3 w pr vo vf k ) (cwV 0 hts gL_law_X0_bare rfl rfl rfl (by decide +kernel) ⟨Nat.le_of_ble_eq_true rfl, Nat.le_of_ble_eq_true rfl⟩) hPc hK1 rfl rfl rfl hl.1 rfl (Nat.le_of_ble_eq_true rfl) dL_law_888 (by show _ ≤ 1046; omega) (by show _ ≤ 8687; omega) ?_
  refine lv_aload_n hx hb dL_law_891 rfl (lv_at hl 2 rfl) ?_
  refine bb_cVf (As := []) (rest := [.int (nI (bb_cn (fun x9 => bb_bare w k (nI x9)) 1024))]) (r := nI (bb_cn (fun x9 => bb_rbare w k (nI x9) 10) 1024)) (pre := []) (wc := [(g0, .inr (1, [.ref b0, .ref b1, .ref b2, .int k, .int th])), (b0, .inl (cA, 10, .inl w)), (b1, .inl (cA, 10, .inl pr)), (b2, .inl (cA, 310, .inl vt))]) (post := [(h0, .inr (0, [.ref a0, .ref a1, .ref a2, .ref a3, .int k])), (a0, .inl (cA, 10, .inl w)), (a1, .inl (cA, 10, .inl pr)), (a2, .inl (cA, 31, .inl vo)), (a3, .inl (cA, 31, .inl vf)), (o0, .inl (cL, 1, .inr (.inl fo)))]) (wc' := [(g0, .inr (1, [.ref b0, .ref b1, .ref b2, .int k, .int 0])), (b0, .inl (cA, 10, .inl w)), (b1, .inl (cA, 10, .inl pr)), (b2, .inl (cA, 310, .inl vt))]) 0 ⟨hx, hb, hml, hown, hts⟩ (r_bare l dC dI cA g0 b0 b1 b2 w pr vt k th H.size ) (cwV 0 hts gL_law_X1_bare rfl rfl rfl (by decide +kernel) ⟨Nat.le_of_ble_eq_true rfl, Nat.le_of_ble_eq_true rfl⟩) hP hK1 hD hS hA rfl rfl rfl rfl hl.1 rfl (Nat.le_of_ble_eq_true rfl) dL_law_892 (by show _ ≤ 1046; omega) (by show _ ≤ 8687; omega) (fun H locs hP hD hS => ?_)
  have hP : va_P (dC, dI) vwCl [(g0, .inr (1, [.ref b0, .ref b1, .ref b2, .int k, .int 0])), (b0, .inl (cA, 10, .inl w)), (b1, .inl (cA, 10, .inl pr)), (b2, .inl (cA, 310, .inl vt)), (h0, .inr (0, [.ref a0, .ref a1, .ref a2, .ref a3, .int k])), (a0, .inl (cA, 10, .inl w)), (a1, .inl (cA, 10, .inl pr)), (a2, .inl (cA, 31, .inl vo)), (a3, .inl (cA, 31, .inl vf)), (o0, .inl (cL, 1, .inr (.inl fo)))] H := hP
  have hD : va_D (bb_A s) [(g0, .inr (1, [.ref b0, .ref b1, .ref b2, .int k, .int 0])), (b0, .inl (cA, 10, .inl w)), (b1, .inl (cA, 10, .inl pr)), (b2, .inl (cA, 310, .inl vt)), (h0, .inr (0, [.ref a0, .ref a1, .ref a2, .ref a3, .int k])), (a0, .inl (cA, 10, .inl w)), (a1, .inl (cA, 10, .inl pr)), (a2, .inl (cA, 31, .inl vo)), (a3, .inl (cA, 31, .inl vf)), (o0, .inl (cL, 1, .inr (.inl fo)))] := hD
  refine bb_topi (y := nI (bb_cn (fun x9 => bb_bare w k (nI x9)) 1024)) (congrArg nI (bb_cn_congr (fun x9 hx9 => bb_e_bare hok.1 hok.2.1))) ?_
  refine lv_icmp_eq (tgt := 993) hx hb dL_law_895 rfl (fun h895 => ?_) (fun h895 => absurd rfl h895)
  refine W.widen (k := 11 + j) (n := 429 + 6 * j) (by omega) (by omega) ?_
  exact K _ _ _ _ _ _ _ _ _ _ _ (hok) hP hD hS (lv_sub hl [0, 1, 2, 3, 4] rfl)

set_option maxHeartbeats 4000000 in
set_option maxRecDepth 100000 in
theorem L_count_0 {p : Program} {l : Launch} {e : Env} {s : State} {m : MethodId} {below : List Frame} {meth : Method} {c : Code} {Q : State → Prop} {b L : Nat} {xs : Nat → Int32} {dC : Nat → ClassId} {dI : Nat → Nat → Nat} {cA cL : ClassId} (X : bb_Cx p l s m c b L xs dC dI cA cL) {g0 b0 b1 b2 h0 a0 a1 a2 a3 o0 : Nat} {w pr vo vf vt : Nat → Int32} {k th : Int32} {fo : Nat → Int64} {H : Heap} {locs : List Loc} {ls : Array Slot} {j : Nat} (hj : 4 * j + 3 < L) (hok : bb_ok w k pr vo vf vt)
    (hP : va_P (dC, dI) vwCl (bb_F g0 b0 b1 b2 h0 a0 a1 a2 a3 o0 cA cL w pr vo vf vt k th fo) H) (hD : va_D (bb_A s) (bb_F g0 b0 b1 b2 h0 a0 a1 a2 a3 o0 cA cL w pr vo vf vt k th fo)) (hS : va_S (bb_A s) s.heap H locs) (hl : lv_has ls 7 (bb_ll b h0 g0 o0 j)) (K : bb_K p l e s m below meth c b dC dI cA cL g0 b0 b1 b2 h0 a0 a1 a2 a3 o0 j Q)  (e1 : xs (4 * j + 1) = 0) : W p l e room_1 s m #[Value.ref b] below meth c H locs (10 + j) (423 + 6 * j) Q (F0 m 968 ls []) := by
  obtain ⟨hx, hb, hml, hown, hts, hX, hbl, hK, hZ, htr, hL⟩ := X
  have hA : ∀ q : Nat, s.heap.size ≤ q → bb_A s q := fun _ h => h
  have hbA : ¬ bb_A s b := Nat.not_le.mpr hbl
  have hK1 := hK.sub [0] (tys' := [(cA, .int)]) rfl
  have hjb : j < 512 := by omega
  have hl : lv_has ls 7 [(0, .ref b), (1, .ref h0), (2, .ref g0), (3, .ref o0), (4, .int (nI (4 * j)))] := hl
  have hP : va_P (dC, dI) vwCl [(g0, .inr (1, [.ref b0, .ref b1, .ref b2, .int k, .int th])), (b0, .inl (cA, 10, .inl w)), (b1, .inl (cA, 10, .inl pr)), (b2, .inl (cA, 310, .inl vt)), (h0, .inr (0, [.ref a0, .ref a1, .ref a2, .ref a3, .int k])), (a0, .inl (cA, 10, .inl w)), (a1, .inl (cA, 10, .inl pr)), (a2, .inl (cA, 31, .inl vo)), (a3, .inl (cA, 31, .inl vf)), (o0, .inl (cL, 1, .inr (.inl fo)))] H := hP
  have hD : va_D (bb_A s) [(g0, .inr (1, [.ref b0, .ref b1, .ref b2, .int k, .int th])), (b0, .inl (cA, 10, .inl w)), (b1, .inl (cA, 10, .inl pr)), (b2, .inl (cA, 310, .inl vt)), (h0, .inr (0, [.ref a0, .ref a1, .ref a2, .ref a3, .int k])), (a0, .inl (cA, 10, .inl w)), (a1, .inl (cA, 10, .inl pr)), (a2, .inl (cA, 31, .inl vo)), (a3, .inl (cA, 31, .inl vf)), (o0, .inl (cL, 1, .inr (.inl fo)))] := hD
  refine lv_aload_n hx hb dL_law_968 rfl (lv_at hl 1 rfl) ?_
  refine lv_aload_n hx hb dL_law_969 rfl (lv_at hl 0 rfl) ?_
  refine lv_iload hx hb dL_law_970 (lv_at hl 4 rfl) ?_
  refine lv_iconst (v := 1) hx hb dL_law_972 (by decide) ?_
  refine lv_iadd hx hb dL_law_973 ?_
  refine bb_topi (y := nI (4 * j + 1)) (bb_add1 j) ?_
  refine bb_sld hx hb hX hbl hbA hS (4 * j + 1) (by omega) hL e1 dL_law_974 ?_
  have hPc : va_P (dC, dI) vwCl [(h0, .inr (0, [.ref a0, .ref a1, .ref a2, .ref a3, .int k])), (a0, .inl (cA, 10, .inl w)), (a1, .inl (cA, 10, .inl pr)), (a2, .inl (cA, 31, .inl vo)), (a3, .inl (cA, 31, .inl vf))] H := bb_Pmid (pre := [(g0, .inr (1, [.ref b0, .ref b1, .ref b2, .int k, .int th])), (b0, .inl (cA, 10, .inl w)), (b1, .inl (cA, 10, .inl pr)), (b2, .inl (cA, 310, .inl vt))]) (wc := [(h0, .inr (0, [.ref a0, .ref a1, .ref a2, .ref a3, .int k])), (a0, .inl (cA, 10, .inl w)), (a1, .inl (cA, 10, .inl pr)), (a2, .inl (cA, 31, .inl vo)), (a3, .inl (cA, 31, .inl vf))]) (post := [(o0, .inl (cL, 1, .inr (.inl fo)))]) hP
  refine bb_cV (As := [.int 0]) (rest := []) (r := k) 0 ⟨hx, hb, hml, hown, hts⟩ (k_count_0 l dC dI cA h0 a0 a1 a2 a3 w pr vo vf k ) (cwV 1 hts gL_law_X0_count rfl rfl rfl (by decide +kernel) ⟨Nat.le_of_ble_eq_true rfl, Nat.le_of_ble_eq_true rfl⟩) hPc hK1 rfl rfl rfl hl.1 rfl (Nat.le_of_ble_eq_true rfl) dL_law_975 (by show _ ≤ 1046; omega) (by show _ ≤ 8687; omega) ?_
  refine lv_aload_n hx hb dL_law_978 rfl (lv_at hl 2 rfl) ?_
  refine lv_aload_n hx hb dL_law_979 rfl (lv_at hl 0 rfl) ?_
  refine lv_iload hx hb dL_law_980 (lv_at hl 4 rfl) ?_
  refine lv_iconst (v := 1) hx hb dL_law_982 (by decide) ?_
  refine lv_iadd hx hb dL_law_983 ?_
  refine bb_topi (y := nI (4 * j + 1)) (bb_add1 j) ?_
  refine bb_sld hx hb hX hbl hbA hS (4 * j + 1) (by omega) hL e1 dL_law_984 ?_
  refine bb_cVf (As := [.int 0]) (rest := [.int k]) (r := k) (pre := []) (wc := [(g0, .inr (1, [.ref b0, .ref b1, .ref b2, .int k, .int th])), (b0, .inl (cA, 10, .inl w)), (b1, .inl (cA, 10, .inl pr)), (b2, .inl (cA, 310, .inl vt))]) (post := [(h0, .inr (0, [.ref a0, .ref a1, .ref a2, .ref a3, .int k])), (a0, .inl (cA, 10, .inl w)), (a1, .inl (cA, 10, .inl pr)), (a2, .inl (cA, 31, .inl vo)), (a3, .inl (cA, 31, .inl vf)), (o0, .inl (cL, 1, .inr (.inl fo)))]) (wc' := [(g0, .inr (1, [.ref b0, .ref b1, .ref b2, .int k, .int 0])), (b0, .inl (cA, 10, .inl w)), (b1, .inl (cA, 10, .inl pr)), (b2, .inl (cA, 310, .inl vt))]) 0 ⟨hx, hb, hml, hown, hts⟩ (r_count_0 l dC dI cA g0 b0 b1 b2 w pr vt k th H.size ) (cwV 1 hts gL_law_X1_count rfl rfl rfl (by decide +kernel) ⟨Nat.le_of_ble_eq_true rfl, Nat.le_of_ble_eq_true rfl⟩) hP hK1 hD hS hA rfl rfl rfl rfl hl.1 rfl (Nat.le_of_ble_eq_true rfl) dL_law_985 (by show _ ≤ 1046; omega) (by show _ ≤ 8687; omega) (fun H locs hP hD hS => ?_)
  have hP : va_P (dC, dI) vwCl [(g0, .inr (1, [.ref b0, .ref b1, .ref b2, .int k, .int 0])), (b0, .inl (cA, 10, .inl w)), (b1, .inl (cA, 10, .inl pr)), (b2, .inl (cA, 310, .inl vt)), (h0, .inr (0, [.ref a0, .ref a1, .ref a2, .ref a3, .int k])), (a0, .inl (cA, 10, .inl w)), (a1, .inl (cA, 10, .inl pr)), (a2, .inl (cA, 31, .inl vo)), (a3, .inl (cA, 31, .inl vf)), (o0, .inl (cL, 1, .inr (.inl fo)))] H := hP
  have hD : va_D (bb_A s) [(g0, .inr (1, [.ref b0, .ref b1, .ref b2, .int k, .int 0])), (b0, .inl (cA, 10, .inl w)), (b1, .inl (cA, 10, .inl pr)), (b2, .inl (cA, 310, .inl vt)), (h0, .inr (0, [.ref a0, .ref a1, .ref a2, .ref a3, .int k])), (a0, .inl (cA, 10, .inl w)), (a1, .inl (cA, 10, .inl pr)), (a2, .inl (cA, 31, .inl vo)), (a3, .inl (cA, 31, .inl vf)), (o0, .inl (cL, 1, .inr (.inl fo)))] := hD
  refine lv_icmp_eq (tgt := 993) hx hb dL_law_988 rfl (fun h988 => ?_) (fun h988 => absurd rfl h988)
  refine W.widen (k := 11 + j) (n := 429 + 6 * j) (by omega) (by omega) ?_
  exact K _ _ _ _ _ _ _ _ _ _ _ (hok) hP hD hS (lv_sub hl [0, 1, 2, 3, 4] rfl)

set_option maxHeartbeats 4000000 in
set_option maxRecDepth 100000 in
theorem L_count_1 {p : Program} {l : Launch} {e : Env} {s : State} {m : MethodId} {below : List Frame} {meth : Method} {c : Code} {Q : State → Prop} {b L : Nat} {xs : Nat → Int32} {dC : Nat → ClassId} {dI : Nat → Nat → Nat} {cA cL : ClassId} (X : bb_Cx p l s m c b L xs dC dI cA cL) {g0 b0 b1 b2 h0 a0 a1 a2 a3 o0 : Nat} {w pr vo vf vt : Nat → Int32} {k th : Int32} {fo : Nat → Int64} {H : Heap} {locs : List Loc} {ls : Array Slot} {j : Nat} (hj : 4 * j + 3 < L) (hok : bb_ok w k pr vo vf vt)
    (hP : va_P (dC, dI) vwCl (bb_F g0 b0 b1 b2 h0 a0 a1 a2 a3 o0 cA cL w pr vo vf vt k th fo) H) (hD : va_D (bb_A s) (bb_F g0 b0 b1 b2 h0 a0 a1 a2 a3 o0 cA cL w pr vo vf vt k th fo)) (hS : va_S (bb_A s) s.heap H locs) (hl : lv_has ls 7 (bb_ll b h0 g0 o0 j)) (K : bb_K p l e s m below meth c b dC dI cA cL g0 b0 b1 b2 h0 a0 a1 a2 a3 o0 j Q)  (e1 : xs (4 * j + 1) = 1) : W p l e room_1 s m #[Value.ref b] below meth c H locs (10 + j) (423 + 6 * j) Q (F0 m 968 ls []) := by
  obtain ⟨hx, hb, hml, hown, hts, hX, hbl, hK, hZ, htr, hL⟩ := X
  have hA : ∀ q : Nat, s.heap.size ≤ q → bb_A s q := fun _ h => h
  have hbA : ¬ bb_A s b := Nat.not_le.mpr hbl
  have hK1 := hK.sub [0] (tys' := [(cA, .int)]) rfl
  have hjb : j < 512 := by omega
  have hl : lv_has ls 7 [(0, .ref b), (1, .ref h0), (2, .ref g0), (3, .ref o0), (4, .int (nI (4 * j)))] := hl
  have hP : va_P (dC, dI) vwCl [(g0, .inr (1, [.ref b0, .ref b1, .ref b2, .int k, .int th])), (b0, .inl (cA, 10, .inl w)), (b1, .inl (cA, 10, .inl pr)), (b2, .inl (cA, 310, .inl vt)), (h0, .inr (0, [.ref a0, .ref a1, .ref a2, .ref a3, .int k])), (a0, .inl (cA, 10, .inl w)), (a1, .inl (cA, 10, .inl pr)), (a2, .inl (cA, 31, .inl vo)), (a3, .inl (cA, 31, .inl vf)), (o0, .inl (cL, 1, .inr (.inl fo)))] H := hP
  have hD : va_D (bb_A s) [(g0, .inr (1, [.ref b0, .ref b1, .ref b2, .int k, .int th])), (b0, .inl (cA, 10, .inl w)), (b1, .inl (cA, 10, .inl pr)), (b2, .inl (cA, 310, .inl vt)), (h0, .inr (0, [.ref a0, .ref a1, .ref a2, .ref a3, .int k])), (a0, .inl (cA, 10, .inl w)), (a1, .inl (cA, 10, .inl pr)), (a2, .inl (cA, 31, .inl vo)), (a3, .inl (cA, 31, .inl vf)), (o0, .inl (cL, 1, .inr (.inl fo)))] := hD
  refine lv_aload_n hx hb dL_law_968 rfl (lv_at hl 1 rfl) ?_
  refine lv_aload_n hx hb dL_law_969 rfl (lv_at hl 0 rfl) ?_
  refine lv_iload hx hb dL_law_970 (lv_at hl 4 rfl) ?_
  refine lv_iconst (v := 1) hx hb dL_law_972 (by decide) ?_
  refine lv_iadd hx hb dL_law_973 ?_
  refine bb_topi (y := nI (4 * j + 1)) (bb_add1 j) ?_
  refine bb_sld hx hb hX hbl hbA hS (4 * j + 1) (by omega) hL e1 dL_law_974 ?_
  have hPc : va_P (dC, dI) vwCl [(h0, .inr (0, [.ref a0, .ref a1, .ref a2, .ref a3, .int k])), (a0, .inl (cA, 10, .inl w)), (a1, .inl (cA, 10, .inl pr)), (a2, .inl (cA, 31, .inl vo)), (a3, .inl (cA, 31, .inl vf))] H := bb_Pmid (pre := [(g0, .inr (1, [.ref b0, .ref b1, .ref b2, .int k, .int th])), (b0, .inl (cA, 10, .inl w)), (b1, .inl (cA, 10, .inl pr)), (b2, .inl (cA, 310, .inl vt))]) (wc := [(h0, .inr (0, [.ref a0, .ref a1, .ref a2, .ref a3, .int k])), (a0, .inl (cA, 10, .inl w)), (a1, .inl (cA, 10, .inl pr)), (a2, .inl (cA, 31, .inl vo)), (a3, .inl (cA, 31, .inl vf))]) (post := [(o0, .inl (cL, 1, .inr (.inl fo)))]) hP
  refine bb_cV (As := [.int 1]) (rest := []) (r := bb_ws w 1023 10) 0 ⟨hx, hb, hml, hown, hts⟩ (k_count_1 l dC dI cA h0 a0 a1 a2 a3 w pr vo vf k ) (cwV 1 hts gL_law_X0_count rfl rfl rfl (by decide +kernel) ⟨Nat.le_of_ble_eq_true rfl, Nat.le_of_ble_eq_true rfl⟩) hPc hK1 rfl rfl rfl hl.1 rfl (Nat.le_of_ble_eq_true rfl) dL_law_975 (by show _ ≤ 1046; omega) (by show _ ≤ 8687; omega) ?_
  refine lv_aload_n hx hb dL_law_978 rfl (lv_at hl 2 rfl) ?_
  refine lv_aload_n hx hb dL_law_979 rfl (lv_at hl 0 rfl) ?_
  refine lv_iload hx hb dL_law_980 (lv_at hl 4 rfl) ?_
  refine lv_iconst (v := 1) hx hb dL_law_982 (by decide) ?_
  refine lv_iadd hx hb dL_law_983 ?_
  refine bb_topi (y := nI (4 * j + 1)) (bb_add1 j) ?_
  refine bb_sld hx hb hX hbl hbA hS (4 * j + 1) (by omega) hL e1 dL_law_984 ?_
  refine bb_cVf (As := [.int 1]) (rest := [.int (bb_ws w 1023 10)]) (r := bb_wa w 10) (pre := []) (wc := [(g0, .inr (1, [.ref b0, .ref b1, .ref b2, .int k, .int th])), (b0, .inl (cA, 10, .inl w)), (b1, .inl (cA, 10, .inl pr)), (b2, .inl (cA, 310, .inl vt))]) (post := [(h0, .inr (0, [.ref a0, .ref a1, .ref a2, .ref a3, .int k])), (a0, .inl (cA, 10, .inl w)), (a1, .inl (cA, 10, .inl pr)), (a2, .inl (cA, 31, .inl vo)), (a3, .inl (cA, 31, .inl vf)), (o0, .inl (cL, 1, .inr (.inl fo)))]) (wc' := [(g0, .inr (1, [.ref b0, .ref b1, .ref b2, .int k, .int 0])), (b0, .inl (cA, 10, .inl w)), (b1, .inl (cA, 10, .inl pr)), (b2, .inl (cA, 310, .inl vt))]) 0 ⟨hx, hb, hml, hown, hts⟩ (r_count_1 l dC dI cA g0 b0 b1 b2 w pr vt k th H.size ) (cwV 1 hts gL_law_X1_count rfl rfl rfl (by decide +kernel) ⟨Nat.le_of_ble_eq_true rfl, Nat.le_of_ble_eq_true rfl⟩) hP hK1 hD hS hA rfl rfl rfl rfl hl.1 rfl (Nat.le_of_ble_eq_true rfl) dL_law_985 (by show _ ≤ 1046; omega) (by show _ ≤ 8687; omega) (fun H locs hP hD hS => ?_)
  have hP : va_P (dC, dI) vwCl [(g0, .inr (1, [.ref b0, .ref b1, .ref b2, .int k, .int 0])), (b0, .inl (cA, 10, .inl w)), (b1, .inl (cA, 10, .inl pr)), (b2, .inl (cA, 310, .inl vt)), (h0, .inr (0, [.ref a0, .ref a1, .ref a2, .ref a3, .int k])), (a0, .inl (cA, 10, .inl w)), (a1, .inl (cA, 10, .inl pr)), (a2, .inl (cA, 31, .inl vo)), (a3, .inl (cA, 31, .inl vf)), (o0, .inl (cL, 1, .inr (.inl fo)))] H := hP
  have hD : va_D (bb_A s) [(g0, .inr (1, [.ref b0, .ref b1, .ref b2, .int k, .int 0])), (b0, .inl (cA, 10, .inl w)), (b1, .inl (cA, 10, .inl pr)), (b2, .inl (cA, 310, .inl vt)), (h0, .inr (0, [.ref a0, .ref a1, .ref a2, .ref a3, .int k])), (a0, .inl (cA, 10, .inl w)), (a1, .inl (cA, 10, .inl pr)), (a2, .inl (cA, 31, .inl vo)), (a3, .inl (cA, 31, .inl vf)), (o0, .inl (cL, 1, .inr (.inl fo)))] := hD
  refine bb_topi (y := bb_ws w 1023 10) (bb_e_count1.symm) ?_
  refine lv_icmp_eq (tgt := 993) hx hb dL_law_988 rfl (fun h988 => ?_) (fun h988 => absurd rfl h988)
  refine W.widen (k := 11 + j) (n := 429 + 6 * j) (by omega) (by omega) ?_
  exact K _ _ _ _ _ _ _ _ _ _ _ (hok) hP hD hS (lv_sub hl [0, 1, 2, 3, 4] rfl)

set_option maxHeartbeats 4000000 in
set_option maxRecDepth 100000 in
theorem L_count_2 {p : Program} {l : Launch} {e : Env} {s : State} {m : MethodId} {below : List Frame} {meth : Method} {c : Code} {Q : State → Prop} {b L : Nat} {xs : Nat → Int32} {dC : Nat → ClassId} {dI : Nat → Nat → Nat} {cA cL : ClassId} (X : bb_Cx p l s m c b L xs dC dI cA cL) {g0 b0 b1 b2 h0 a0 a1 a2 a3 o0 : Nat} {w pr vo vf vt : Nat → Int32} {k th : Int32} {fo : Nat → Int64} {H : Heap} {locs : List Loc} {ls : Array Slot} {j : Nat} (hj : 4 * j + 3 < L) (hok : bb_ok w k pr vo vf vt)
    (hP : va_P (dC, dI) vwCl (bb_F g0 b0 b1 b2 h0 a0 a1 a2 a3 o0 cA cL w pr vo vf vt k th fo) H) (hD : va_D (bb_A s) (bb_F g0 b0 b1 b2 h0 a0 a1 a2 a3 o0 cA cL w pr vo vf vt k th fo)) (hS : va_S (bb_A s) s.heap H locs) (hl : lv_has ls 7 (bb_ll b h0 g0 o0 j)) (K : bb_K p l e s m below meth c b dC dI cA cL g0 b0 b1 b2 h0 a0 a1 a2 a3 o0 j Q)  (e1 : xs (4 * j + 1) = 2) : W p l e room_1 s m #[Value.ref b] below meth c H locs (10 + j) (423 + 6 * j) Q (F0 m 968 ls []) := by
  obtain ⟨hx, hb, hml, hown, hts, hX, hbl, hK, hZ, htr, hL⟩ := X
  have hA : ∀ q : Nat, s.heap.size ≤ q → bb_A s q := fun _ h => h
  have hbA : ¬ bb_A s b := Nat.not_le.mpr hbl
  have hK1 := hK.sub [0] (tys' := [(cA, .int)]) rfl
  have hjb : j < 512 := by omega
  have hl : lv_has ls 7 [(0, .ref b), (1, .ref h0), (2, .ref g0), (3, .ref o0), (4, .int (nI (4 * j)))] := hl
  have hP : va_P (dC, dI) vwCl [(g0, .inr (1, [.ref b0, .ref b1, .ref b2, .int k, .int th])), (b0, .inl (cA, 10, .inl w)), (b1, .inl (cA, 10, .inl pr)), (b2, .inl (cA, 310, .inl vt)), (h0, .inr (0, [.ref a0, .ref a1, .ref a2, .ref a3, .int k])), (a0, .inl (cA, 10, .inl w)), (a1, .inl (cA, 10, .inl pr)), (a2, .inl (cA, 31, .inl vo)), (a3, .inl (cA, 31, .inl vf)), (o0, .inl (cL, 1, .inr (.inl fo)))] H := hP
  have hD : va_D (bb_A s) [(g0, .inr (1, [.ref b0, .ref b1, .ref b2, .int k, .int th])), (b0, .inl (cA, 10, .inl w)), (b1, .inl (cA, 10, .inl pr)), (b2, .inl (cA, 310, .inl vt)), (h0, .inr (0, [.ref a0, .ref a1, .ref a2, .ref a3, .int k])), (a0, .inl (cA, 10, .inl w)), (a1, .inl (cA, 10, .inl pr)), (a2, .inl (cA, 31, .inl vo)), (a3, .inl (cA, 31, .inl vf)), (o0, .inl (cL, 1, .inr (.inl fo)))] := hD
  refine lv_aload_n hx hb dL_law_968 rfl (lv_at hl 1 rfl) ?_
  refine lv_aload_n hx hb dL_law_969 rfl (lv_at hl 0 rfl) ?_
  refine lv_iload hx hb dL_law_970 (lv_at hl 4 rfl) ?_
  refine lv_iconst (v := 1) hx hb dL_law_972 (by decide) ?_
  refine lv_iadd hx hb dL_law_973 ?_
  refine bb_topi (y := nI (4 * j + 1)) (bb_add1 j) ?_
  refine bb_sld hx hb hX hbl hbA hS (4 * j + 1) (by omega) hL e1 dL_law_974 ?_
  have hPc : va_P (dC, dI) vwCl [(h0, .inr (0, [.ref a0, .ref a1, .ref a2, .ref a3, .int k])), (a0, .inl (cA, 10, .inl w)), (a1, .inl (cA, 10, .inl pr)), (a2, .inl (cA, 31, .inl vo)), (a3, .inl (cA, 31, .inl vf))] H := bb_Pmid (pre := [(g0, .inr (1, [.ref b0, .ref b1, .ref b2, .int k, .int th])), (b0, .inl (cA, 10, .inl w)), (b1, .inl (cA, 10, .inl pr)), (b2, .inl (cA, 310, .inl vt))]) (wc := [(h0, .inr (0, [.ref a0, .ref a1, .ref a2, .ref a3, .int k])), (a0, .inl (cA, 10, .inl w)), (a1, .inl (cA, 10, .inl pr)), (a2, .inl (cA, 31, .inl vo)), (a3, .inl (cA, 31, .inl vf))]) (post := [(o0, .inl (cL, 1, .inr (.inl fo)))]) hP
  refine bb_cV (As := [.int 2]) (rest := []) (r := bb_vs vo 31) 0 ⟨hx, hb, hml, hown, hts⟩ (k_count_2 l dC dI cA h0 a0 a1 a2 a3 w pr vo vf k ) (cwV 1 hts gL_law_X0_count rfl rfl rfl (by decide +kernel) ⟨Nat.le_of_ble_eq_true rfl, Nat.le_of_ble_eq_true rfl⟩) hPc hK1 rfl rfl rfl hl.1 rfl (Nat.le_of_ble_eq_true rfl) dL_law_975 (by show _ ≤ 1046; omega) (by show _ ≤ 8687; omega) ?_
  refine lv_aload_n hx hb dL_law_978 rfl (lv_at hl 2 rfl) ?_
  refine lv_aload_n hx hb dL_law_979 rfl (lv_at hl 0 rfl) ?_
  refine lv_iload hx hb dL_law_980 (lv_at hl 4 rfl) ?_
  refine lv_iconst (v := 1) hx hb dL_law_982 (by decide) ?_
  refine lv_iadd hx hb dL_law_983 ?_
  refine bb_topi (y := nI (4 * j + 1)) (bb_add1 j) ?_
  refine bb_sld hx hb hX hbl hbA hS (4 * j + 1) (by omega) hL e1 dL_law_984 ?_
  refine bb_cVf (As := [.int 2]) (rest := [.int (bb_vs vo 31)]) (r := nI (bb_cn (fun k9 => decide (vt k9 ≠ -1)) 310)) (pre := []) (wc := [(g0, .inr (1, [.ref b0, .ref b1, .ref b2, .int k, .int th])), (b0, .inl (cA, 10, .inl w)), (b1, .inl (cA, 10, .inl pr)), (b2, .inl (cA, 310, .inl vt))]) (post := [(h0, .inr (0, [.ref a0, .ref a1, .ref a2, .ref a3, .int k])), (a0, .inl (cA, 10, .inl w)), (a1, .inl (cA, 10, .inl pr)), (a2, .inl (cA, 31, .inl vo)), (a3, .inl (cA, 31, .inl vf)), (o0, .inl (cL, 1, .inr (.inl fo)))]) (wc' := [(g0, .inr (1, [.ref b0, .ref b1, .ref b2, .int k, .int 0])), (b0, .inl (cA, 10, .inl w)), (b1, .inl (cA, 10, .inl pr)), (b2, .inl (cA, 310, .inl vt))]) 0 ⟨hx, hb, hml, hown, hts⟩ (r_count_2 l dC dI cA g0 b0 b1 b2 w pr vt k th H.size ) (cwV 1 hts gL_law_X1_count rfl rfl rfl (by decide +kernel) ⟨Nat.le_of_ble_eq_true rfl, Nat.le_of_ble_eq_true rfl⟩) hP hK1 hD hS hA rfl rfl rfl rfl hl.1 rfl (Nat.le_of_ble_eq_true rfl) dL_law_985 (by show _ ≤ 1046; omega) (by show _ ≤ 8687; omega) (fun H locs hP hD hS => ?_)
  have hP : va_P (dC, dI) vwCl [(g0, .inr (1, [.ref b0, .ref b1, .ref b2, .int k, .int 0])), (b0, .inl (cA, 10, .inl w)), (b1, .inl (cA, 10, .inl pr)), (b2, .inl (cA, 310, .inl vt)), (h0, .inr (0, [.ref a0, .ref a1, .ref a2, .ref a3, .int k])), (a0, .inl (cA, 10, .inl w)), (a1, .inl (cA, 10, .inl pr)), (a2, .inl (cA, 31, .inl vo)), (a3, .inl (cA, 31, .inl vf)), (o0, .inl (cL, 1, .inr (.inl fo)))] H := hP
  have hD : va_D (bb_A s) [(g0, .inr (1, [.ref b0, .ref b1, .ref b2, .int k, .int 0])), (b0, .inl (cA, 10, .inl w)), (b1, .inl (cA, 10, .inl pr)), (b2, .inl (cA, 310, .inl vt)), (h0, .inr (0, [.ref a0, .ref a1, .ref a2, .ref a3, .int k])), (a0, .inl (cA, 10, .inl w)), (a1, .inl (cA, 10, .inl pr)), (a2, .inl (cA, 31, .inl vo)), (a3, .inl (cA, 31, .inl vf)), (o0, .inl (cL, 1, .inr (.inl fo)))] := hD
  refine bb_topi (y := bb_vs vo 31) (bb_e_count2 hok) ?_
  refine lv_icmp_eq (tgt := 993) hx hb dL_law_988 rfl (fun h988 => ?_) (fun h988 => absurd rfl h988)
  refine W.widen (k := 11 + j) (n := 429 + 6 * j) (by omega) (by omega) ?_
  exact K _ _ _ _ _ _ _ _ _ _ _ (hok) hP hD hS (lv_sub hl [0, 1, 2, 3, 4] rfl)

set_option maxHeartbeats 4000000 in
set_option maxRecDepth 100000 in
theorem L_count_3 {p : Program} {l : Launch} {e : Env} {s : State} {m : MethodId} {below : List Frame} {meth : Method} {c : Code} {Q : State → Prop} {b L : Nat} {xs : Nat → Int32} {dC : Nat → ClassId} {dI : Nat → Nat → Nat} {cA cL : ClassId} (X : bb_Cx p l s m c b L xs dC dI cA cL) {g0 b0 b1 b2 h0 a0 a1 a2 a3 o0 : Nat} {w pr vo vf vt : Nat → Int32} {k th : Int32} {fo : Nat → Int64} {H : Heap} {locs : List Loc} {ls : Array Slot} {j : Nat} (hj : 4 * j + 3 < L) (hok : bb_ok w k pr vo vf vt)
    (hP : va_P (dC, dI) vwCl (bb_F g0 b0 b1 b2 h0 a0 a1 a2 a3 o0 cA cL w pr vo vf vt k th fo) H) (hD : va_D (bb_A s) (bb_F g0 b0 b1 b2 h0 a0 a1 a2 a3 o0 cA cL w pr vo vf vt k th fo)) (hS : va_S (bb_A s) s.heap H locs) (hl : lv_has ls 7 (bb_ll b h0 g0 o0 j)) (K : bb_K p l e s m below meth c b dC dI cA cL g0 b0 b1 b2 h0 a0 a1 a2 a3 o0 j Q)  (e1 : xs (4 * j + 1) = 3) : W p l e room_1 s m #[Value.ref b] below meth c H locs (10 + j) (423 + 6 * j) Q (F0 m 968 ls []) := by
  obtain ⟨hx, hb, hml, hown, hts, hX, hbl, hK, hZ, htr, hL⟩ := X
  have hA : ∀ q : Nat, s.heap.size ≤ q → bb_A s q := fun _ h => h
  have hbA : ¬ bb_A s b := Nat.not_le.mpr hbl
  have hK1 := hK.sub [0] (tys' := [(cA, .int)]) rfl
  have hjb : j < 512 := by omega
  have hl : lv_has ls 7 [(0, .ref b), (1, .ref h0), (2, .ref g0), (3, .ref o0), (4, .int (nI (4 * j)))] := hl
  have hP : va_P (dC, dI) vwCl [(g0, .inr (1, [.ref b0, .ref b1, .ref b2, .int k, .int th])), (b0, .inl (cA, 10, .inl w)), (b1, .inl (cA, 10, .inl pr)), (b2, .inl (cA, 310, .inl vt)), (h0, .inr (0, [.ref a0, .ref a1, .ref a2, .ref a3, .int k])), (a0, .inl (cA, 10, .inl w)), (a1, .inl (cA, 10, .inl pr)), (a2, .inl (cA, 31, .inl vo)), (a3, .inl (cA, 31, .inl vf)), (o0, .inl (cL, 1, .inr (.inl fo)))] H := hP
  have hD : va_D (bb_A s) [(g0, .inr (1, [.ref b0, .ref b1, .ref b2, .int k, .int th])), (b0, .inl (cA, 10, .inl w)), (b1, .inl (cA, 10, .inl pr)), (b2, .inl (cA, 310, .inl vt)), (h0, .inr (0, [.ref a0, .ref a1, .ref a2, .ref a3, .int k])), (a0, .inl (cA, 10, .inl w)), (a1, .inl (cA, 10, .inl pr)), (a2, .inl (cA, 31, .inl vo)), (a3, .inl (cA, 31, .inl vf)), (o0, .inl (cL, 1, .inr (.inl fo)))] := hD
  refine lv_aload_n hx hb dL_law_968 rfl (lv_at hl 1 rfl) ?_
  refine lv_aload_n hx hb dL_law_969 rfl (lv_at hl 0 rfl) ?_
  refine lv_iload hx hb dL_law_970 (lv_at hl 4 rfl) ?_
  refine lv_iconst (v := 1) hx hb dL_law_972 (by decide) ?_
  refine lv_iadd hx hb dL_law_973 ?_
  refine bb_topi (y := nI (4 * j + 1)) (bb_add1 j) ?_
  refine bb_sld hx hb hX hbl hbA hS (4 * j + 1) (by omega) hL e1 dL_law_974 ?_
  have hPc : va_P (dC, dI) vwCl [(h0, .inr (0, [.ref a0, .ref a1, .ref a2, .ref a3, .int k])), (a0, .inl (cA, 10, .inl w)), (a1, .inl (cA, 10, .inl pr)), (a2, .inl (cA, 31, .inl vo)), (a3, .inl (cA, 31, .inl vf))] H := bb_Pmid (pre := [(g0, .inr (1, [.ref b0, .ref b1, .ref b2, .int k, .int th])), (b0, .inl (cA, 10, .inl w)), (b1, .inl (cA, 10, .inl pr)), (b2, .inl (cA, 310, .inl vt))]) (wc := [(h0, .inr (0, [.ref a0, .ref a1, .ref a2, .ref a3, .int k])), (a0, .inl (cA, 10, .inl w)), (a1, .inl (cA, 10, .inl pr)), (a2, .inl (cA, 31, .inl vo)), (a3, .inl (cA, 31, .inl vf))]) (post := [(o0, .inl (cL, 1, .inr (.inl fo)))]) hP
  refine bb_cV (As := [.int 3]) (rest := []) (r := nI (bb_cn (fun b9 => decide (bb_cho w k vo vf b9 ≠ -1)) 31)) 0 ⟨hx, hb, hml, hown, hts⟩ (k_count_3 l dC dI cA h0 a0 a1 a2 a3 w pr vo vf k ) (cwV 1 hts gL_law_X0_count rfl rfl rfl (by decide +kernel) ⟨Nat.le_of_ble_eq_true rfl, Nat.le_of_ble_eq_true rfl⟩) hPc hK1 rfl rfl rfl hl.1 rfl (Nat.le_of_ble_eq_true rfl) dL_law_975 (by show _ ≤ 1046; omega) (by show _ ≤ 8687; omega) ?_
  refine lv_aload_n hx hb dL_law_978 rfl (lv_at hl 2 rfl) ?_
  refine lv_aload_n hx hb dL_law_979 rfl (lv_at hl 0 rfl) ?_
  refine lv_iload hx hb dL_law_980 (lv_at hl 4 rfl) ?_
  refine lv_iconst (v := 1) hx hb dL_law_982 (by decide) ?_
  refine lv_iadd hx hb dL_law_983 ?_
  refine bb_topi (y := nI (4 * j + 1)) (bb_add1 j) ?_
  refine bb_sld hx hb hX hbl hbA hS (4 * j + 1) (by omega) hL e1 dL_law_984 ?_
  refine bb_cVf (As := [.int 3]) (rest := [.int (nI (bb_cn (fun b9 => decide (bb_cho w k vo vf b9 ≠ -1)) 31))]) (r := nI (bb_cn (fun b9 => decide (bb_rch w k vt b9 ≠ -1)) 31)) (pre := []) (wc := [(g0, .inr (1, [.ref b0, .ref b1, .ref b2, .int k, .int th])), (b0, .inl (cA, 10, .inl w)), (b1, .inl (cA, 10, .inl pr)), (b2, .inl (cA, 310, .inl vt))]) (post := [(h0, .inr (0, [.ref a0, .ref a1, .ref a2, .ref a3, .int k])), (a0, .inl (cA, 10, .inl w)), (a1, .inl (cA, 10, .inl pr)), (a2, .inl (cA, 31, .inl vo)), (a3, .inl (cA, 31, .inl vf)), (o0, .inl (cL, 1, .inr (.inl fo)))]) (wc' := [(g0, .inr (1, [.ref b0, .ref b1, .ref b2, .int k, .int 0])), (b0, .inl (cA, 10, .inl w)), (b1, .inl (cA, 10, .inl pr)), (b2, .inl (cA, 310, .inl vt))]) 0 ⟨hx, hb, hml, hown, hts⟩ (r_count_3 l dC dI cA g0 b0 b1 b2 w pr vt k th H.size ) (cwV 1 hts gL_law_X1_count rfl rfl rfl (by decide +kernel) ⟨Nat.le_of_ble_eq_true rfl, Nat.le_of_ble_eq_true rfl⟩) hP hK1 hD hS hA rfl rfl rfl rfl hl.1 rfl (Nat.le_of_ble_eq_true rfl) dL_law_985 (by show _ ≤ 1046; omega) (by show _ ≤ 8687; omega) (fun H locs hP hD hS => ?_)
  have hP : va_P (dC, dI) vwCl [(g0, .inr (1, [.ref b0, .ref b1, .ref b2, .int k, .int 0])), (b0, .inl (cA, 10, .inl w)), (b1, .inl (cA, 10, .inl pr)), (b2, .inl (cA, 310, .inl vt)), (h0, .inr (0, [.ref a0, .ref a1, .ref a2, .ref a3, .int k])), (a0, .inl (cA, 10, .inl w)), (a1, .inl (cA, 10, .inl pr)), (a2, .inl (cA, 31, .inl vo)), (a3, .inl (cA, 31, .inl vf)), (o0, .inl (cL, 1, .inr (.inl fo)))] H := hP
  have hD : va_D (bb_A s) [(g0, .inr (1, [.ref b0, .ref b1, .ref b2, .int k, .int 0])), (b0, .inl (cA, 10, .inl w)), (b1, .inl (cA, 10, .inl pr)), (b2, .inl (cA, 310, .inl vt)), (h0, .inr (0, [.ref a0, .ref a1, .ref a2, .ref a3, .int k])), (a0, .inl (cA, 10, .inl w)), (a1, .inl (cA, 10, .inl pr)), (a2, .inl (cA, 31, .inl vo)), (a3, .inl (cA, 31, .inl vf)), (o0, .inl (cL, 1, .inr (.inl fo)))] := hD
  refine bb_topi (y := nI (bb_cn (fun b9 => decide (bb_cho w k vo vf b9 ≠ -1)) 31)) (congrArg nI (bb_e_count3 hok)) ?_
  refine lv_icmp_eq (tgt := 993) hx hb dL_law_988 rfl (fun h988 => ?_) (fun h988 => absurd rfl h988)
  refine W.widen (k := 11 + j) (n := 429 + 6 * j) (by omega) (by omega) ?_
  exact K _ _ _ _ _ _ _ _ _ _ _ (hok) hP hD hS (lv_sub hl [0, 1, 2, 3, 4] rfl)

set_option maxHeartbeats 4000000 in
set_option maxRecDepth 100000 in
theorem L_count_4 {p : Program} {l : Launch} {e : Env} {s : State} {m : MethodId} {below : List Frame} {meth : Method} {c : Code} {Q : State → Prop} {b L : Nat} {xs : Nat → Int32} {dC : Nat → ClassId} {dI : Nat → Nat → Nat} {cA cL : ClassId} (X : bb_Cx p l s m c b L xs dC dI cA cL) {g0 b0 b1 b2 h0 a0 a1 a2 a3 o0 : Nat} {w pr vo vf vt : Nat → Int32} {k th : Int32} {fo : Nat → Int64} {H : Heap} {locs : List Loc} {ls : Array Slot} {j : Nat} (hj : 4 * j + 3 < L) (hok : bb_ok w k pr vo vf vt)
    (hP : va_P (dC, dI) vwCl (bb_F g0 b0 b1 b2 h0 a0 a1 a2 a3 o0 cA cL w pr vo vf vt k th fo) H) (hD : va_D (bb_A s) (bb_F g0 b0 b1 b2 h0 a0 a1 a2 a3 o0 cA cL w pr vo vf vt k th fo)) (hS : va_S (bb_A s) s.heap H locs) (hl : lv_has ls 7 (bb_ll b h0 g0 o0 j)) (K : bb_K p l e s m below meth c b dC dI cA cL g0 b0 b1 b2 h0 a0 a1 a2 a3 o0 j Q)  (e1 : xs (4 * j + 1) = 4) : W p l e room_1 s m #[Value.ref b] below meth c H locs (10 + j) (423 + 6 * j) Q (F0 m 968 ls []) := by
  obtain ⟨hx, hb, hml, hown, hts, hX, hbl, hK, hZ, htr, hL⟩ := X
  have hA : ∀ q : Nat, s.heap.size ≤ q → bb_A s q := fun _ h => h
  have hbA : ¬ bb_A s b := Nat.not_le.mpr hbl
  have hK1 := hK.sub [0] (tys' := [(cA, .int)]) rfl
  have hjb : j < 512 := by omega
  have hl : lv_has ls 7 [(0, .ref b), (1, .ref h0), (2, .ref g0), (3, .ref o0), (4, .int (nI (4 * j)))] := hl
  have hP : va_P (dC, dI) vwCl [(g0, .inr (1, [.ref b0, .ref b1, .ref b2, .int k, .int th])), (b0, .inl (cA, 10, .inl w)), (b1, .inl (cA, 10, .inl pr)), (b2, .inl (cA, 310, .inl vt)), (h0, .inr (0, [.ref a0, .ref a1, .ref a2, .ref a3, .int k])), (a0, .inl (cA, 10, .inl w)), (a1, .inl (cA, 10, .inl pr)), (a2, .inl (cA, 31, .inl vo)), (a3, .inl (cA, 31, .inl vf)), (o0, .inl (cL, 1, .inr (.inl fo)))] H := hP
  have hD : va_D (bb_A s) [(g0, .inr (1, [.ref b0, .ref b1, .ref b2, .int k, .int th])), (b0, .inl (cA, 10, .inl w)), (b1, .inl (cA, 10, .inl pr)), (b2, .inl (cA, 310, .inl vt)), (h0, .inr (0, [.ref a0, .ref a1, .ref a2, .ref a3, .int k])), (a0, .inl (cA, 10, .inl w)), (a1, .inl (cA, 10, .inl pr)), (a2, .inl (cA, 31, .inl vo)), (a3, .inl (cA, 31, .inl vf)), (o0, .inl (cL, 1, .inr (.inl fo)))] := hD
  refine lv_aload_n hx hb dL_law_968 rfl (lv_at hl 1 rfl) ?_
  refine lv_aload_n hx hb dL_law_969 rfl (lv_at hl 0 rfl) ?_
  refine lv_iload hx hb dL_law_970 (lv_at hl 4 rfl) ?_
  refine lv_iconst (v := 1) hx hb dL_law_972 (by decide) ?_
  refine lv_iadd hx hb dL_law_973 ?_
  refine bb_topi (y := nI (4 * j + 1)) (bb_add1 j) ?_
  refine bb_sld hx hb hX hbl hbA hS (4 * j + 1) (by omega) hL e1 dL_law_974 ?_
  have hPc : va_P (dC, dI) vwCl [(h0, .inr (0, [.ref a0, .ref a1, .ref a2, .ref a3, .int k])), (a0, .inl (cA, 10, .inl w)), (a1, .inl (cA, 10, .inl pr)), (a2, .inl (cA, 31, .inl vo)), (a3, .inl (cA, 31, .inl vf))] H := bb_Pmid (pre := [(g0, .inr (1, [.ref b0, .ref b1, .ref b2, .int k, .int th])), (b0, .inl (cA, 10, .inl w)), (b1, .inl (cA, 10, .inl pr)), (b2, .inl (cA, 310, .inl vt))]) (wc := [(h0, .inr (0, [.ref a0, .ref a1, .ref a2, .ref a3, .int k])), (a0, .inl (cA, 10, .inl w)), (a1, .inl (cA, 10, .inl pr)), (a2, .inl (cA, 31, .inl vo)), (a3, .inl (cA, 31, .inl vf))]) (post := [(o0, .inl (cL, 1, .inr (.inl fo)))]) hP
  refine bb_cV (As := [.int 4]) (rest := []) (r := bb_bc (bb_se (bb_cho w k vo vf) 31)) 0 ⟨hx, hb, hml, hown, hts⟩ (k_count_4 l dC dI cA h0 a0 a1 a2 a3 w pr vo vf k ) (cwV 1 hts gL_law_X0_count rfl rfl rfl (by decide +kernel) ⟨Nat.le_of_ble_eq_true rfl, Nat.le_of_ble_eq_true rfl⟩) hPc hK1 rfl rfl rfl hl.1 rfl (Nat.le_of_ble_eq_true rfl) dL_law_975 (by show _ ≤ 1046; omega) (by show _ ≤ 8687; omega) ?_
  refine lv_aload_n hx hb dL_law_978 rfl (lv_at hl 2 rfl) ?_
  refine lv_aload_n hx hb dL_law_979 rfl (lv_at hl 0 rfl) ?_
  refine lv_iload hx hb dL_law_980 (lv_at hl 4 rfl) ?_
  refine lv_iconst (v := 1) hx hb dL_law_982 (by decide) ?_
  refine lv_iadd hx hb dL_law_983 ?_
  refine bb_topi (y := nI (4 * j + 1)) (bb_add1 j) ?_
  refine bb_sld hx hb hX hbl hbA hS (4 * j + 1) (by omega) hL e1 dL_law_984 ?_
  refine bb_cVf (As := [.int 4]) (rest := [.int (bb_bc (bb_se (bb_cho w k vo vf) 31))]) (r := nI (bb_cn (fun v9 => bb_ex (fun b9 => decide (bb_rch w k vt b9 = nI v9)) 31) 10)) (pre := []) (wc := [(g0, .inr (1, [.ref b0, .ref b1, .ref b2, .int k, .int th])), (b0, .inl (cA, 10, .inl w)), (b1, .inl (cA, 10, .inl pr)), (b2, .inl (cA, 310, .inl vt))]) (post := [(h0, .inr (0, [.ref a0, .ref a1, .ref a2, .ref a3, .int k])), (a0, .inl (cA, 10, .inl w)), (a1, .inl (cA, 10, .inl pr)), (a2, .inl (cA, 31, .inl vo)), (a3, .inl (cA, 31, .inl vf)), (o0, .inl (cL, 1, .inr (.inl fo)))]) (wc' := [(g0, .inr (1, [.ref b0, .ref b1, .ref b2, .int k, .int 0])), (b0, .inl (cA, 10, .inl w)), (b1, .inl (cA, 10, .inl pr)), (b2, .inl (cA, 310, .inl vt))]) 0 ⟨hx, hb, hml, hown, hts⟩ (r_count_4 l dC dI cA g0 b0 b1 b2 w pr vt k th H.size ) (cwV 1 hts gL_law_X1_count rfl rfl rfl (by decide +kernel) ⟨Nat.le_of_ble_eq_true rfl, Nat.le_of_ble_eq_true rfl⟩) hP hK1 hD hS hA rfl rfl rfl rfl hl.1 rfl (Nat.le_of_ble_eq_true rfl) dL_law_985 (by show _ ≤ 1046; omega) (by show _ ≤ 8687; omega) (fun H locs hP hD hS => ?_)
  have hP : va_P (dC, dI) vwCl [(g0, .inr (1, [.ref b0, .ref b1, .ref b2, .int k, .int 0])), (b0, .inl (cA, 10, .inl w)), (b1, .inl (cA, 10, .inl pr)), (b2, .inl (cA, 310, .inl vt)), (h0, .inr (0, [.ref a0, .ref a1, .ref a2, .ref a3, .int k])), (a0, .inl (cA, 10, .inl w)), (a1, .inl (cA, 10, .inl pr)), (a2, .inl (cA, 31, .inl vo)), (a3, .inl (cA, 31, .inl vf)), (o0, .inl (cL, 1, .inr (.inl fo)))] H := hP
  have hD : va_D (bb_A s) [(g0, .inr (1, [.ref b0, .ref b1, .ref b2, .int k, .int 0])), (b0, .inl (cA, 10, .inl w)), (b1, .inl (cA, 10, .inl pr)), (b2, .inl (cA, 310, .inl vt)), (h0, .inr (0, [.ref a0, .ref a1, .ref a2, .ref a3, .int k])), (a0, .inl (cA, 10, .inl w)), (a1, .inl (cA, 10, .inl pr)), (a2, .inl (cA, 31, .inl vo)), (a3, .inl (cA, 31, .inl vf)), (o0, .inl (cL, 1, .inr (.inl fo)))] := hD
  refine bb_topi (y := bb_bc (bb_se (bb_cho w k vo vf) 31)) (bb_e_count4 hok) ?_
  refine lv_icmp_eq (tgt := 993) hx hb dL_law_988 rfl (fun h988 => ?_) (fun h988 => absurd rfl h988)
  refine W.widen (k := 11 + j) (n := 429 + 6 * j) (by omega) (by omega) ?_
  exact K _ _ _ _ _ _ _ _ _ _ _ (hok) hP hD hS (lv_sub hl [0, 1, 2, 3, 4] rfl)

set_option maxHeartbeats 4000000 in
set_option maxRecDepth 100000 in
theorem L_count_x {p : Program} {l : Launch} {e : Env} {s : State} {m : MethodId} {below : List Frame} {meth : Method} {c : Code} {Q : State → Prop} {b L : Nat} {xs : Nat → Int32} {dC : Nat → ClassId} {dI : Nat → Nat → Nat} {cA cL : ClassId} (X : bb_Cx p l s m c b L xs dC dI cA cL) {g0 b0 b1 b2 h0 a0 a1 a2 a3 o0 : Nat} {w pr vo vf vt : Nat → Int32} {k th : Int32} {fo : Nat → Int64} {H : Heap} {locs : List Loc} {ls : Array Slot} {j : Nat} (hj : 4 * j + 3 < L) (hok : bb_ok w k pr vo vf vt)
    (hP : va_P (dC, dI) vwCl (bb_F g0 b0 b1 b2 h0 a0 a1 a2 a3 o0 cA cL w pr vo vf vt k th fo) H) (hD : va_D (bb_A s) (bb_F g0 b0 b1 b2 h0 a0 a1 a2 a3 o0 cA cL w pr vo vf vt k th fo)) (hS : va_S (bb_A s) s.heap H locs) (hl : lv_has ls 7 (bb_ll b h0 g0 o0 j)) (K : bb_K p l e s m below meth c b dC dI cA cL g0 b0 b1 b2 h0 a0 a1 a2 a3 o0 j Q) (x0 : Int32) (hbad : x0.toInt < 0 ∨ 4 < x0.toInt) (e1 : xs (4 * j + 1) = x0) : W p l e room_1 s m #[Value.ref b] below meth c H locs (10 + j) (423 + 6 * j) Q (F0 m 968 ls []) := by
  obtain ⟨hx, hb, hml, hown, hts, hX, hbl, hK, hZ, htr, hL⟩ := X
  have hA : ∀ q : Nat, s.heap.size ≤ q → bb_A s q := fun _ h => h
  have hbA : ¬ bb_A s b := Nat.not_le.mpr hbl
  have hK1 := hK.sub [0] (tys' := [(cA, .int)]) rfl
  have hjb : j < 512 := by omega
  have hl : lv_has ls 7 [(0, .ref b), (1, .ref h0), (2, .ref g0), (3, .ref o0), (4, .int (nI (4 * j)))] := hl
  have hP : va_P (dC, dI) vwCl [(g0, .inr (1, [.ref b0, .ref b1, .ref b2, .int k, .int th])), (b0, .inl (cA, 10, .inl w)), (b1, .inl (cA, 10, .inl pr)), (b2, .inl (cA, 310, .inl vt)), (h0, .inr (0, [.ref a0, .ref a1, .ref a2, .ref a3, .int k])), (a0, .inl (cA, 10, .inl w)), (a1, .inl (cA, 10, .inl pr)), (a2, .inl (cA, 31, .inl vo)), (a3, .inl (cA, 31, .inl vf)), (o0, .inl (cL, 1, .inr (.inl fo)))] H := hP
  have hD : va_D (bb_A s) [(g0, .inr (1, [.ref b0, .ref b1, .ref b2, .int k, .int th])), (b0, .inl (cA, 10, .inl w)), (b1, .inl (cA, 10, .inl pr)), (b2, .inl (cA, 310, .inl vt)), (h0, .inr (0, [.ref a0, .ref a1, .ref a2, .ref a3, .int k])), (a0, .inl (cA, 10, .inl w)), (a1, .inl (cA, 10, .inl pr)), (a2, .inl (cA, 31, .inl vo)), (a3, .inl (cA, 31, .inl vf)), (o0, .inl (cL, 1, .inr (.inl fo)))] := hD
  refine lv_aload_n hx hb dL_law_968 rfl (lv_at hl 1 rfl) ?_
  refine lv_aload_n hx hb dL_law_969 rfl (lv_at hl 0 rfl) ?_
  refine lv_iload hx hb dL_law_970 (lv_at hl 4 rfl) ?_
  refine lv_iconst (v := 1) hx hb dL_law_972 (by decide) ?_
  refine lv_iadd hx hb dL_law_973 ?_
  refine bb_topi (y := nI (4 * j + 1)) (bb_add1 j) ?_
  refine bb_sld hx hb hX hbl hbA hS (4 * j + 1) (by omega) hL e1 dL_law_974 ?_
  have hPc : va_P (dC, dI) vwCl [(h0, .inr (0, [.ref a0, .ref a1, .ref a2, .ref a3, .int k])), (a0, .inl (cA, 10, .inl w)), (a1, .inl (cA, 10, .inl pr)), (a2, .inl (cA, 31, .inl vo)), (a3, .inl (cA, 31, .inl vf))] H := bb_Pmid (pre := [(g0, .inr (1, [.ref b0, .ref b1, .ref b2, .int k, .int th])), (b0, .inl (cA, 10, .inl w)), (b1, .inl (cA, 10, .inl pr)), (b2, .inl (cA, 310, .inl vt))]) (wc := [(h0, .inr (0, [.ref a0, .ref a1, .ref a2, .ref a3, .int k])), (a0, .inl (cA, 10, .inl w)), (a1, .inl (cA, 10, .inl pr)), (a2, .inl (cA, 31, .inl vo)), (a3, .inl (cA, 31, .inl vf))]) (post := [(o0, .inl (cL, 1, .inr (.inl fo)))]) hP
  refine bb_cV (As := [.int x0]) (rest := []) (r := (-1)) 0 ⟨hx, hb, hml, hown, hts⟩ (k_count_x l dC dI cA h0 a0 a1 a2 a3 w pr vo vf k x0 hbad) (cwV 1 hts gL_law_X0_count rfl rfl rfl (by decide +kernel) ⟨Nat.le_of_ble_eq_true rfl, Nat.le_of_ble_eq_true rfl⟩) hPc hK1 rfl rfl rfl hl.1 rfl (Nat.le_of_ble_eq_true rfl) dL_law_975 (by show _ ≤ 1046; omega) (by show _ ≤ 8687; omega) ?_
  refine lv_aload_n hx hb dL_law_978 rfl (lv_at hl 2 rfl) ?_
  refine lv_aload_n hx hb dL_law_979 rfl (lv_at hl 0 rfl) ?_
  refine lv_iload hx hb dL_law_980 (lv_at hl 4 rfl) ?_
  refine lv_iconst (v := 1) hx hb dL_law_982 (by decide) ?_
  refine lv_iadd hx hb dL_law_983 ?_
  refine bb_topi (y := nI (4 * j + 1)) (bb_add1 j) ?_
  refine bb_sld hx hb hX hbl hbA hS (4 * j + 1) (by omega) hL e1 dL_law_984 ?_
  refine bb_cVf (As := [.int x0]) (rest := [.int (-1)]) (r := (-1)) (pre := []) (wc := [(g0, .inr (1, [.ref b0, .ref b1, .ref b2, .int k, .int th])), (b0, .inl (cA, 10, .inl w)), (b1, .inl (cA, 10, .inl pr)), (b2, .inl (cA, 310, .inl vt))]) (post := [(h0, .inr (0, [.ref a0, .ref a1, .ref a2, .ref a3, .int k])), (a0, .inl (cA, 10, .inl w)), (a1, .inl (cA, 10, .inl pr)), (a2, .inl (cA, 31, .inl vo)), (a3, .inl (cA, 31, .inl vf)), (o0, .inl (cL, 1, .inr (.inl fo)))]) (wc' := [(g0, .inr (1, [.ref b0, .ref b1, .ref b2, .int k, .int 0])), (b0, .inl (cA, 10, .inl w)), (b1, .inl (cA, 10, .inl pr)), (b2, .inl (cA, 310, .inl vt))]) 0 ⟨hx, hb, hml, hown, hts⟩ (r_count_x l dC dI cA g0 b0 b1 b2 w pr vt k th H.size x0 hbad) (cwV 1 hts gL_law_X1_count rfl rfl rfl (by decide +kernel) ⟨Nat.le_of_ble_eq_true rfl, Nat.le_of_ble_eq_true rfl⟩) hP hK1 hD hS hA rfl rfl rfl rfl hl.1 rfl (Nat.le_of_ble_eq_true rfl) dL_law_985 (by show _ ≤ 1046; omega) (by show _ ≤ 8687; omega) (fun H locs hP hD hS => ?_)
  have hP : va_P (dC, dI) vwCl [(g0, .inr (1, [.ref b0, .ref b1, .ref b2, .int k, .int 0])), (b0, .inl (cA, 10, .inl w)), (b1, .inl (cA, 10, .inl pr)), (b2, .inl (cA, 310, .inl vt)), (h0, .inr (0, [.ref a0, .ref a1, .ref a2, .ref a3, .int k])), (a0, .inl (cA, 10, .inl w)), (a1, .inl (cA, 10, .inl pr)), (a2, .inl (cA, 31, .inl vo)), (a3, .inl (cA, 31, .inl vf)), (o0, .inl (cL, 1, .inr (.inl fo)))] H := hP
  have hD : va_D (bb_A s) [(g0, .inr (1, [.ref b0, .ref b1, .ref b2, .int k, .int 0])), (b0, .inl (cA, 10, .inl w)), (b1, .inl (cA, 10, .inl pr)), (b2, .inl (cA, 310, .inl vt)), (h0, .inr (0, [.ref a0, .ref a1, .ref a2, .ref a3, .int k])), (a0, .inl (cA, 10, .inl w)), (a1, .inl (cA, 10, .inl pr)), (a2, .inl (cA, 31, .inl vo)), (a3, .inl (cA, 31, .inl vf)), (o0, .inl (cL, 1, .inr (.inl fo)))] := hD
  refine lv_icmp_eq (tgt := 993) hx hb dL_law_988 rfl (fun h988 => ?_) (fun h988 => absurd rfl h988)
  refine W.widen (k := 11 + j) (n := 429 + 6 * j) (by omega) (by omega) ?_
  exact K _ _ _ _ _ _ _ _ _ _ _ (hok) hP hD hS (lv_sub hl [0, 1, 2, 3, 4] rfl)
