set_option maxHeartbeats 4000000 in
set_option maxRecDepth 100000 in
theorem L_chosen {p : Program} {l : Launch} {e : Env} {s : State} {m : MethodId} {below : List Frame} {meth : Method} {c : Code} {Q : State → Prop} {b L : Nat} {xs : Nat → Int32} {dC : Nat → ClassId} {dI : Nat → Nat → Nat} {cA cL : ClassId} (X : bb_Cx p l s m c b L xs dC dI cA cL) {g0 b0 b1 b2 h0 a0 a1 a2 a3 o0 : Nat} {w pr vo vf vt : Nat → Int32} {k th : Int32} {fo : Nat → Int64} {H : Heap} {locs : List Loc} {ls : Array Slot} {j : Nat} (hj : 4 * j + 3 < L) (hok : bb_ok w k pr vo vf vt)
    (hP : va_P (dC, dI) vwCl (bb_F g0 b0 b1 b2 h0 a0 a1 a2 a3 o0 cA cL w pr vo vf vt k th fo) H) (hD : va_D (bb_A s) (bb_F g0 b0 b1 b2 h0 a0 a1 a2 a3 o0 cA cL w pr vo vf vt k th fo)) (hS : va_S (bb_A s) s.heap H locs) (hl : lv_has ls 7 (bb_ll b h0 g0 o0 j)) (K : bb_K p l e s m below meth c b dC dI cA cL g0 b0 b1 b2 h0 a0 a1 a2 a3 o0 j Q) (b9 : Nat) (hb0 : b9 < 31) (e1 : xs (4 * j + 1) = nI b9) : W p l e room_1 s m #[Value.ref b] below meth c H locs (10 + j) (423 + 6 * j) Q (F0 m 460 ls []) := by
  obtain ⟨hx, hb, hml, hown, hts, hX, hbl, hK, hZ, htr, hL⟩ := X
  have hA : ∀ q : Nat, s.heap.size ≤ q → bb_A s q := fun _ h => h
  have hbA : ¬ bb_A s b := Nat.not_le.mpr hbl
  have hK1 := hK.sub [0] (tys' := [(cA, .int)]) rfl
  have hjb : j < 512 := by omega
  have hl : lv_has ls 7 [(0, .ref b), (1, .ref h0), (2, .ref g0), (3, .ref o0), (4, .int (nI (4 * j)))] := hl
  have hP : va_P (dC, dI) vwCl [(g0, .inr (1, [.ref b0, .ref b1, .ref b2, .int k, .int th])), (b0, .inl (cA, 10, .inl w)), (b1, .inl (cA, 10, .inl pr)), (b2, .inl (cA, 310, .inl vt)), (h0, .inr (0, [.ref a0, .ref a1, .ref a2, .ref a3, .int k])), (a0, .inl (cA, 10, .inl w)), (a1, .inl (cA, 10, .inl pr)), (a2, .inl (cA, 31, .inl vo)), (a3, .inl (cA, 31, .inl vf)), (o0, .inl (cL, 1, .inr (.inl fo)))] H := hP
  have hD : va_D (bb_A s) [(g0, .inr (1, [.ref b0, .ref b1, .ref b2, .int k, .int th])), (b0, .inl (cA, 10, .inl w)), (b1, .inl (cA, 10, .inl pr)), (b2, .inl (cA, 310, .inl vt)), (h0, .inr (0, [.ref a0, .ref a1, .ref a2, .ref a3, .int k])), (a0, .inl (cA, 10, .inl w)), (a1, .inl (cA, 10, .inl pr)), (a2, .inl (cA, 31, .inl vo)), (a3, .inl (cA, 31, .inl vf)), (o0, .inl (cL, 1, .inr (.inl fo)))] := hD
  refine lv_aload_n hx hb dL_law_460 rfl (lv_at hl 1 rfl) ?_
  refine lv_aload_n hx hb dL_law_461 rfl (lv_at hl 0 rfl) ?_
  refine lv_iload hx hb dL_law_462 (lv_at hl 4 rfl) ?_
  refine lv_iconst (v := 1) hx hb dL_law_464 (by decide) ?_
  refine lv_iadd hx hb dL_law_465 ?_
  refine bb_topi (y := nI (4 * j + 1)) (bb_add1 j) ?_
  refine bb_sld hx hb hX hbl hbA hS (4 * j + 1) (by omega) hL e1 dL_law_466 ?_
  refine lv_aload_n hx hb dL_law_467 rfl (lv_at hl 3 rfl) ?_
  refine bb_cWf (As := [.ref h0, .int (nI b9), .ref o0]) (rest := []) (r := 0) (pre := [(g0, .inr (1, [.ref b0, .ref b1, .ref b2, .int k, .int th])), (b0, .inl (cA, 10, .inl w)), (b1, .inl (cA, 10, .inl pr)), (b2, .inl (cA, 310, .inl vt))]) (wc := [(h0, .inr (0, [.ref a0, .ref a1, .ref a2, .ref a3, .int k])), (a0, .inl (cA, 10, .inl w)), (a1, .inl (cA, 10, .inl pr)), (a2, .inl (cA, 31, .inl vo)), (a3, .inl (cA, 31, .inl vf)), (o0, .inl (cL, 1, .inr (.inl fo)))]) (wc' := [(h0, .inr (0, [.ref a0, .ref a1, .ref a2, .ref a3, .int k])), (a0, .inl (cA, 10, .inl w)), (a1, .inl (cA, 10, .inl pr)), (a2, .inl (cA, 31, .inl vo)), (a3, .inl (cA, 31, .inl vf)), (o0, .inl (cL, 1, .inr (.inl (fun _ => (bb_cho w k vo vf b9).toInt64))))]) (post := []) (Px := fun _ => True) ⟨hx, hb, hml, hown, hts⟩ (w_chosen l dC dI cA cL h0 a0 a1 a2 a3 o0 w pr vo vf k fo H.size b9 hb0) (bb_cw 3 hts gL_law_L_chosen rfl rfl rfl gS_law_L_chosen gT_law_L_chosen gI_law_L_chosen (by decide +kernel) ⟨Nat.le_of_ble_eq_true rfl, Nat.le_of_ble_eq_true rfl⟩) (fun _ _ _ _ _ => trivial) (fun _ _ _ => trivial) hP hK hD hS hA rfl rfl hl.1 rfl (Nat.le_of_ble_eq_true rfl) dL_law_468 (by show _ ≤ 1046; omega) (by show _ ≤ 8687; omega) (fun H locs hP hD hS => ?_)
  have hP : va_P (dC, dI) vwCl [(g0, .inr (1, [.ref b0, .ref b1, .ref b2, .int k, .int th])), (b0, .inl (cA, 10, .inl w)), (b1, .inl (cA, 10, .inl pr)), (b2, .inl (cA, 310, .inl vt)), (h0, .inr (0, [.ref a0, .ref a1, .ref a2, .ref a3, .int k])), (a0, .inl (cA, 10, .inl w)), (a1, .inl (cA, 10, .inl pr)), (a2, .inl (cA, 31, .inl vo)), (a3, .inl (cA, 31, .inl vf)), (o0, .inl (cL, 1, .inr (.inl (fun _ => (bb_cho w k vo vf b9).toInt64))))] H := hP
  have hD : va_D (bb_A s) [(g0, .inr (1, [.ref b0, .ref b1, .ref b2, .int k, .int th])), (b0, .inl (cA, 10, .inl w)), (b1, .inl (cA, 10, .inl pr)), (b2, .inl (cA, 310, .inl vt)), (h0, .inr (0, [.ref a0, .ref a1, .ref a2, .ref a3, .int k])), (a0, .inl (cA, 10, .inl w)), (a1, .inl (cA, 10, .inl pr)), (a2, .inl (cA, 31, .inl vo)), (a3, .inl (cA, 31, .inl vf)), (o0, .inl (cL, 1, .inr (.inl (fun _ => (bb_cho w k vo vf b9).toInt64))))] := hD
  refine lv_istore (lv' := [(5, .int 0), (0, .ref b), (1, .ref h0), (2, .ref g0), (3, .ref o0), (4, .int (nI (4 * j)))]) hx hb dL_law_471 hl (by decide) rfl (fun ls hl => ?_)
  refine lv_aload_n hx hb dL_law_473 rfl (lv_at hl 3 rfl) ?_
  refine lv_aload_n hx hb dL_law_474 rfl (lv_at hl 1 rfl) ?_
  refine lv_iload hx hb dL_law_475 (lv_at hl 5 rfl) ?_
  refine lv_iconst (v := 1) hx hb dL_law_477 (by decide) ?_
  refine lv_iadd hx hb dL_law_478 ?_
  refine bb_topi (y := nI (4 * j + 1)) (bb_add1 j) ?_
  refine bb_sld hx hb hX hbl hbA hS (4 * j + 1) (by omega) hL e1 dL_law_479 ?_
  refine bb_cVf (As := [.int (nI b9)]) (rest := []) (r := bb_rch w k vt b9) (pre := []) (wc := [(g0, .inr (1, [.ref b0, .ref b1, .ref b2, .int k, .int th])), (b0, .inl (cA, 10, .inl w)), (b1, .inl (cA, 10, .inl pr)), (b2, .inl (cA, 310, .inl vt))]) (post := [(h0, .inr (0, [.ref a0, .ref a1, .ref a2, .ref a3, .int k])), (a0, .inl (cA, 10, .inl w)), (a1, .inl (cA, 10, .inl pr)), (a2, .inl (cA, 31, .inl vo)), (a3, .inl (cA, 31, .inl vf)), (o0, .inl (cL, 1, .inr (.inl (fun _ => (bb_cho w k vo vf b9).toInt64))))]) (wc' := [(g0, .inr (1, [.ref b0, .ref b1, .ref b2, .int k, .int 0])), (b0, .inl (cA, 10, .inl w)), (b1, .inl (cA, 10, .inl pr)), (b2, .inl (cA, 310, .inl vt))]) 0 ⟨hx, hb, hml, hown, hts⟩ (r_chosen l dC dI cA g0 b0 b1 b2 w pr vt k th H.size b9 hb0) (cwV 1 hts gL_law_X1_chosen rfl rfl rfl (by decide +kernel) ⟨Nat.le_of_ble_eq_true rfl, Nat.le_of_ble_eq_true rfl⟩) hP hK1 hD hS hA rfl rfl rfl rfl hl.1 rfl (Nat.le_of_ble_eq_true rfl) dL_law_480 (by show _ ≤ 1046; omega) (by show _ ≤ 8687; omega) (fun H locs hP hD hS => ?_)
  have hP : va_P (dC, dI) vwCl [(g0, .inr (1, [.ref b0, .ref b1, .ref b2, .int k, .int 0])), (b0, .inl (cA, 10, .inl w)), (b1, .inl (cA, 10, .inl pr)), (b2, .inl (cA, 310, .inl vt)), (h0, .inr (0, [.ref a0, .ref a1, .ref a2, .ref a3, .int k])), (a0, .inl (cA, 10, .inl w)), (a1, .inl (cA, 10, .inl pr)), (a2, .inl (cA, 31, .inl vo)), (a3, .inl (cA, 31, .inl vf)), (o0, .inl (cL, 1, .inr (.inl (fun _ => (bb_cho w k vo vf b9).toInt64))))] H := hP
  have hD : va_D (bb_A s) [(g0, .inr (1, [.ref b0, .ref b1, .ref b2, .int k, .int 0])), (b0, .inl (cA, 10, .inl w)), (b1, .inl (cA, 10, .inl pr)), (b2, .inl (cA, 310, .inl vt)), (h0, .inr (0, [.ref a0, .ref a1, .ref a2, .ref a3, .int k])), (a0, .inl (cA, 10, .inl w)), (a1, .inl (cA, 10, .inl pr)), (a2, .inl (cA, 31, .inl vo)), (a3, .inl (cA, 31, .inl vf)), (o0, .inl (cL, 1, .inr (.inl (fun _ => (bb_cho w k vo vf b9).toInt64))))] := hD
  refine bb_topi (y := bb_cho w k vo vf b9) (bb_e_ch hok hb0) ?_
  refine lv_istore (lv' := [(6, .int (bb_cho w k vo vf b9)), (5, .int 0), (0, .ref b), (1, .ref h0), (2, .ref g0), (3, .ref o0), (4, .int (nI (4 * j)))]) hx hb dL_law_483 hl (by decide) rfl (fun ls hl => ?_)
  refine lv_aload_n hx hb dL_law_485 rfl (lv_at hl 4 rfl) ?_
  have hPm : va_P (dC, dI) vwCl [(g0, .inr (1, [.ref b0, .ref b1, .ref b2, .int k, .int 0])), (b0, .inl (cA, 10, .inl w)), (b1, .inl (cA, 10, .inl pr)), (b2, .inl (cA, 310, .inl vt))] H := bb_Pmid (pre := []) (wc := [(g0, .inr (1, [.ref b0, .ref b1, .ref b2, .int k, .int 0])), (b0, .inl (cA, 10, .inl w)), (b1, .inl (cA, 10, .inl pr)), (b2, .inl (cA, 310, .inl vt))]) (post := [(h0, .inr (0, [.ref a0, .ref a1, .ref a2, .ref a3, .int k])), (a0, .inl (cA, 10, .inl w)), (a1, .inl (cA, 10, .inl pr)), (a2, .inl (cA, 31, .inl vo)), (a3, .inl (cA, 31, .inl vf)), (o0, .inl (cL, 1, .inr (.inl (fun _ => (bb_cho w k vo vf b9).toInt64))))]) hP
  refine bb_cV (As := []) (rest := []) (r := 0) 0 ⟨hx, hb, hml, hown, hts⟩ (m_thrown l dC dI cA g0 b0 b1 b2 w pr vt k 0) (cwV 0 hts gL_law_X1_thrown rfl rfl rfl (by decide +kernel) ⟨Nat.le_of_ble_eq_true rfl, Nat.le_of_ble_eq_true rfl⟩) hPm hK1 rfl rfl rfl hl.1 rfl (Nat.le_of_ble_eq_true rfl) dL_law_486 (by show _ ≤ 1046; omega) (by show _ ≤ 8687; omega) ?_
  refine lv_iload hx hb dL_law_489 (lv_at hl 1 rfl) ?_
  refine lv_icmp_eq (tgt := 496) hx hb dL_law_491 rfl (fun h491 => ?_) (fun h491 => absurd rfl h491)
  refine lv_iload hx hb dL_law_496 (lv_at hl 1 rfl) ?_
  refine lv_if_ne (tgt := 513) hx hb dL_law_498 rfl (fun h498 => absurd rfl h498) (fun h498 => ?_)
  refine lv_aload_n hx hb dL_law_501 rfl (lv_at hl 5 rfl) ?_
  refine lv_iconst (v := nI 0) hx hb dL_law_502 (by decide) ?_
  refine bb_lal hx hb hK hP 9 1 rfl rfl dL_law_503 ?_
  refine lv_iload hx hb dL_law_504 (lv_at hl 0 rfl) ?_
  refine lv_i2l (v := (bb_cho w k vo vf b9).toInt64) hx hb dL_law_506 rfl ?_
  refine W.lcmp hx hb dL_law_507 ?_
  refine bb_topi (y := 0) (bb_cmp0 _) ?_
  refine lv_if_eq (tgt := 513) hx hb dL_law_508 rfl (fun h508 => ?_) (fun h508 => absurd rfl h508)
  refine lv_goto (tgt := 993) hx hb dL_law_513 rfl ?_
  refine W.widen (k := 11 + j) (n := 429 + 6 * j) (by omega) (by omega) ?_
  exact K _ _ _ _ _ _ _ _ _ _ _ (hok) hP hD hS (lv_sub hl [2, 3, 4, 5, 6] rfl)

set_option maxHeartbeats 4000000 in
set_option maxRecDepth 100000 in
theorem L_chosen1 {p : Program} {l : Launch} {e : Env} {s : State} {m : MethodId} {below : List Frame} {meth : Method} {c : Code} {Q : State → Prop} {b L : Nat} {xs : Nat → Int32} {dC : Nat → ClassId} {dI : Nat → Nat → Nat} {cA cL : ClassId} (X : bb_Cx p l s m c b L xs dC dI cA cL) {g0 b0 b1 b2 h0 a0 a1 a2 a3 o0 : Nat} {w pr vo vf vt : Nat → Int32} {k th : Int32} {fo : Nat → Int64} {H : Heap} {locs : List Loc} {ls : Array Slot} {j : Nat} (hj : 4 * j + 3 < L) (hok : bb_ok w k pr vo vf vt)
    (hP : va_P (dC, dI) vwCl (bb_F g0 b0 b1 b2 h0 a0 a1 a2 a3 o0 cA cL w pr vo vf vt k th fo) H) (hD : va_D (bb_A s) (bb_F g0 b0 b1 b2 h0 a0 a1 a2 a3 o0 cA cL w pr vo vf vt k th fo)) (hS : va_S (bb_A s) s.heap H locs) (hl : lv_has ls 7 (bb_ll b h0 g0 o0 j)) (K : bb_K p l e s m below meth c b dC dI cA cL g0 b0 b1 b2 h0 a0 a1 a2 a3 o0 j Q) (x0 : Int32) (hbad : bb_out x0 (nI 31) = true) (e1 : xs (4 * j + 1) = x0) : W p l e room_1 s m #[Value.ref b] below meth c H locs (10 + j) (423 + 6 * j) Q (F0 m 460 ls []) := by
  obtain ⟨hx, hb, hml, hown, hts, hX, hbl, hK, hZ, htr, hL⟩ := X
  have hA : ∀ q : Nat, s.heap.size ≤ q → bb_A s q := fun _ h => h
  have hbA : ¬ bb_A s b := Nat.not_le.mpr hbl
  have hK1 := hK.sub [0] (tys' := [(cA, .int)]) rfl
  have hjb : j < 512 := by omega
  have hl : lv_has ls 7 [(0, .ref b), (1, .ref h0), (2, .ref g0), (3, .ref o0), (4, .int (nI (4 * j)))] := hl
  have hP : va_P (dC, dI) vwCl [(g0, .inr (1, [.ref b0, .ref b1, .ref b2, .int k, .int th])), (b0, .inl (cA, 10, .inl w)), (b1, .inl (cA, 10, .inl pr)), (b2, .inl (cA, 310, .inl vt)), (h0, .inr (0, [.ref a0, .ref a1, .ref a2, .ref a3, .int k])), (a0, .inl (cA, 10, .inl w)), (a1, .inl (cA, 10, .inl pr)), (a2, .inl (cA, 31, .inl vo)), (a3, .inl (cA, 31, .inl vf)), (o0, .inl (cL, 1, .inr (.inl fo)))] H := hP
  have hD : va_D (bb_A s) [(g0, .inr (1, [.ref b0, .ref b1, .ref b2, .int k, .int th])), (b0, .inl (cA, 10, .inl w)), (b1, .inl (cA, 10, .inl pr)), (b2, .inl (cA, 310, .inl vt)), (h0, .inr (0, [.ref a0, .ref a1, .ref a2, .ref a3, .int k])), (a0, .inl (cA, 10, .inl w)), (a1, .inl (cA, 10, .inl pr)), (a2, .inl (cA, 31, .inl vo)), (a3, .inl (cA, 31, .inl vf)), (o0, .inl (cL, 1, .inr (.inl fo)))] := hD
  refine lv_aload_n hx hb dL_law_460 rfl (lv_at hl 1 rfl) ?_
  refine lv_aload_n hx hb dL_law_461 rfl (lv_at hl 0 rfl) ?_
  refine lv_iload hx hb dL_law_462 (lv_at hl 4 rfl) ?_
  refine lv_iconst (v := 1) hx hb dL_law_464 (by decide) ?_
  refine lv_iadd hx hb dL_law_465 ?_
  refine bb_topi (y := nI (4 * j + 1)) (bb_add1 j) ?_
  refine bb_sld hx hb hX hbl hbA hS (4 * j + 1) (by omega) hL e1 dL_law_466 ?_
  refine lv_aload_n hx hb dL_law_467 rfl (lv_at hl 3 rfl) ?_
  refine bb_cWf (As := [.ref h0, .int x0, .ref o0]) (rest := []) (r := 1) (pre := [(g0, .inr (1, [.ref b0, .ref b1, .ref b2, .int k, .int th])), (b0, .inl (cA, 10, .inl w)), (b1, .inl (cA, 10, .inl pr)), (b2, .inl (cA, 310, .inl vt))]) (wc := [(h0, .inr (0, [.ref a0, .ref a1, .ref a2, .ref a3, .int k])), (a0, .inl (cA, 10, .inl w)), (a1, .inl (cA, 10, .inl pr)), (a2, .inl (cA, 31, .inl vo)), (a3, .inl (cA, 31, .inl vf)), (o0, .inl (cL, 1, .inr (.inl fo)))]) (wc' := [(h0, .inr (0, [.ref a0, .ref a1, .ref a2, .ref a3, .int k])), (a0, .inl (cA, 10, .inl w)), (a1, .inl (cA, 10, .inl pr)), (a2, .inl (cA, 31, .inl vo)), (a3, .inl (cA, 31, .inl vf)), (o0, .inl (cL, 1, .inr (.inl fo)))]) (post := []) (Px := fun U => bb_TS s.heap.size U) ⟨hx, hb, hml, hown, hts⟩ (w_chosen1 l htr s.heap.size dC dI cA cL h0 a0 a1 a2 a3 o0 w pr vo vf k fo H.size x0 hbad) (bb_cw 3 hts gL_law_L_chosen rfl rfl rfl gS_law_L_chosen gT_law_L_chosen gI_law_L_chosen (by decide +kernel) ⟨Nat.le_of_ble_eq_true rfl, Nat.le_of_ble_eq_true rfl⟩) (fun a9 U9 g9 m9 q9 => bb_TS.same (u := U9) (U := U9.calling g9 m9 a9) rfl rfl q9) (fun U9 hU9 hW9 => hZ.mv hW9 (fun x9 h9 => by rw [hU9]; exact hS.2.1 x9 h9 (Nat.not_le.mpr h9))) hP hK hD hS hA rfl rfl hl.1 rfl (Nat.le_of_ble_eq_true rfl) dL_law_468 (by show _ ≤ 1046; omega) (by show _ ≤ 8687; omega) (fun H locs hP hD hS => ?_)
  have hP : va_P (dC, dI) vwCl [(g0, .inr (1, [.ref b0, .ref b1, .ref b2, .int k, .int th])), (b0, .inl (cA, 10, .inl w)), (b1, .inl (cA, 10, .inl pr)), (b2, .inl (cA, 310, .inl vt)), (h0, .inr (0, [.ref a0, .ref a1, .ref a2, .ref a3, .int k])), (a0, .inl (cA, 10, .inl w)), (a1, .inl (cA, 10, .inl pr)), (a2, .inl (cA, 31, .inl vo)), (a3, .inl (cA, 31, .inl vf)), (o0, .inl (cL, 1, .inr (.inl fo)))] H := hP
  have hD : va_D (bb_A s) [(g0, .inr (1, [.ref b0, .ref b1, .ref b2, .int k, .int th])), (b0, .inl (cA, 10, .inl w)), (b1, .inl (cA, 10, .inl pr)), (b2, .inl (cA, 310, .inl vt)), (h0, .inr (0, [.ref a0, .ref a1, .ref a2, .ref a3, .int k])), (a0, .inl (cA, 10, .inl w)), (a1, .inl (cA, 10, .inl pr)), (a2, .inl (cA, 31, .inl vo)), (a3, .inl (cA, 31, .inl vf)), (o0, .inl (cL, 1, .inr (.inl fo)))] := hD
  refine lv_istore (lv' := [(5, .int 1), (0, .ref b), (1, .ref h0), (2, .ref g0), (3, .ref o0), (4, .int (nI (4 * j)))]) hx hb dL_law_471 hl (by decide) rfl (fun ls hl => ?_)
  refine lv_aload_n hx hb dL_law_473 rfl (lv_at hl 3 rfl) ?_
  refine lv_aload_n hx hb dL_law_474 rfl (lv_at hl 1 rfl) ?_
  refine lv_iload hx hb dL_law_475 (lv_at hl 5 rfl) ?_
  refine lv_iconst (v := 1) hx hb dL_law_477 (by decide) ?_
  refine lv_iadd hx hb dL_law_478 ?_
  refine bb_topi (y := nI (4 * j + 1)) (bb_add1 j) ?_
  refine bb_sld hx hb hX hbl hbA hS (4 * j + 1) (by omega) hL e1 dL_law_479 ?_
  refine bb_cVf (As := [.int x0]) (rest := []) (r := 0) (pre := []) (wc := [(g0, .inr (1, [.ref b0, .ref b1, .ref b2, .int k, .int th])), (b0, .inl (cA, 10, .inl w)), (b1, .inl (cA, 10, .inl pr)), (b2, .inl (cA, 310, .inl vt))]) (post := [(h0, .inr (0, [.ref a0, .ref a1, .ref a2, .ref a3, .int k])), (a0, .inl (cA, 10, .inl w)), (a1, .inl (cA, 10, .inl pr)), (a2, .inl (cA, 31, .inl vo)), (a3, .inl (cA, 31, .inl vf)), (o0, .inl (cL, 1, .inr (.inl fo)))]) (wc' := [(g0, .inr (1, [.ref b0, .ref b1, .ref b2, .int k, .int 1])), (b0, .inl (cA, 10, .inl w)), (b1, .inl (cA, 10, .inl pr)), (b2, .inl (cA, 310, .inl vt))]) 0 ⟨hx, hb, hml, hown, hts⟩ (r_chosen1 l dC dI cA g0 b0 b1 b2 w pr vt k th H.size x0 hbad) (cwV 1 hts gL_law_X1_chosen rfl rfl rfl (by decide +kernel) ⟨Nat.le_of_ble_eq_true rfl, Nat.le_of_ble_eq_true rfl⟩) hP hK1 hD hS hA rfl rfl rfl rfl hl.1 rfl (Nat.le_of_ble_eq_true rfl) dL_law_480 (by show _ ≤ 1046; omega) (by show _ ≤ 8687; omega) (fun H locs hP hD hS => ?_)
  have hP : va_P (dC, dI) vwCl [(g0, .inr (1, [.ref b0, .ref b1, .ref b2, .int k, .int 1])), (b0, .inl (cA, 10, .inl w)), (b1, .inl (cA, 10, .inl pr)), (b2, .inl (cA, 310, .inl vt)), (h0, .inr (0, [.ref a0, .ref a1, .ref a2, .ref a3, .int k])), (a0, .inl (cA, 10, .inl w)), (a1, .inl (cA, 10, .inl pr)), (a2, .inl (cA, 31, .inl vo)), (a3, .inl (cA, 31, .inl vf)), (o0, .inl (cL, 1, .inr (.inl fo)))] H := hP
  have hD : va_D (bb_A s) [(g0, .inr (1, [.ref b0, .ref b1, .ref b2, .int k, .int 1])), (b0, .inl (cA, 10, .inl w)), (b1, .inl (cA, 10, .inl pr)), (b2, .inl (cA, 310, .inl vt)), (h0, .inr (0, [.ref a0, .ref a1, .ref a2, .ref a3, .int k])), (a0, .inl (cA, 10, .inl w)), (a1, .inl (cA, 10, .inl pr)), (a2, .inl (cA, 31, .inl vo)), (a3, .inl (cA, 31, .inl vf)), (o0, .inl (cL, 1, .inr (.inl fo)))] := hD
  refine lv_istore (lv' := [(6, .int 0), (5, .int 1), (0, .ref b), (1, .ref h0), (2, .ref g0), (3, .ref o0), (4, .int (nI (4 * j)))]) hx hb dL_law_483 hl (by decide) rfl (fun ls hl => ?_)
  refine lv_aload_n hx hb dL_law_485 rfl (lv_at hl 4 rfl) ?_
  have hPm : va_P (dC, dI) vwCl [(g0, .inr (1, [.ref b0, .ref b1, .ref b2, .int k, .int 1])), (b0, .inl (cA, 10, .inl w)), (b1, .inl (cA, 10, .inl pr)), (b2, .inl (cA, 310, .inl vt))] H := bb_Pmid (pre := []) (wc := [(g0, .inr (1, [.ref b0, .ref b1, .ref b2, .int k, .int 1])), (b0, .inl (cA, 10, .inl w)), (b1, .inl (cA, 10, .inl pr)), (b2, .inl (cA, 310, .inl vt))]) (post := [(h0, .inr (0, [.ref a0, .ref a1, .ref a2, .ref a3, .int k])), (a0, .inl (cA, 10, .inl w)), (a1, .inl (cA, 10, .inl pr)), (a2, .inl (cA, 31, .inl vo)), (a3, .inl (cA, 31, .inl vf)), (o0, .inl (cL, 1, .inr (.inl fo)))]) hP
  refine bb_cV (As := []) (rest := []) (r := 1) 0 ⟨hx, hb, hml, hown, hts⟩ (m_thrown l dC dI cA g0 b0 b1 b2 w pr vt k 1) (cwV 0 hts gL_law_X1_thrown rfl rfl rfl (by decide +kernel) ⟨Nat.le_of_ble_eq_true rfl, Nat.le_of_ble_eq_true rfl⟩) hPm hK1 rfl rfl rfl hl.1 rfl (Nat.le_of_ble_eq_true rfl) dL_law_486 (by show _ ≤ 1046; omega) (by show _ ≤ 8687; omega) ?_
  refine lv_iload hx hb dL_law_489 (lv_at hl 1 rfl) ?_
  refine lv_icmp_eq (tgt := 496) hx hb dL_law_491 rfl (fun h491 => ?_) (fun h491 => absurd rfl h491)
  refine lv_iload hx hb dL_law_496 (lv_at hl 1 rfl) ?_
  refine lv_if_ne (tgt := 513) hx hb dL_law_498 rfl (fun h498 => ?_) (fun h498 => absurd h498 (by decide))
  refine lv_goto (tgt := 993) hx hb dL_law_513 rfl ?_
  refine W.widen (k := 11 + j) (n := 429 + 6 * j) (by omega) (by omega) ?_
  exact K _ _ _ _ _ _ _ _ _ _ _ (hok) hP hD hS (lv_sub hl [2, 3, 4, 5, 6] rfl)

set_option maxHeartbeats 4000000 in
set_option maxRecDepth 100000 in
theorem L_can {p : Program} {l : Launch} {e : Env} {s : State} {m : MethodId} {below : List Frame} {meth : Method} {c : Code} {Q : State → Prop} {b L : Nat} {xs : Nat → Int32} {dC : Nat → ClassId} {dI : Nat → Nat → Nat} {cA cL : ClassId} (X : bb_Cx p l s m c b L xs dC dI cA cL) {g0 b0 b1 b2 h0 a0 a1 a2 a3 o0 : Nat} {w pr vo vf vt : Nat → Int32} {k th : Int32} {fo : Nat → Int64} {H : Heap} {locs : List Loc} {ls : Array Slot} {j : Nat} (hj : 4 * j + 3 < L) (hok : bb_ok w k pr vo vf vt)
    (hP : va_P (dC, dI) vwCl (bb_F g0 b0 b1 b2 h0 a0 a1 a2 a3 o0 cA cL w pr vo vf vt k th fo) H) (hD : va_D (bb_A s) (bb_F g0 b0 b1 b2 h0 a0 a1 a2 a3 o0 cA cL w pr vo vf vt k th fo)) (hS : va_S (bb_A s) s.heap H locs) (hl : lv_has ls 7 (bb_ll b h0 g0 o0 j)) (K : bb_K p l e s m below meth c b dC dI cA cL g0 b0 b1 b2 h0 a0 a1 a2 a3 o0 j Q) (b9 : Nat) (hb0 : b9 < 31) (v : Nat) (hv0 : v < 10) (e1 : xs (4 * j + 1) = nI b9) (e2 : xs (4 * j + 2) = nI v) : W p l e room_1 s m #[Value.ref b] below meth c H locs (10 + j) (423 + 6 * j) Q (F0 m 516 ls []) := by
  obtain ⟨hx, hb, hml, hown, hts, hX, hbl, hK, hZ, htr, hL⟩ := X
  have hA : ∀ q : Nat, s.heap.size ≤ q → bb_A s q := fun _ h => h
  have hbA : ¬ bb_A s b := Nat.not_le.mpr hbl
  have hK1 := hK.sub [0] (tys' := [(cA, .int)]) rfl
  have hjb : j < 512 := by omega
  have hl : lv_has ls 7 [(0, .ref b), (1, .ref h0), (2, .ref g0), (3, .ref o0), (4, .int (nI (4 * j)))] := hl
  have hP : va_P (dC, dI) vwCl [(g0, .inr (1, [.ref b0, .ref b1, .ref b2, .int k, .int th])), (b0, .inl (cA, 10, .inl w)), (b1, .inl (cA, 10, .inl pr)), (b2, .inl (cA, 310, .inl vt)), (h0, .inr (0, [.ref a0, .ref a1, .ref a2, .ref a3, .int k])), (a0, .inl (cA, 10, .inl w)), (a1, .inl (cA, 10, .inl pr)), (a2, .inl (cA, 31, .inl vo)), (a3, .inl (cA, 31, .inl vf)), (o0, .inl (cL, 1, .inr (.inl fo)))] H := hP
  have hD : va_D (bb_A s) [(g0, .inr (1, [.ref b0, .ref b1, .ref b2, .int k, .int th])), (b0, .inl (cA, 10, .inl w)), (b1, .inl (cA, 10, .inl pr)), (b2, .inl (cA, 310, .inl vt)), (h0, .inr (0, [.ref a0, .ref a1, .ref a2, .ref a3, .int k])), (a0, .inl (cA, 10, .inl w)), (a1, .inl (cA, 10, .inl pr)), (a2, .inl (cA, 31, .inl vo)), (a3, .inl (cA, 31, .inl vf)), (o0, .inl (cL, 1, .inr (.inl fo)))] := hD
  refine lv_aload_n hx hb dL_law_516 rfl (lv_at hl 1 rfl) ?_
  refine lv_aload_n hx hb dL_law_517 rfl (lv_at hl 0 rfl) ?_
  refine lv_iload hx hb dL_law_518 (lv_at hl 4 rfl) ?_
  refine lv_iconst (v := 1) hx hb dL_law_520 (by decide) ?_
  refine lv_iadd hx hb dL_law_521 ?_
  refine bb_topi (y := nI (4 * j + 1)) (bb_add1 j) ?_
  refine bb_sld hx hb hX hbl hbA hS (4 * j + 1) (by omega) hL e1 dL_law_522 ?_
  refine lv_aload_n hx hb dL_law_523 rfl (lv_at hl 0 rfl) ?_
  refine lv_iload hx hb dL_law_524 (lv_at hl 4 rfl) ?_
  refine lv_iconst (v := 2) hx hb dL_law_526 (by decide) ?_
  refine lv_iadd hx hb dL_law_527 ?_
  refine bb_topi (y := nI (4 * j + 2)) (bb_add2 j) ?_
  refine bb_sld hx hb hX hbl hbA hS (4 * j + 2) (by omega) hL e2 dL_law_528 ?_
  refine lv_aload_n hx hb dL_law_529 rfl (lv_at hl 3 rfl) ?_
  refine bb_cWf (As := [.ref h0, .int (nI b9), .int (nI v), .ref o0]) (rest := []) (r := 0) (pre := [(g0, .inr (1, [.ref b0, .ref b1, .ref b2, .int k, .int th])), (b0, .inl (cA, 10, .inl w)), (b1, .inl (cA, 10, .inl pr)), (b2, .inl (cA, 310, .inl vt))]) (wc := [(h0, .inr (0, [.ref a0, .ref a1, .ref a2, .ref a3, .int k])), (a0, .inl (cA, 10, .inl w)), (a1, .inl (cA, 10, .inl pr)), (a2, .inl (cA, 31, .inl vo)), (a3, .inl (cA, 31, .inl vf)), (o0, .inl (cL, 1, .inr (.inl fo)))]) (wc' := [(h0, .inr (0, [.ref a0, .ref a1, .ref a2, .ref a3, .int k])), (a0, .inl (cA, 10, .inl w)), (a1, .inl (cA, 10, .inl pr)), (a2, .inl (cA, 31, .inl vo)), (a3, .inl (cA, 31, .inl vf)), (o0, .inl (cL, 1, .inr (.inl (fun _ => bb_L (bb_only vf b9 (nI v) && bb_way w k pr vo b9)))))]) (post := []) (Px := fun _ => True) ⟨hx, hb, hml, hown, hts⟩ (w_can l dC dI cA cL h0 a0 a1 a2 a3 o0 w pr vo vf k fo H.size b9 hb0 v hv0) (bb_cw 4 hts gL_law_L_can rfl rfl rfl gS_law_L_can gT_law_L_can gI_law_L_can (by decide +kernel) ⟨Nat.le_of_ble_eq_true rfl, Nat.le_of_ble_eq_true rfl⟩) (fun _ _ _ _ _ => trivial) (fun _ _ _ => trivial) hP hK hD hS hA rfl rfl hl.1 rfl (Nat.le_of_ble_eq_true rfl) dL_law_530 (by show _ ≤ 1046; omega) (by show _ ≤ 8687; omega) (fun H locs hP hD hS => ?_)
  have hP : va_P (dC, dI) vwCl [(g0, .inr (1, [.ref b0, .ref b1, .ref b2, .int k, .int th])), (b0, .inl (cA, 10, .inl w)), (b1, .inl (cA, 10, .inl pr)), (b2, .inl (cA, 310, .inl vt)), (h0, .inr (0, [.ref a0, .ref a1, .ref a2, .ref a3, .int k])), (a0, .inl (cA, 10, .inl w)), (a1, .inl (cA, 10, .inl pr)), (a2, .inl (cA, 31, .inl vo)), (a3, .inl (cA, 31, .inl vf)), (o0, .inl (cL, 1, .inr (.inl (fun _ => bb_L (bb_only vf b9 (nI v) && bb_way w k pr vo b9)))))] H := hP
  have hD : va_D (bb_A s) [(g0, .inr (1, [.ref b0, .ref b1, .ref b2, .int k, .int th])), (b0, .inl (cA, 10, .inl w)), (b1, .inl (cA, 10, .inl pr)), (b2, .inl (cA, 310, .inl vt)), (h0, .inr (0, [.ref a0, .ref a1, .ref a2, .ref a3, .int k])), (a0, .inl (cA, 10, .inl w)), (a1, .inl (cA, 10, .inl pr)), (a2, .inl (cA, 31, .inl vo)), (a3, .inl (cA, 31, .inl vf)), (o0, .inl (cL, 1, .inr (.inl (fun _ => bb_L (bb_only vf b9 (nI v) && bb_way w k pr vo b9)))))] := hD
  refine lv_istore (lv' := [(5, .int 0), (0, .ref b), (1, .ref h0), (2, .ref g0), (3, .ref o0), (4, .int (nI (4 * j)))]) hx hb dL_law_533 hl (by decide) rfl (fun ls hl => ?_)
  refine lv_aload_n hx hb dL_law_535 rfl (lv_at hl 3 rfl) ?_
  refine lv_aload_n hx hb dL_law_536 rfl (lv_at hl 1 rfl) ?_
  refine lv_iload hx hb dL_law_537 (lv_at hl 5 rfl) ?_
  refine lv_iconst (v := 1) hx hb dL_law_539 (by decide) ?_
  refine lv_iadd hx hb dL_law_540 ?_
  refine bb_topi (y := nI (4 * j + 1)) (bb_add1 j) ?_
  refine bb_sld hx hb hX hbl hbA hS (4 * j + 1) (by omega) hL e1 dL_law_541 ?_
  refine lv_aload_n hx hb dL_law_542 rfl (lv_at hl 1 rfl) ?_
  refine lv_iload hx hb dL_law_543 (lv_at hl 5 rfl) ?_
  refine lv_iconst (v := 2) hx hb dL_law_545 (by decide) ?_
  refine lv_iadd hx hb dL_law_546 ?_
  refine bb_topi (y := nI (4 * j + 2)) (bb_add2 j) ?_
  refine bb_sld hx hb hX hbl hbA hS (4 * j + 2) (by omega) hL e2 dL_law_547 ?_
  refine bb_cVf (As := [.int (nI b9), .int (nI v)]) (rest := []) (r := bb_I (bb_rcan w k pr vt b9 (nI v))) (pre := []) (wc := [(g0, .inr (1, [.ref b0, .ref b1, .ref b2, .int k, .int th])), (b0, .inl (cA, 10, .inl w)), (b1, .inl (cA, 10, .inl pr)), (b2, .inl (cA, 310, .inl vt))]) (post := [(h0, .inr (0, [.ref a0, .ref a1, .ref a2, .ref a3, .int k])), (a0, .inl (cA, 10, .inl w)), (a1, .inl (cA, 10, .inl pr)), (a2, .inl (cA, 31, .inl vo)), (a3, .inl (cA, 31, .inl vf)), (o0, .inl (cL, 1, .inr (.inl (fun _ => bb_L (bb_only vf b9 (nI v) && bb_way w k pr vo b9)))))]) (wc' := [(g0, .inr (1, [.ref b0, .ref b1, .ref b2, .int k, .int 0])), (b0, .inl (cA, 10, .inl w)), (b1, .inl (cA, 10, .inl pr)), (b2, .inl (cA, 310, .inl vt))]) 0 ⟨hx, hb, hml, hown, hts⟩ (r_can l dC dI cA g0 b0 b1 b2 w pr vt k th H.size b9 hb0 v hv0) (cwV 2 hts gL_law_X1_can rfl rfl rfl (by decide +kernel) ⟨Nat.le_of_ble_eq_true rfl, Nat.le_of_ble_eq_true rfl⟩) hP hK1 hD hS hA rfl rfl rfl rfl hl.1 rfl (Nat.le_of_ble_eq_true rfl) dL_law_548 (by show _ ≤ 1046; omega) (by show _ ≤ 8687; omega) (fun H locs hP hD hS => ?_)
  have hP : va_P (dC, dI) vwCl [(g0, .inr (1, [.ref b0, .ref b1, .ref b2, .int k, .int 0])), (b0, .inl (cA, 10, .inl w)), (b1, .inl (cA, 10, .inl pr)), (b2, .inl (cA, 310, .inl vt)), (h0, .inr (0, [.ref a0, .ref a1, .ref a2, .ref a3, .int k])), (a0, .inl (cA, 10, .inl w)), (a1, .inl (cA, 10, .inl pr)), (a2, .inl (cA, 31, .inl vo)), (a3, .inl (cA, 31, .inl vf)), (o0, .inl (cL, 1, .inr (.inl (fun _ => bb_L (bb_only vf b9 (nI v) && bb_way w k pr vo b9)))))] H := hP
  have hD : va_D (bb_A s) [(g0, .inr (1, [.ref b0, .ref b1, .ref b2, .int k, .int 0])), (b0, .inl (cA, 10, .inl w)), (b1, .inl (cA, 10, .inl pr)), (b2, .inl (cA, 310, .inl vt)), (h0, .inr (0, [.ref a0, .ref a1, .ref a2, .ref a3, .int k])), (a0, .inl (cA, 10, .inl w)), (a1, .inl (cA, 10, .inl pr)), (a2, .inl (cA, 31, .inl vo)), (a3, .inl (cA, 31, .inl vf)), (o0, .inl (cL, 1, .inr (.inl (fun _ => bb_L (bb_only vf b9 (nI v) && bb_way w k pr vo b9)))))] := hD
  refine bb_topi (y := bb_I (bb_only vf b9 (nI v) && bb_way w k pr vo b9)) (congrArg bb_I (bb_e_can hok hb0 hv0)) ?_
  refine lv_istore (lv' := [(6, .int (bb_I (bb_only vf b9 (nI v) && bb_way w k pr vo b9))), (5, .int 0), (0, .ref b), (1, .ref h0), (2, .ref g0), (3, .ref o0), (4, .int (nI (4 * j)))]) hx hb dL_law_551 hl (by decide) rfl (fun ls hl => ?_)
  refine lv_aload_n hx hb dL_law_553 rfl (lv_at hl 4 rfl) ?_
  have hPm : va_P (dC, dI) vwCl [(g0, .inr (1, [.ref b0, .ref b1, .ref b2, .int k, .int 0])), (b0, .inl (cA, 10, .inl w)), (b1, .inl (cA, 10, .inl pr)), (b2, .inl (cA, 310, .inl vt))] H := bb_Pmid (pre := []) (wc := [(g0, .inr (1, [.ref b0, .ref b1, .ref b2, .int k, .int 0])), (b0, .inl (cA, 10, .inl w)), (b1, .inl (cA, 10, .inl pr)), (b2, .inl (cA, 310, .inl vt))]) (post := [(h0, .inr (0, [.ref a0, .ref a1, .ref a2, .ref a3, .int k])), (a0, .inl (cA, 10, .inl w)), (a1, .inl (cA, 10, .inl pr)), (a2, .inl (cA, 31, .inl vo)), (a3, .inl (cA, 31, .inl vf)), (o0, .inl (cL, 1, .inr (.inl (fun _ => bb_L (bb_only vf b9 (nI v) && bb_way w k pr vo b9)))))]) hP
  refine bb_cV (As := []) (rest := []) (r := 0) 0 ⟨hx, hb, hml, hown, hts⟩ (m_thrown l dC dI cA g0 b0 b1 b2 w pr vt k 0) (cwV 0 hts gL_law_X1_thrown rfl rfl rfl (by decide +kernel) ⟨Nat.le_of_ble_eq_true rfl, Nat.le_of_ble_eq_true rfl⟩) hPm hK1 rfl rfl rfl hl.1 rfl (Nat.le_of_ble_eq_true rfl) dL_law_554 (by show _ ≤ 1046; omega) (by show _ ≤ 8687; omega) ?_
  refine lv_iload hx hb dL_law_557 (lv_at hl 1 rfl) ?_
  refine lv_icmp_eq (tgt := 564) hx hb dL_law_559 rfl (fun h559 => ?_) (fun h559 => absurd rfl h559)
  refine lv_iload hx hb dL_law_564 (lv_at hl 1 rfl) ?_
  refine lv_if_ne (tgt := 588) hx hb dL_law_566 rfl (fun h566 => absurd rfl h566) (fun h566 => ?_)
  refine lv_aload_n hx hb dL_law_569 rfl (lv_at hl 5 rfl) ?_
  refine lv_iconst (v := nI 0) hx hb dL_law_570 (by decide) ?_
  refine bb_lal hx hb hK hP 9 1 rfl rfl dL_law_571 ?_
  refine lv_iload hx hb dL_law_572 (lv_at hl 0 rfl) ?_
  refine lv_if_eq (tgt := 581) hx hb dL_law_574 rfl (fun h574 => ?_) (fun h574 => ?_)
  · skip
    have q574 := bb_I_0.mp h574
    refine lv_lconst (v := 0) hx hb dL_law_581 (by decide) ?_
    refine W.lcmp hx hb dL_law_582 ?_
    refine bb_topi (y := 0) (bb_cmp2 q574) ?_
    refine lv_if_eq (tgt := 588) hx hb dL_law_583 rfl (fun h583 => ?_) (fun h583 => absurd rfl h583)
    refine lv_goto (tgt := 993) hx hb dL_law_588 rfl ?_
    refine W.widen (k := 11 + j) (n := 429 + 6 * j) (by omega) (by omega) ?_
    exact K _ _ _ _ _ _ _ _ _ _ _ (hok) hP hD hS (lv_sub hl [2, 3, 4, 5, 6] rfl)
  · skip
    have q574 := bb_nz h574
    refine lv_lconst (v := 1) hx hb dL_law_577 (by decide) ?_
    refine lv_goto (tgt := 582) hx hb dL_law_578 rfl ?_
    refine W.lcmp hx hb dL_law_582 ?_
    refine bb_topi (y := 0) (bb_cmp1 q574) ?_
    refine lv_if_eq (tgt := 588) hx hb dL_law_583 rfl (fun h583 => ?_) (fun h583 => absurd rfl h583)
    refine lv_goto (tgt := 993) hx hb dL_law_588 rfl ?_
    refine W.widen (k := 11 + j) (n := 429 + 6 * j) (by omega) (by omega) ?_
    exact K _ _ _ _ _ _ _ _ _ _ _ (hok) hP hD hS (lv_sub hl [2, 3, 4, 5, 6] rfl)

set_option maxHeartbeats 4000000 in
set_option maxRecDepth 100000 in
theorem L_can1 {p : Program} {l : Launch} {e : Env} {s : State} {m : MethodId} {below : List Frame} {meth : Method} {c : Code} {Q : State → Prop} {b L : Nat} {xs : Nat → Int32} {dC : Nat → ClassId} {dI : Nat → Nat → Nat} {cA cL : ClassId} (X : bb_Cx p l s m c b L xs dC dI cA cL) {g0 b0 b1 b2 h0 a0 a1 a2 a3 o0 : Nat} {w pr vo vf vt : Nat → Int32} {k th : Int32} {fo : Nat → Int64} {H : Heap} {locs : List Loc} {ls : Array Slot} {j : Nat} (hj : 4 * j + 3 < L) (hok : bb_ok w k pr vo vf vt)
    (hP : va_P (dC, dI) vwCl (bb_F g0 b0 b1 b2 h0 a0 a1 a2 a3 o0 cA cL w pr vo vf vt k th fo) H) (hD : va_D (bb_A s) (bb_F g0 b0 b1 b2 h0 a0 a1 a2 a3 o0 cA cL w pr vo vf vt k th fo)) (hS : va_S (bb_A s) s.heap H locs) (hl : lv_has ls 7 (bb_ll b h0 g0 o0 j)) (K : bb_K p l e s m below meth c b dC dI cA cL g0 b0 b1 b2 h0 a0 a1 a2 a3 o0 j Q) (x0 x1 : Int32) (hbad : (bb_out x0 (nI 31) || bb_out x1 (nI 10)) = true) (e1 : xs (4 * j + 1) = x0) (e2 : xs (4 * j + 2) = x1) : W p l e room_1 s m #[Value.ref b] below meth c H locs (10 + j) (423 + 6 * j) Q (F0 m 516 ls []) := by
  obtain ⟨hx, hb, hml, hown, hts, hX, hbl, hK, hZ, htr, hL⟩ := X
  have hA : ∀ q : Nat, s.heap.size ≤ q → bb_A s q := fun _ h => h
  have hbA : ¬ bb_A s b := Nat.not_le.mpr hbl
  have hK1 := hK.sub [0] (tys' := [(cA, .int)]) rfl
  have hjb : j < 512 := by omega
  have hl : lv_has ls 7 [(0, .ref b), (1, .ref h0), (2, .ref g0), (3, .ref o0), (4, .int (nI (4 * j)))] := hl
  have hP : va_P (dC, dI) vwCl [(g0, .inr (1, [.ref b0, .ref b1, .ref b2, .int k, .int th])), (b0, .inl (cA, 10, .inl w)), (b1, .inl (cA, 10, .inl pr)), (b2, .inl (cA, 310, .inl vt)), (h0, .inr (0, [.ref a0, .ref a1, .ref a2, .ref a3, .int k])), (a0, .inl (cA, 10, .inl w)), (a1, .inl (cA, 10, .inl pr)), (a2, .inl (cA, 31, .inl vo)), (a3, .inl (cA, 31, .inl vf)), (o0, .inl (cL, 1, .inr (.inl fo)))] H := hP
  have hD : va_D (bb_A s) [(g0, .inr (1, [.ref b0, .ref b1, .ref b2, .int k, .int th])), (b0, .inl (cA, 10, .inl w)), (b1, .inl (cA, 10, .inl pr)), (b2, .inl (cA, 310, .inl vt)), (h0, .inr (0, [.ref a0, .ref a1, .ref a2, .ref a3, .int k])), (a0, .inl (cA, 10, .inl w)), (a1, .inl (cA, 10, .inl pr)), (a2, .inl (cA, 31, .inl vo)), (a3, .inl (cA, 31, .inl vf)), (o0, .inl (cL, 1, .inr (.inl fo)))] := hD
  refine lv_aload_n hx hb dL_law_516 rfl (lv_at hl 1 rfl) ?_
  refine lv_aload_n hx hb dL_law_517 rfl (lv_at hl 0 rfl) ?_
  refine lv_iload hx hb dL_law_518 (lv_at hl 4 rfl) ?_
  refine lv_iconst (v := 1) hx hb dL_law_520 (by decide) ?_
  refine lv_iadd hx hb dL_law_521 ?_
  refine bb_topi (y := nI (4 * j + 1)) (bb_add1 j) ?_
  refine bb_sld hx hb hX hbl hbA hS (4 * j + 1) (by omega) hL e1 dL_law_522 ?_
  refine lv_aload_n hx hb dL_law_523 rfl (lv_at hl 0 rfl) ?_
  refine lv_iload hx hb dL_law_524 (lv_at hl 4 rfl) ?_
  refine lv_iconst (v := 2) hx hb dL_law_526 (by decide) ?_
  refine lv_iadd hx hb dL_law_527 ?_
  refine bb_topi (y := nI (4 * j + 2)) (bb_add2 j) ?_
  refine bb_sld hx hb hX hbl hbA hS (4 * j + 2) (by omega) hL e2 dL_law_528 ?_
  refine lv_aload_n hx hb dL_law_529 rfl (lv_at hl 3 rfl) ?_
  refine bb_cWf (As := [.ref h0, .int x0, .int x1, .ref o0]) (rest := []) (r := 1) (pre := [(g0, .inr (1, [.ref b0, .ref b1, .ref b2, .int k, .int th])), (b0, .inl (cA, 10, .inl w)), (b1, .inl (cA, 10, .inl pr)), (b2, .inl (cA, 310, .inl vt))]) (wc := [(h0, .inr (0, [.ref a0, .ref a1, .ref a2, .ref a3, .int k])), (a0, .inl (cA, 10, .inl w)), (a1, .inl (cA, 10, .inl pr)), (a2, .inl (cA, 31, .inl vo)), (a3, .inl (cA, 31, .inl vf)), (o0, .inl (cL, 1, .inr (.inl fo)))]) (wc' := [(h0, .inr (0, [.ref a0, .ref a1, .ref a2, .ref a3, .int k])), (a0, .inl (cA, 10, .inl w)), (a1, .inl (cA, 10, .inl pr)), (a2, .inl (cA, 31, .inl vo)), (a3, .inl (cA, 31, .inl vf)), (o0, .inl (cL, 1, .inr (.inl fo)))]) (post := []) (Px := fun U => bb_TS s.heap.size U) ⟨hx, hb, hml, hown, hts⟩ (w_can1 l htr s.heap.size dC dI cA cL h0 a0 a1 a2 a3 o0 w pr vo vf k fo H.size x0 x1 hbad) (bb_cw 4 hts gL_law_L_can rfl rfl rfl gS_law_L_can gT_law_L_can gI_law_L_can (by decide +kernel) ⟨Nat.le_of_ble_eq_true rfl, Nat.le_of_ble_eq_true rfl⟩) (fun a9 U9 g9 m9 q9 => bb_TS.same (u := U9) (U := U9.calling g9 m9 a9) rfl rfl q9) (fun U9 hU9 hW9 => hZ.mv hW9 (fun x9 h9 => by rw [hU9]; exact hS.2.1 x9 h9 (Nat.not_le.mpr h9))) hP hK hD hS hA rfl rfl hl.1 rfl (Nat.le_of_ble_eq_true rfl) dL_law_530 (by show _ ≤ 1046; omega) (by show _ ≤ 8687; omega) (fun H locs hP hD hS => ?_)
  have hP : va_P (dC, dI) vwCl [(g0, .inr (1, [.ref b0, .ref b1, .ref b2, .int k, .int th])), (b0, .inl (cA, 10, .inl w)), (b1, .inl (cA, 10, .inl pr)), (b2, .inl (cA, 310, .inl vt)), (h0, .inr (0, [.ref a0, .ref a1, .ref a2, .ref a3, .int k])), (a0, .inl (cA, 10, .inl w)), (a1, .inl (cA, 10, .inl pr)), (a2, .inl (cA, 31, .inl vo)), (a3, .inl (cA, 31, .inl vf)), (o0, .inl (cL, 1, .inr (.inl fo)))] H := hP
  have hD : va_D (bb_A s) [(g0, .inr (1, [.ref b0, .ref b1, .ref b2, .int k, .int th])), (b0, .inl (cA, 10, .inl w)), (b1, .inl (cA, 10, .inl pr)), (b2, .inl (cA, 310, .inl vt)), (h0, .inr (0, [.ref a0, .ref a1, .ref a2, .ref a3, .int k])), (a0, .inl (cA, 10, .inl w)), (a1, .inl (cA, 10, .inl pr)), (a2, .inl (cA, 31, .inl vo)), (a3, .inl (cA, 31, .inl vf)), (o0, .inl (cL, 1, .inr (.inl fo)))] := hD
  refine lv_istore (lv' := [(5, .int 1), (0, .ref b), (1, .ref h0), (2, .ref g0), (3, .ref o0), (4, .int (nI (4 * j)))]) hx hb dL_law_533 hl (by decide) rfl (fun ls hl => ?_)
  refine lv_aload_n hx hb dL_law_535 rfl (lv_at hl 3 rfl) ?_
  refine lv_aload_n hx hb dL_law_536 rfl (lv_at hl 1 rfl) ?_
  refine lv_iload hx hb dL_law_537 (lv_at hl 5 rfl) ?_
  refine lv_iconst (v := 1) hx hb dL_law_539 (by decide) ?_
  refine lv_iadd hx hb dL_law_540 ?_
  refine bb_topi (y := nI (4 * j + 1)) (bb_add1 j) ?_
  refine bb_sld hx hb hX hbl hbA hS (4 * j + 1) (by omega) hL e1 dL_law_541 ?_
  refine lv_aload_n hx hb dL_law_542 rfl (lv_at hl 1 rfl) ?_
  refine lv_iload hx hb dL_law_543 (lv_at hl 5 rfl) ?_
  refine lv_iconst (v := 2) hx hb dL_law_545 (by decide) ?_
  refine lv_iadd hx hb dL_law_546 ?_
  refine bb_topi (y := nI (4 * j + 2)) (bb_add2 j) ?_
  refine bb_sld hx hb hX hbl hbA hS (4 * j + 2) (by omega) hL e2 dL_law_547 ?_
  refine bb_cVf (As := [.int x0, .int x1]) (rest := []) (r := 0) (pre := []) (wc := [(g0, .inr (1, [.ref b0, .ref b1, .ref b2, .int k, .int th])), (b0, .inl (cA, 10, .inl w)), (b1, .inl (cA, 10, .inl pr)), (b2, .inl (cA, 310, .inl vt))]) (post := [(h0, .inr (0, [.ref a0, .ref a1, .ref a2, .ref a3, .int k])), (a0, .inl (cA, 10, .inl w)), (a1, .inl (cA, 10, .inl pr)), (a2, .inl (cA, 31, .inl vo)), (a3, .inl (cA, 31, .inl vf)), (o0, .inl (cL, 1, .inr (.inl fo)))]) (wc' := [(g0, .inr (1, [.ref b0, .ref b1, .ref b2, .int k, .int 1])), (b0, .inl (cA, 10, .inl w)), (b1, .inl (cA, 10, .inl pr)), (b2, .inl (cA, 310, .inl vt))]) 0 ⟨hx, hb, hml, hown, hts⟩ (r_can1 l dC dI cA g0 b0 b1 b2 w pr vt k th H.size x0 x1 hbad) (cwV 2 hts gL_law_X1_can rfl rfl rfl (by decide +kernel) ⟨Nat.le_of_ble_eq_true rfl, Nat.le_of_ble_eq_true rfl⟩) hP hK1 hD hS hA rfl rfl rfl rfl hl.1 rfl (Nat.le_of_ble_eq_true rfl) dL_law_548 (by show _ ≤ 1046; omega) (by show _ ≤ 8687; omega) (fun H locs hP hD hS => ?_)
  have hP : va_P (dC, dI) vwCl [(g0, .inr (1, [.ref b0, .ref b1, .ref b2, .int k, .int 1])), (b0, .inl (cA, 10, .inl w)), (b1, .inl (cA, 10, .inl pr)), (b2, .inl (cA, 310, .inl vt)), (h0, .inr (0, [.ref a0, .ref a1, .ref a2, .ref a3, .int k])), (a0, .inl (cA, 10, .inl w)), (a1, .inl (cA, 10, .inl pr)), (a2, .inl (cA, 31, .inl vo)), (a3, .inl (cA, 31, .inl vf)), (o0, .inl (cL, 1, .inr (.inl fo)))] H := hP
  have hD : va_D (bb_A s) [(g0, .inr (1, [.ref b0, .ref b1, .ref b2, .int k, .int 1])), (b0, .inl (cA, 10, .inl w)), (b1, .inl (cA, 10, .inl pr)), (b2, .inl (cA, 310, .inl vt)), (h0, .inr (0, [.ref a0, .ref a1, .ref a2, .ref a3, .int k])), (a0, .inl (cA, 10, .inl w)), (a1, .inl (cA, 10, .inl pr)), (a2, .inl (cA, 31, .inl vo)), (a3, .inl (cA, 31, .inl vf)), (o0, .inl (cL, 1, .inr (.inl fo)))] := hD
  refine lv_istore (lv' := [(6, .int 0), (5, .int 1), (0, .ref b), (1, .ref h0), (2, .ref g0), (3, .ref o0), (4, .int (nI (4 * j)))]) hx hb dL_law_551 hl (by decide) rfl (fun ls hl => ?_)
  refine lv_aload_n hx hb dL_law_553 rfl (lv_at hl 4 rfl) ?_
  have hPm : va_P (dC, dI) vwCl [(g0, .inr (1, [.ref b0, .ref b1, .ref b2, .int k, .int 1])), (b0, .inl (cA, 10, .inl w)), (b1, .inl (cA, 10, .inl pr)), (b2, .inl (cA, 310, .inl vt))] H := bb_Pmid (pre := []) (wc := [(g0, .inr (1, [.ref b0, .ref b1, .ref b2, .int k, .int 1])), (b0, .inl (cA, 10, .inl w)), (b1, .inl (cA, 10, .inl pr)), (b2, .inl (cA, 310, .inl vt))]) (post := [(h0, .inr (0, [.ref a0, .ref a1, .ref a2, .ref a3, .int k])), (a0, .inl (cA, 10, .inl w)), (a1, .inl (cA, 10, .inl pr)), (a2, .inl (cA, 31, .inl vo)), (a3, .inl (cA, 31, .inl vf)), (o0, .inl (cL, 1, .inr (.inl fo)))]) hP
  refine bb_cV (As := []) (rest := []) (r := 1) 0 ⟨hx, hb, hml, hown, hts⟩ (m_thrown l dC dI cA g0 b0 b1 b2 w pr vt k 1) (cwV 0 hts gL_law_X1_thrown rfl rfl rfl (by decide +kernel) ⟨Nat.le_of_ble_eq_true rfl, Nat.le_of_ble_eq_true rfl⟩) hPm hK1 rfl rfl rfl hl.1 rfl (Nat.le_of_ble_eq_true rfl) dL_law_554 (by show _ ≤ 1046; omega) (by show _ ≤ 8687; omega) ?_
  refine lv_iload hx hb dL_law_557 (lv_at hl 1 rfl) ?_
  refine lv_icmp_eq (tgt := 564) hx hb dL_law_559 rfl (fun h559 => ?_) (fun h559 => absurd rfl h559)
  refine lv_iload hx hb dL_law_564 (lv_at hl 1 rfl) ?_
  refine lv_if_ne (tgt := 588) hx hb dL_law_566 rfl (fun h566 => ?_) (fun h566 => absurd h566 (by decide))
  refine lv_goto (tgt := 993) hx hb dL_law_588 rfl ?_
  refine W.widen (k := 11 + j) (n := 429 + 6 * j) (by omega) (by omega) ?_
  exact K _ _ _ _ _ _ _ _ _ _ _ (hok) hP hD hS (lv_sub hl [2, 3, 4, 5, 6] rfl)

set_option maxHeartbeats 4000000 in
set_option maxRecDepth 100000 in
theorem L_safe {p : Program} {l : Launch} {e : Env} {s : State} {m : MethodId} {below : List Frame} {meth : Method} {c : Code} {Q : State → Prop} {b L : Nat} {xs : Nat → Int32} {dC : Nat → ClassId} {dI : Nat → Nat → Nat} {cA cL : ClassId} (X : bb_Cx p l s m c b L xs dC dI cA cL) {g0 b0 b1 b2 h0 a0 a1 a2 a3 o0 : Nat} {w pr vo vf vt : Nat → Int32} {k th : Int32} {fo : Nat → Int64} {H : Heap} {locs : List Loc} {ls : Array Slot} {j : Nat} (hj : 4 * j + 3 < L) (hok : bb_ok w k pr vo vf vt)
    (hP : va_P (dC, dI) vwCl (bb_F g0 b0 b1 b2 h0 a0 a1 a2 a3 o0 cA cL w pr vo vf vt k th fo) H) (hD : va_D (bb_A s) (bb_F g0 b0 b1 b2 h0 a0 a1 a2 a3 o0 cA cL w pr vo vf vt k th fo)) (hS : va_S (bb_A s) s.heap H locs) (hl : lv_has ls 7 (bb_ll b h0 g0 o0 j)) (K : bb_K p l e s m below meth c b dC dI cA cL g0 b0 b1 b2 h0 a0 a1 a2 a3 o0 j Q) (b9 : Nat) (hb0 : b9 < 31) (v : Nat) (hv0 : v < 10) (e1 : xs (4 * j + 1) = nI b9) (e2 : xs (4 * j + 2) = nI v) : W p l e room_1 s m #[Value.ref b] below meth c H locs (10 + j) (423 + 6 * j) Q (F0 m 591 ls []) := by
  obtain ⟨hx, hb, hml, hown, hts, hX, hbl, hK, hZ, htr, hL⟩ := X
  have hA : ∀ q : Nat, s.heap.size ≤ q → bb_A s q := fun _ h => h
  have hbA : ¬ bb_A s b := Nat.not_le.mpr hbl
  have hK1 := hK.sub [0] (tys' := [(cA, .int)]) rfl
  have hjb : j < 512 := by omega
  have hl : lv_has ls 7 [(0, .ref b), (1, .ref h0), (2, .ref g0), (3, .ref o0), (4, .int (nI (4 * j)))] := hl
  have hP : va_P (dC, dI) vwCl [(g0, .inr (1, [.ref b0, .ref b1, .ref b2, .int k, .int th])), (b0, .inl (cA, 10, .inl w)), (b1, .inl (cA, 10, .inl pr)), (b2, .inl (cA, 310, .inl vt)), (h0, .inr (0, [.ref a0, .ref a1, .ref a2, .ref a3, .int k])), (a0, .inl (cA, 10, .inl w)), (a1, .inl (cA, 10, .inl pr)), (a2, .inl (cA, 31, .inl vo)), (a3, .inl (cA, 31, .inl vf)), (o0, .inl (cL, 1, .inr (.inl fo)))] H := hP
  have hD : va_D (bb_A s) [(g0, .inr (1, [.ref b0, .ref b1, .ref b2, .int k, .int th])), (b0, .inl (cA, 10, .inl w)), (b1, .inl (cA, 10, .inl pr)), (b2, .inl (cA, 310, .inl vt)), (h0, .inr (0, [.ref a0, .ref a1, .ref a2, .ref a3, .int k])), (a0, .inl (cA, 10, .inl w)), (a1, .inl (cA, 10, .inl pr)), (a2, .inl (cA, 31, .inl vo)), (a3, .inl (cA, 31, .inl vf)), (o0, .inl (cL, 1, .inr (.inl fo)))] := hD
  refine lv_aload_n hx hb dL_law_591 rfl (lv_at hl 1 rfl) ?_
  refine lv_aload_n hx hb dL_law_592 rfl (lv_at hl 0 rfl) ?_
  refine lv_iload hx hb dL_law_593 (lv_at hl 4 rfl) ?_
  refine lv_iconst (v := 1) hx hb dL_law_595 (by decide) ?_
  refine lv_iadd hx hb dL_law_596 ?_
  refine bb_topi (y := nI (4 * j + 1)) (bb_add1 j) ?_
  refine bb_sld hx hb hX hbl hbA hS (4 * j + 1) (by omega) hL e1 dL_law_597 ?_
  refine lv_aload_n hx hb dL_law_598 rfl (lv_at hl 0 rfl) ?_
  refine lv_iload hx hb dL_law_599 (lv_at hl 4 rfl) ?_
  refine lv_iconst (v := 2) hx hb dL_law_601 (by decide) ?_
  refine lv_iadd hx hb dL_law_602 ?_
  refine bb_topi (y := nI (4 * j + 2)) (bb_add2 j) ?_
  refine bb_sld hx hb hX hbl hbA hS (4 * j + 2) (by omega) hL e2 dL_law_603 ?_
  refine lv_aload_n hx hb dL_law_604 rfl (lv_at hl 3 rfl) ?_
  refine bb_cWf (As := [.ref h0, .int (nI b9), .int (nI v), .ref o0]) (rest := []) (r := 0) (pre := [(g0, .inr (1, [.ref b0, .ref b1, .ref b2, .int k, .int th])), (b0, .inl (cA, 10, .inl w)), (b1, .inl (cA, 10, .inl pr)), (b2, .inl (cA, 310, .inl vt))]) (wc := [(h0, .inr (0, [.ref a0, .ref a1, .ref a2, .ref a3, .int k])), (a0, .inl (cA, 10, .inl w)), (a1, .inl (cA, 10, .inl pr)), (a2, .inl (cA, 31, .inl vo)), (a3, .inl (cA, 31, .inl vf)), (o0, .inl (cL, 1, .inr (.inl fo)))]) (wc' := [(h0, .inr (0, [.ref a0, .ref a1, .ref a2, .ref a3, .int k])), (a0, .inl (cA, 10, .inl w)), (a1, .inl (cA, 10, .inl pr)), (a2, .inl (cA, 31, .inl vo)), (a3, .inl (cA, 31, .inl vf)), (o0, .inl (cL, 1, .inr (.inl (fun _ => bb_L (bb_saf w k pr vo vf b9 (nI v))))))]) (post := []) (Px := fun _ => True) ⟨hx, hb, hml, hown, hts⟩ (w_safe l dC dI cA cL h0 a0 a1 a2 a3 o0 w pr vo vf k fo H.size b9 hb0 v hv0) (bb_cw 4 hts gL_law_L_safe rfl rfl rfl gS_law_L_safe gT_law_L_safe gI_law_L_safe (by decide +kernel) ⟨Nat.le_of_ble_eq_true rfl, Nat.le_of_ble_eq_true rfl⟩) (fun _ _ _ _ _ => trivial) (fun _ _ _ => trivial) hP hK hD hS hA rfl rfl hl.1 rfl (Nat.le_of_ble_eq_true rfl) dL_law_605 (by show _ ≤ 1046; omega) (by show _ ≤ 8687; omega) (fun H locs hP hD hS => ?_)
  have hP : va_P (dC, dI) vwCl [(g0, .inr (1, [.ref b0, .ref b1, .ref b2, .int k, .int th])), (b0, .inl (cA, 10, .inl w)), (b1, .inl (cA, 10, .inl pr)), (b2, .inl (cA, 310, .inl vt)), (h0, .inr (0, [.ref a0, .ref a1, .ref a2, .ref a3, .int k])), (a0, .inl (cA, 10, .inl w)), (a1, .inl (cA, 10, .inl pr)), (a2, .inl (cA, 31, .inl vo)), (a3, .inl (cA, 31, .inl vf)), (o0, .inl (cL, 1, .inr (.inl (fun _ => bb_L (bb_saf w k pr vo vf b9 (nI v))))))] H := hP
  have hD : va_D (bb_A s) [(g0, .inr (1, [.ref b0, .ref b1, .ref b2, .int k, .int th])), (b0, .inl (cA, 10, .inl w)), (b1, .inl (cA, 10, .inl pr)), (b2, .inl (cA, 310, .inl vt)), (h0, .inr (0, [.ref a0, .ref a1, .ref a2, .ref a3, .int k])), (a0, .inl (cA, 10, .inl w)), (a1, .inl (cA, 10, .inl pr)), (a2, .inl (cA, 31, .inl vo)), (a3, .inl (cA, 31, .inl vf)), (o0, .inl (cL, 1, .inr (.inl (fun _ => bb_L (bb_saf w k pr vo vf b9 (nI v))))))] := hD
  refine lv_istore (lv' := [(5, .int 0), (0, .ref b), (1, .ref h0), (2, .ref g0), (3, .ref o0), (4, .int (nI (4 * j)))]) hx hb dL_law_608 hl (by decide) rfl (fun ls hl => ?_)
  refine lv_aload_n hx hb dL_law_610 rfl (lv_at hl 3 rfl) ?_
  refine lv_aload_n hx hb dL_law_611 rfl (lv_at hl 1 rfl) ?_
  refine lv_iload hx hb dL_law_612 (lv_at hl 5 rfl) ?_
  refine lv_iconst (v := 1) hx hb dL_law_614 (by decide) ?_
  refine lv_iadd hx hb dL_law_615 ?_
  refine bb_topi (y := nI (4 * j + 1)) (bb_add1 j) ?_
  refine bb_sld hx hb hX hbl hbA hS (4 * j + 1) (by omega) hL e1 dL_law_616 ?_
  refine lv_aload_n hx hb dL_law_617 rfl (lv_at hl 1 rfl) ?_
  refine lv_iload hx hb dL_law_618 (lv_at hl 5 rfl) ?_
  refine lv_iconst (v := 2) hx hb dL_law_620 (by decide) ?_
  refine lv_iadd hx hb dL_law_621 ?_
  refine bb_topi (y := nI (4 * j + 2)) (bb_add2 j) ?_
  refine bb_sld hx hb hX hbl hbA hS (4 * j + 2) (by omega) hL e2 dL_law_622 ?_
  refine bb_cVf (As := [.int (nI b9), .int (nI v)]) (rest := []) (r := bb_I (bb_rsaf w k pr vt b9 (nI v))) (pre := []) (wc := [(g0, .inr (1, [.ref b0, .ref b1, .ref b2, .int k, .int th])), (b0, .inl (cA, 10, .inl w)), (b1, .inl (cA, 10, .inl pr)), (b2, .inl (cA, 310, .inl vt))]) (post := [(h0, .inr (0, [.ref a0, .ref a1, .ref a2, .ref a3, .int k])), (a0, .inl (cA, 10, .inl w)), (a1, .inl (cA, 10, .inl pr)), (a2, .inl (cA, 31, .inl vo)), (a3, .inl (cA, 31, .inl vf)), (o0, .inl (cL, 1, .inr (.inl (fun _ => bb_L (bb_saf w k pr vo vf b9 (nI v))))))]) (wc' := [(g0, .inr (1, [.ref b0, .ref b1, .ref b2, .int k, .int 0])), (b0, .inl (cA, 10, .inl w)), (b1, .inl (cA, 10, .inl pr)), (b2, .inl (cA, 310, .inl vt))]) 0 ⟨hx, hb, hml, hown, hts⟩ (r_safe l dC dI cA g0 b0 b1 b2 w pr vt k th H.size b9 hb0 v hv0) (cwV 2 hts gL_law_X1_safe rfl rfl rfl (by decide +kernel) ⟨Nat.le_of_ble_eq_true rfl, Nat.le_of_ble_eq_true rfl⟩) hP hK1 hD hS hA rfl rfl rfl rfl hl.1 rfl (Nat.le_of_ble_eq_true rfl) dL_law_623 (by show _ ≤ 1046; omega) (by show _ ≤ 8687; omega) (fun H locs hP hD hS => ?_)
  have hP : va_P (dC, dI) vwCl [(g0, .inr (1, [.ref b0, .ref b1, .ref b2, .int k, .int 0])), (b0, .inl (cA, 10, .inl w)), (b1, .inl (cA, 10, .inl pr)), (b2, .inl (cA, 310, .inl vt)), (h0, .inr (0, [.ref a0, .ref a1, .ref a2, .ref a3, .int k])), (a0, .inl (cA, 10, .inl w)), (a1, .inl (cA, 10, .inl pr)), (a2, .inl (cA, 31, .inl vo)), (a3, .inl (cA, 31, .inl vf)), (o0, .inl (cL, 1, .inr (.inl (fun _ => bb_L (bb_saf w k pr vo vf b9 (nI v))))))] H := hP
  have hD : va_D (bb_A s) [(g0, .inr (1, [.ref b0, .ref b1, .ref b2, .int k, .int 0])), (b0, .inl (cA, 10, .inl w)), (b1, .inl (cA, 10, .inl pr)), (b2, .inl (cA, 310, .inl vt)), (h0, .inr (0, [.ref a0, .ref a1, .ref a2, .ref a3, .int k])), (a0, .inl (cA, 10, .inl w)), (a1, .inl (cA, 10, .inl pr)), (a2, .inl (cA, 31, .inl vo)), (a3, .inl (cA, 31, .inl vf)), (o0, .inl (cL, 1, .inr (.inl (fun _ => bb_L (bb_saf w k pr vo vf b9 (nI v))))))] := hD
  refine bb_topi (y := bb_I (bb_saf w k pr vo vf b9 (nI v))) (congrArg bb_I (bb_e_saf hok (by omega) hv0)) ?_
  refine lv_istore (lv' := [(6, .int (bb_I (bb_saf w k pr vo vf b9 (nI v)))), (5, .int 0), (0, .ref b), (1, .ref h0), (2, .ref g0), (3, .ref o0), (4, .int (nI (4 * j)))]) hx hb dL_law_626 hl (by decide) rfl (fun ls hl => ?_)
  refine lv_aload_n hx hb dL_law_628 rfl (lv_at hl 4 rfl) ?_
  have hPm : va_P (dC, dI) vwCl [(g0, .inr (1, [.ref b0, .ref b1, .ref b2, .int k, .int 0])), (b0, .inl (cA, 10, .inl w)), (b1, .inl (cA, 10, .inl pr)), (b2, .inl (cA, 310, .inl vt))] H := bb_Pmid (pre := []) (wc := [(g0, .inr (1, [.ref b0, .ref b1, .ref b2, .int k, .int 0])), (b0, .inl (cA, 10, .inl w)), (b1, .inl (cA, 10, .inl pr)), (b2, .inl (cA, 310, .inl vt))]) (post := [(h0, .inr (0, [.ref a0, .ref a1, .ref a2, .ref a3, .int k])), (a0, .inl (cA, 10, .inl w)), (a1, .inl (cA, 10, .inl pr)), (a2, .inl (cA, 31, .inl vo)), (a3, .inl (cA, 31, .inl vf)), (o0, .inl (cL, 1, .inr (.inl (fun _ => bb_L (bb_saf w k pr vo vf b9 (nI v))))))]) hP
  refine bb_cV (As := []) (rest := []) (r := 0) 0 ⟨hx, hb, hml, hown, hts⟩ (m_thrown l dC dI cA g0 b0 b1 b2 w pr vt k 0) (cwV 0 hts gL_law_X1_thrown rfl rfl rfl (by decide +kernel) ⟨Nat.le_of_ble_eq_true rfl, Nat.le_of_ble_eq_true rfl⟩) hPm hK1 rfl rfl rfl hl.1 rfl (Nat.le_of_ble_eq_true rfl) dL_law_629 (by show _ ≤ 1046; omega) (by show _ ≤ 8687; omega) ?_
  refine lv_iload hx hb dL_law_632 (lv_at hl 1 rfl) ?_
  refine lv_icmp_eq (tgt := 639) hx hb dL_law_634 rfl (fun h634 => ?_) (fun h634 => absurd rfl h634)
  refine lv_iload hx hb dL_law_639 (lv_at hl 1 rfl) ?_
  refine lv_if_ne (tgt := 663) hx hb dL_law_641 rfl (fun h641 => absurd rfl h641) (fun h641 => ?_)
  refine lv_aload_n hx hb dL_law_644 rfl (lv_at hl 5 rfl) ?_
  refine lv_iconst (v := nI 0) hx hb dL_law_645 (by decide) ?_
  refine bb_lal hx hb hK hP 9 1 rfl rfl dL_law_646 ?_
  refine lv_iload hx hb dL_law_647 (lv_at hl 0 rfl) ?_
  refine lv_if_eq (tgt := 656) hx hb dL_law_649 rfl (fun h649 => ?_) (fun h649 => ?_)
  · skip
    have q649 := bb_I_0.mp h649
    refine lv_lconst (v := 0) hx hb dL_law_656 (by decide) ?_
    refine W.lcmp hx hb dL_law_657 ?_
    refine bb_topi (y := 0) (bb_cmp2 q649) ?_
    refine lv_if_eq (tgt := 663) hx hb dL_law_658 rfl (fun h658 => ?_) (fun h658 => absurd rfl h658)
    refine lv_goto (tgt := 993) hx hb dL_law_663 rfl ?_
    refine W.widen (k := 11 + j) (n := 429 + 6 * j) (by omega) (by omega) ?_
    exact K _ _ _ _ _ _ _ _ _ _ _ (hok) hP hD hS (lv_sub hl [2, 3, 4, 5, 6] rfl)
  · skip
    have q649 := bb_nz h649
    refine lv_lconst (v := 1) hx hb dL_law_652 (by decide) ?_
    refine lv_goto (tgt := 657) hx hb dL_law_653 rfl ?_
    refine W.lcmp hx hb dL_law_657 ?_
    refine bb_topi (y := 0) (bb_cmp1 q649) ?_
    refine lv_if_eq (tgt := 663) hx hb dL_law_658 rfl (fun h658 => ?_) (fun h658 => absurd rfl h658)
    refine lv_goto (tgt := 993) hx hb dL_law_663 rfl ?_
    refine W.widen (k := 11 + j) (n := 429 + 6 * j) (by omega) (by omega) ?_
    exact K _ _ _ _ _ _ _ _ _ _ _ (hok) hP hD hS (lv_sub hl [2, 3, 4, 5, 6] rfl)

set_option maxHeartbeats 4000000 in
set_option maxRecDepth 100000 in
theorem L_safe1 {p : Program} {l : Launch} {e : Env} {s : State} {m : MethodId} {below : List Frame} {meth : Method} {c : Code} {Q : State → Prop} {b L : Nat} {xs : Nat → Int32} {dC : Nat → ClassId} {dI : Nat → Nat → Nat} {cA cL : ClassId} (X : bb_Cx p l s m c b L xs dC dI cA cL) {g0 b0 b1 b2 h0 a0 a1 a2 a3 o0 : Nat} {w pr vo vf vt : Nat → Int32} {k th : Int32} {fo : Nat → Int64} {H : Heap} {locs : List Loc} {ls : Array Slot} {j : Nat} (hj : 4 * j + 3 < L) (hok : bb_ok w k pr vo vf vt)
    (hP : va_P (dC, dI) vwCl (bb_F g0 b0 b1 b2 h0 a0 a1 a2 a3 o0 cA cL w pr vo vf vt k th fo) H) (hD : va_D (bb_A s) (bb_F g0 b0 b1 b2 h0 a0 a1 a2 a3 o0 cA cL w pr vo vf vt k th fo)) (hS : va_S (bb_A s) s.heap H locs) (hl : lv_has ls 7 (bb_ll b h0 g0 o0 j)) (K : bb_K p l e s m below meth c b dC dI cA cL g0 b0 b1 b2 h0 a0 a1 a2 a3 o0 j Q) (x0 x1 : Int32) (hbad : (bb_out x0 (nI 31) || bb_out x1 (nI 10)) = true) (e1 : xs (4 * j + 1) = x0) (e2 : xs (4 * j + 2) = x1) : W p l e room_1 s m #[Value.ref b] below meth c H locs (10 + j) (423 + 6 * j) Q (F0 m 591 ls []) := by
  obtain ⟨hx, hb, hml, hown, hts, hX, hbl, hK, hZ, htr, hL⟩ := X
  have hA : ∀ q : Nat, s.heap.size ≤ q → bb_A s q := fun _ h => h
  have hbA : ¬ bb_A s b := Nat.not_le.mpr hbl
  have hK1 := hK.sub [0] (tys' := [(cA, .int)]) rfl
  have hjb : j < 512 := by omega
  have hl : lv_has ls 7 [(0, .ref b), (1, .ref h0), (2, .ref g0), (3, .ref o0), (4, .int (nI (4 * j)))] := hl
  have hP : va_P (dC, dI) vwCl [(g0, .inr (1, [.ref b0, .ref b1, .ref b2, .int k, .int th])), (b0, .inl (cA, 10, .inl w)), (b1, .inl (cA, 10, .inl pr)), (b2, .inl (cA, 310, .inl vt)), (h0, .inr (0, [.ref a0, .ref a1, .ref a2, .ref a3, .int k])), (a0, .inl (cA, 10, .inl w)), (a1, .inl (cA, 10, .inl pr)), (a2, .inl (cA, 31, .inl vo)), (a3, .inl (cA, 31, .inl vf)), (o0, .inl (cL, 1, .inr (.inl fo)))] H := hP
  have hD : va_D (bb_A s) [(g0, .inr (1, [.ref b0, .ref b1, .ref b2, .int k, .int th])), (b0, .inl (cA, 10, .inl w)), (b1, .inl (cA, 10, .inl pr)), (b2, .inl (cA, 310, .inl vt)), (h0, .inr (0, [.ref a0, .ref a1, .ref a2, .ref a3, .int k])), (a0, .inl (cA, 10, .inl w)), (a1, .inl (cA, 10, .inl pr)), (a2, .inl (cA, 31, .inl vo)), (a3, .inl (cA, 31, .inl vf)), (o0, .inl (cL, 1, .inr (.inl fo)))] := hD
  refine lv_aload_n hx hb dL_law_591 rfl (lv_at hl 1 rfl) ?_
  refine lv_aload_n hx hb dL_law_592 rfl (lv_at hl 0 rfl) ?_
  refine lv_iload hx hb dL_law_593 (lv_at hl 4 rfl) ?_
  refine lv_iconst (v := 1) hx hb dL_law_595 (by decide) ?_
  refine lv_iadd hx hb dL_law_596 ?_
  refine bb_topi (y := nI (4 * j + 1)) (bb_add1 j) ?_
  refine bb_sld hx hb hX hbl hbA hS (4 * j + 1) (by omega) hL e1 dL_law_597 ?_
  refine lv_aload_n hx hb dL_law_598 rfl (lv_at hl 0 rfl) ?_
  refine lv_iload hx hb dL_law_599 (lv_at hl 4 rfl) ?_
  refine lv_iconst (v := 2) hx hb dL_law_601 (by decide) ?_
  refine lv_iadd hx hb dL_law_602 ?_
  refine bb_topi (y := nI (4 * j + 2)) (bb_add2 j) ?_
  refine bb_sld hx hb hX hbl hbA hS (4 * j + 2) (by omega) hL e2 dL_law_603 ?_
  refine lv_aload_n hx hb dL_law_604 rfl (lv_at hl 3 rfl) ?_
  refine bb_cWf (As := [.ref h0, .int x0, .int x1, .ref o0]) (rest := []) (r := 1) (pre := [(g0, .inr (1, [.ref b0, .ref b1, .ref b2, .int k, .int th])), (b0, .inl (cA, 10, .inl w)), (b1, .inl (cA, 10, .inl pr)), (b2, .inl (cA, 310, .inl vt))]) (wc := [(h0, .inr (0, [.ref a0, .ref a1, .ref a2, .ref a3, .int k])), (a0, .inl (cA, 10, .inl w)), (a1, .inl (cA, 10, .inl pr)), (a2, .inl (cA, 31, .inl vo)), (a3, .inl (cA, 31, .inl vf)), (o0, .inl (cL, 1, .inr (.inl fo)))]) (wc' := [(h0, .inr (0, [.ref a0, .ref a1, .ref a2, .ref a3, .int k])), (a0, .inl (cA, 10, .inl w)), (a1, .inl (cA, 10, .inl pr)), (a2, .inl (cA, 31, .inl vo)), (a3, .inl (cA, 31, .inl vf)), (o0, .inl (cL, 1, .inr (.inl fo)))]) (post := []) (Px := fun U => bb_TS s.heap.size U) ⟨hx, hb, hml, hown, hts⟩ (w_safe1 l htr s.heap.size dC dI cA cL h0 a0 a1 a2 a3 o0 w pr vo vf k fo H.size x0 x1 hbad) (bb_cw 4 hts gL_law_L_safe rfl rfl rfl gS_law_L_safe gT_law_L_safe gI_law_L_safe (by decide +kernel) ⟨Nat.le_of_ble_eq_true rfl, Nat.le_of_ble_eq_true rfl⟩) (fun a9 U9 g9 m9 q9 => bb_TS.same (u := U9) (U := U9.calling g9 m9 a9) rfl rfl q9) (fun U9 hU9 hW9 => hZ.mv hW9 (fun x9 h9 => by rw [hU9]; exact hS.2.1 x9 h9 (Nat.not_le.mpr h9))) hP hK hD hS hA rfl rfl hl.1 rfl (Nat.le_of_ble_eq_true rfl) dL_law_605 (by show _ ≤ 1046; omega) (by show _ ≤ 8687; omega) (fun H locs hP hD hS => ?_)
  have hP : va_P (dC, dI) vwCl [(g0, .inr (1, [.ref b0, .ref b1, .ref b2, .int k, .int th])), (b0, .inl (cA, 10, .inl w)), (b1, .inl (cA, 10, .inl pr)), (b2, .inl (cA, 310, .inl vt)), (h0, .inr (0, [.ref a0, .ref a1, .ref a2, .ref a3, .int k])), (a0, .inl (cA, 10, .inl w)), (a1, .inl (cA, 10, .inl pr)), (a2, .inl (cA, 31, .inl vo)), (a3, .inl (cA, 31, .inl vf)), (o0, .inl (cL, 1, .inr (.inl fo)))] H := hP
  have hD : va_D (bb_A s) [(g0, .inr (1, [.ref b0, .ref b1, .ref b2, .int k, .int th])), (b0, .inl (cA, 10, .inl w)), (b1, .inl (cA, 10, .inl pr)), (b2, .inl (cA, 310, .inl vt)), (h0, .inr (0, [.ref a0, .ref a1, .ref a2, .ref a3, .int k])), (a0, .inl (cA, 10, .inl w)), (a1, .inl (cA, 10, .inl pr)), (a2, .inl (cA, 31, .inl vo)), (a3, .inl (cA, 31, .inl vf)), (o0, .inl (cL, 1, .inr (.inl fo)))] := hD
  refine lv_istore (lv' := [(5, .int 1), (0, .ref b), (1, .ref h0), (2, .ref g0), (3, .ref o0), (4, .int (nI (4 * j)))]) hx hb dL_law_608 hl (by decide) rfl (fun ls hl => ?_)
  refine lv_aload_n hx hb dL_law_610 rfl (lv_at hl 3 rfl) ?_
  refine lv_aload_n hx hb dL_law_611 rfl (lv_at hl 1 rfl) ?_
  refine lv_iload hx hb dL_law_612 (lv_at hl 5 rfl) ?_
  refine lv_iconst (v := 1) hx hb dL_law_614 (by decide) ?_
  refine lv_iadd hx hb dL_law_615 ?_
  refine bb_topi (y := nI (4 * j + 1)) (bb_add1 j) ?_
  refine bb_sld hx hb hX hbl hbA hS (4 * j + 1) (by omega) hL e1 dL_law_616 ?_
  refine lv_aload_n hx hb dL_law_617 rfl (lv_at hl 1 rfl) ?_
  refine lv_iload hx hb dL_law_618 (lv_at hl 5 rfl) ?_
  refine lv_iconst (v := 2) hx hb dL_law_620 (by decide) ?_
  refine lv_iadd hx hb dL_law_621 ?_
  refine bb_topi (y := nI (4 * j + 2)) (bb_add2 j) ?_
  refine bb_sld hx hb hX hbl hbA hS (4 * j + 2) (by omega) hL e2 dL_law_622 ?_
  refine bb_cVf (As := [.int x0, .int x1]) (rest := []) (r := 0) (pre := []) (wc := [(g0, .inr (1, [.ref b0, .ref b1, .ref b2, .int k, .int th])), (b0, .inl (cA, 10, .inl w)), (b1, .inl (cA, 10, .inl pr)), (b2, .inl (cA, 310, .inl vt))]) (post := [(h0, .inr (0, [.ref a0, .ref a1, .ref a2, .ref a3, .int k])), (a0, .inl (cA, 10, .inl w)), (a1, .inl (cA, 10, .inl pr)), (a2, .inl (cA, 31, .inl vo)), (a3, .inl (cA, 31, .inl vf)), (o0, .inl (cL, 1, .inr (.inl fo)))]) (wc' := [(g0, .inr (1, [.ref b0, .ref b1, .ref b2, .int k, .int 1])), (b0, .inl (cA, 10, .inl w)), (b1, .inl (cA, 10, .inl pr)), (b2, .inl (cA, 310, .inl vt))]) 0 ⟨hx, hb, hml, hown, hts⟩ (r_safe1 l dC dI cA g0 b0 b1 b2 w pr vt k th H.size x0 x1 hbad) (cwV 2 hts gL_law_X1_safe rfl rfl rfl (by decide +kernel) ⟨Nat.le_of_ble_eq_true rfl, Nat.le_of_ble_eq_true rfl⟩) hP hK1 hD hS hA rfl rfl rfl rfl hl.1 rfl (Nat.le_of_ble_eq_true rfl) dL_law_623 (by show _ ≤ 1046; omega) (by show _ ≤ 8687; omega) (fun H locs hP hD hS => ?_)
  have hP : va_P (dC, dI) vwCl [(g0, .inr (1, [.ref b0, .ref b1, .ref b2, .int k, .int 1])), (b0, .inl (cA, 10, .inl w)), (b1, .inl (cA, 10, .inl pr)), (b2, .inl (cA, 310, .inl vt)), (h0, .inr (0, [.ref a0, .ref a1, .ref a2, .ref a3, .int k])), (a0, .inl (cA, 10, .inl w)), (a1, .inl (cA, 10, .inl pr)), (a2, .inl (cA, 31, .inl vo)), (a3, .inl (cA, 31, .inl vf)), (o0, .inl (cL, 1, .inr (.inl fo)))] H := hP
  have hD : va_D (bb_A s) [(g0, .inr (1, [.ref b0, .ref b1, .ref b2, .int k, .int 1])), (b0, .inl (cA, 10, .inl w)), (b1, .inl (cA, 10, .inl pr)), (b2, .inl (cA, 310, .inl vt)), (h0, .inr (0, [.ref a0, .ref a1, .ref a2, .ref a3, .int k])), (a0, .inl (cA, 10, .inl w)), (a1, .inl (cA, 10, .inl pr)), (a2, .inl (cA, 31, .inl vo)), (a3, .inl (cA, 31, .inl vf)), (o0, .inl (cL, 1, .inr (.inl fo)))] := hD
  refine lv_istore (lv' := [(6, .int 0), (5, .int 1), (0, .ref b), (1, .ref h0), (2, .ref g0), (3, .ref o0), (4, .int (nI (4 * j)))]) hx hb dL_law_626 hl (by decide) rfl (fun ls hl => ?_)
  refine lv_aload_n hx hb dL_law_628 rfl (lv_at hl 4 rfl) ?_
  have hPm : va_P (dC, dI) vwCl [(g0, .inr (1, [.ref b0, .ref b1, .ref b2, .int k, .int 1])), (b0, .inl (cA, 10, .inl w)), (b1, .inl (cA, 10, .inl pr)), (b2, .inl (cA, 310, .inl vt))] H := bb_Pmid (pre := []) (wc := [(g0, .inr (1, [.ref b0, .ref b1, .ref b2, .int k, .int 1])), (b0, .inl (cA, 10, .inl w)), (b1, .inl (cA, 10, .inl pr)), (b2, .inl (cA, 310, .inl vt))]) (post := [(h0, .inr (0, [.ref a0, .ref a1, .ref a2, .ref a3, .int k])), (a0, .inl (cA, 10, .inl w)), (a1, .inl (cA, 10, .inl pr)), (a2, .inl (cA, 31, .inl vo)), (a3, .inl (cA, 31, .inl vf)), (o0, .inl (cL, 1, .inr (.inl fo)))]) hP
  refine bb_cV (As := []) (rest := []) (r := 1) 0 ⟨hx, hb, hml, hown, hts⟩ (m_thrown l dC dI cA g0 b0 b1 b2 w pr vt k 1) (cwV 0 hts gL_law_X1_thrown rfl rfl rfl (by decide +kernel) ⟨Nat.le_of_ble_eq_true rfl, Nat.le_of_ble_eq_true rfl⟩) hPm hK1 rfl rfl rfl hl.1 rfl (Nat.le_of_ble_eq_true rfl) dL_law_629 (by show _ ≤ 1046; omega) (by show _ ≤ 8687; omega) ?_
  refine lv_iload hx hb dL_law_632 (lv_at hl 1 rfl) ?_
  refine lv_icmp_eq (tgt := 639) hx hb dL_law_634 rfl (fun h634 => ?_) (fun h634 => absurd rfl h634)
  refine lv_iload hx hb dL_law_639 (lv_at hl 1 rfl) ?_
  refine lv_if_ne (tgt := 663) hx hb dL_law_641 rfl (fun h641 => ?_) (fun h641 => absurd h641 (by decide))
  refine lv_goto (tgt := 993) hx hb dL_law_663 rfl ?_
  refine W.widen (k := 11 + j) (n := 429 + 6 * j) (by omega) (by omega) ?_
  exact K _ _ _ _ _ _ _ _ _ _ _ (hok) hP hD hS (lv_sub hl [2, 3, 4, 5, 6] rfl)

set_option maxHeartbeats 4000000 in
set_option maxRecDepth 100000 in
theorem L_free {p : Program} {l : Launch} {e : Env} {s : State} {m : MethodId} {below : List Frame} {meth : Method} {c : Code} {Q : State → Prop} {b L : Nat} {xs : Nat → Int32} {dC : Nat → ClassId} {dI : Nat → Nat → Nat} {cA cL : ClassId} (X : bb_Cx p l s m c b L xs dC dI cA cL) {g0 b0 b1 b2 h0 a0 a1 a2 a3 o0 : Nat} {w pr vo vf vt : Nat → Int32} {k th : Int32} {fo : Nat → Int64} {H : Heap} {locs : List Loc} {ls : Array Slot} {j : Nat} (hj : 4 * j + 3 < L) (hok : bb_ok w k pr vo vf vt)
    (hP : va_P (dC, dI) vwCl (bb_F g0 b0 b1 b2 h0 a0 a1 a2 a3 o0 cA cL w pr vo vf vt k th fo) H) (hD : va_D (bb_A s) (bb_F g0 b0 b1 b2 h0 a0 a1 a2 a3 o0 cA cL w pr vo vf vt k th fo)) (hS : va_S (bb_A s) s.heap H locs) (hl : lv_has ls 7 (bb_ll b h0 g0 o0 j)) (K : bb_K p l e s m below meth c b dC dI cA cL g0 b0 b1 b2 h0 a0 a1 a2 a3 o0 j Q) (b9 : Nat) (hb0 : b9 < 31) (e1 : xs (4 * j + 1) = nI b9) : W p l e room_1 s m #[Value.ref b] below meth c H locs (10 + j) (423 + 6 * j) Q (F0 m 666 ls []) := by
  obtain ⟨hx, hb, hml, hown, hts, hX, hbl, hK, hZ, htr, hL⟩ := X
  have hA : ∀ q : Nat, s.heap.size ≤ q → bb_A s q := fun _ h => h
  have hbA : ¬ bb_A s b := Nat.not_le.mpr hbl
  have hK1 := hK.sub [0] (tys' := [(cA, .int)]) rfl
  have hjb : j < 512 := by omega
  have hl : lv_has ls 7 [(0, .ref b), (1, .ref h0), (2, .ref g0), (3, .ref o0), (4, .int (nI (4 * j)))] := hl
  have hP : va_P (dC, dI) vwCl [(g0, .inr (1, [.ref b0, .ref b1, .ref b2, .int k, .int th])), (b0, .inl (cA, 10, .inl w)), (b1, .inl (cA, 10, .inl pr)), (b2, .inl (cA, 310, .inl vt)), (h0, .inr (0, [.ref a0, .ref a1, .ref a2, .ref a3, .int k])), (a0, .inl (cA, 10, .inl w)), (a1, .inl (cA, 10, .inl pr)), (a2, .inl (cA, 31, .inl vo)), (a3, .inl (cA, 31, .inl vf)), (o0, .inl (cL, 1, .inr (.inl fo)))] H := hP
  have hD : va_D (bb_A s) [(g0, .inr (1, [.ref b0, .ref b1, .ref b2, .int k, .int th])), (b0, .inl (cA, 10, .inl w)), (b1, .inl (cA, 10, .inl pr)), (b2, .inl (cA, 310, .inl vt)), (h0, .inr (0, [.ref a0, .ref a1, .ref a2, .ref a3, .int k])), (a0, .inl (cA, 10, .inl w)), (a1, .inl (cA, 10, .inl pr)), (a2, .inl (cA, 31, .inl vo)), (a3, .inl (cA, 31, .inl vf)), (o0, .inl (cL, 1, .inr (.inl fo)))] := hD
  refine lv_aload_n hx hb dL_law_666 rfl (lv_at hl 1 rfl) ?_
  refine lv_aload_n hx hb dL_law_667 rfl (lv_at hl 0 rfl) ?_
  refine lv_iload hx hb dL_law_668 (lv_at hl 4 rfl) ?_
  refine lv_iconst (v := 1) hx hb dL_law_670 (by decide) ?_
  refine lv_iadd hx hb dL_law_671 ?_
  refine bb_topi (y := nI (4 * j + 1)) (bb_add1 j) ?_
  refine bb_sld hx hb hX hbl hbA hS (4 * j + 1) (by omega) hL e1 dL_law_672 ?_
  refine lv_aload_n hx hb dL_law_673 rfl (lv_at hl 3 rfl) ?_
  refine bb_cWf (As := [.ref h0, .int (nI b9), .ref o0]) (rest := []) (r := 0) (pre := [(g0, .inr (1, [.ref b0, .ref b1, .ref b2, .int k, .int th])), (b0, .inl (cA, 10, .inl w)), (b1, .inl (cA, 10, .inl pr)), (b2, .inl (cA, 310, .inl vt))]) (wc := [(h0, .inr (0, [.ref a0, .ref a1, .ref a2, .ref a3, .int k])), (a0, .inl (cA, 10, .inl w)), (a1, .inl (cA, 10, .inl pr)), (a2, .inl (cA, 31, .inl vo)), (a3, .inl (cA, 31, .inl vf)), (o0, .inl (cL, 1, .inr (.inl fo)))]) (wc' := [(h0, .inr (0, [.ref a0, .ref a1, .ref a2, .ref a3, .int k])), (a0, .inl (cA, 10, .inl w)), (a1, .inl (cA, 10, .inl pr)), (a2, .inl (cA, 31, .inl vo)), (a3, .inl (cA, 31, .inl vf)), (o0, .inl (cL, 1, .inr (.inl (fun _ => (nI (bb_cn (fun v9 => bb_saf w k pr vo vf b9 (nI v9)) 10)).toInt64))))]) (post := []) (Px := fun _ => True) ⟨hx, hb, hml, hown, hts⟩ (w_free l dC dI cA cL h0 a0 a1 a2 a3 o0 w pr vo vf k fo H.size b9 hb0) (bb_cw 3 hts gL_law_L_free rfl rfl rfl gS_law_L_free gT_law_L_free gI_law_L_free (by decide +kernel) ⟨Nat.le_of_ble_eq_true rfl, Nat.le_of_ble_eq_true rfl⟩) (fun _ _ _ _ _ => trivial) (fun _ _ _ => trivial) hP hK hD hS hA rfl rfl hl.1 rfl (Nat.le_of_ble_eq_true rfl) dL_law_674 (by show _ ≤ 1046; omega) (by show _ ≤ 8687; omega) (fun H locs hP hD hS => ?_)
  have hP : va_P (dC, dI) vwCl [(g0, .inr (1, [.ref b0, .ref b1, .ref b2, .int k, .int th])), (b0, .inl (cA, 10, .inl w)), (b1, .inl (cA, 10, .inl pr)), (b2, .inl (cA, 310, .inl vt)), (h0, .inr (0, [.ref a0, .ref a1, .ref a2, .ref a3, .int k])), (a0, .inl (cA, 10, .inl w)), (a1, .inl (cA, 10, .inl pr)), (a2, .inl (cA, 31, .inl vo)), (a3, .inl (cA, 31, .inl vf)), (o0, .inl (cL, 1, .inr (.inl (fun _ => (nI (bb_cn (fun v9 => bb_saf w k pr vo vf b9 (nI v9)) 10)).toInt64))))] H := hP
  have hD : va_D (bb_A s) [(g0, .inr (1, [.ref b0, .ref b1, .ref b2, .int k, .int th])), (b0, .inl (cA, 10, .inl w)), (b1, .inl (cA, 10, .inl pr)), (b2, .inl (cA, 310, .inl vt)), (h0, .inr (0, [.ref a0, .ref a1, .ref a2, .ref a3, .int k])), (a0, .inl (cA, 10, .inl w)), (a1, .inl (cA, 10, .inl pr)), (a2, .inl (cA, 31, .inl vo)), (a3, .inl (cA, 31, .inl vf)), (o0, .inl (cL, 1, .inr (.inl (fun _ => (nI (bb_cn (fun v9 => bb_saf w k pr vo vf b9 (nI v9)) 10)).toInt64))))] := hD
  refine lv_istore (lv' := [(5, .int 0), (0, .ref b), (1, .ref h0), (2, .ref g0), (3, .ref o0), (4, .int (nI (4 * j)))]) hx hb dL_law_677 hl (by decide) rfl (fun ls hl => ?_)
  refine lv_aload_n hx hb dL_law_679 rfl (lv_at hl 3 rfl) ?_
  refine lv_aload_n hx hb dL_law_680 rfl (lv_at hl 1 rfl) ?_
  refine lv_iload hx hb dL_law_681 (lv_at hl 5 rfl) ?_
  refine lv_iconst (v := 1) hx hb dL_law_683 (by decide) ?_
  refine lv_iadd hx hb dL_law_684 ?_
  refine bb_topi (y := nI (4 * j + 1)) (bb_add1 j) ?_
  refine bb_sld hx hb hX hbl hbA hS (4 * j + 1) (by omega) hL e1 dL_law_685 ?_
  refine bb_cVf (As := [.int (nI b9)]) (rest := []) (r := nI (bb_cn (fun v9 => bb_rsaf w k pr vt b9 (nI v9)) 10)) (pre := []) (wc := [(g0, .inr (1, [.ref b0, .ref b1, .ref b2, .int k, .int th])), (b0, .inl (cA, 10, .inl w)), (b1, .inl (cA, 10, .inl pr)), (b2, .inl (cA, 310, .inl vt))]) (post := [(h0, .inr (0, [.ref a0, .ref a1, .ref a2, .ref a3, .int k])), (a0, .inl (cA, 10, .inl w)), (a1, .inl (cA, 10, .inl pr)), (a2, .inl (cA, 31, .inl vo)), (a3, .inl (cA, 31, .inl vf)), (o0, .inl (cL, 1, .inr (.inl (fun _ => (nI (bb_cn (fun v9 => bb_saf w k pr vo vf b9 (nI v9)) 10)).toInt64))))]) (wc' := [(g0, .inr (1, [.ref b0, .ref b1, .ref b2, .int k, .int 0])), (b0, .inl (cA, 10, .inl w)), (b1, .inl (cA, 10, .inl pr)), (b2, .inl (cA, 310, .inl vt))]) 0 ⟨hx, hb, hml, hown, hts⟩ (r_free l dC dI cA g0 b0 b1 b2 w pr vt k th H.size b9 hb0) (cwV 1 hts gL_law_X1_free rfl rfl rfl (by decide +kernel) ⟨Nat.le_of_ble_eq_true rfl, Nat.le_of_ble_eq_true rfl⟩) hP hK1 hD hS hA rfl rfl rfl rfl hl.1 rfl (Nat.le_of_ble_eq_true rfl) dL_law_686 (by show _ ≤ 1046; omega) (by show _ ≤ 8687; omega) (fun H locs hP hD hS => ?_)
  have hP : va_P (dC, dI) vwCl [(g0, .inr (1, [.ref b0, .ref b1, .ref b2, .int k, .int 0])), (b0, .inl (cA, 10, .inl w)), (b1, .inl (cA, 10, .inl pr)), (b2, .inl (cA, 310, .inl vt)), (h0, .inr (0, [.ref a0, .ref a1, .ref a2, .ref a3, .int k])), (a0, .inl (cA, 10, .inl w)), (a1, .inl (cA, 10, .inl pr)), (a2, .inl (cA, 31, .inl vo)), (a3, .inl (cA, 31, .inl vf)), (o0, .inl (cL, 1, .inr (.inl (fun _ => (nI (bb_cn (fun v9 => bb_saf w k pr vo vf b9 (nI v9)) 10)).toInt64))))] H := hP
  have hD : va_D (bb_A s) [(g0, .inr (1, [.ref b0, .ref b1, .ref b2, .int k, .int 0])), (b0, .inl (cA, 10, .inl w)), (b1, .inl (cA, 10, .inl pr)), (b2, .inl (cA, 310, .inl vt)), (h0, .inr (0, [.ref a0, .ref a1, .ref a2, .ref a3, .int k])), (a0, .inl (cA, 10, .inl w)), (a1, .inl (cA, 10, .inl pr)), (a2, .inl (cA, 31, .inl vo)), (a3, .inl (cA, 31, .inl vf)), (o0, .inl (cL, 1, .inr (.inl (fun _ => (nI (bb_cn (fun v9 => bb_saf w k pr vo vf b9 (nI v9)) 10)).toInt64))))] := hD
  refine bb_topi (y := nI (bb_cn (fun v9 => bb_saf w k pr vo vf b9 (nI v9)) 10)) (congrArg nI (bb_cn_congr (fun v9 hv9 => bb_e_saf hok (by omega) hv9))) ?_
  refine lv_istore (lv' := [(6, .int (nI (bb_cn (fun v9 => bb_saf w k pr vo vf b9 (nI v9)) 10))), (5, .int 0), (0, .ref b), (1, .ref h0), (2, .ref g0), (3, .ref o0), (4, .int (nI (4 * j)))]) hx hb dL_law_689 hl (by decide) rfl (fun ls hl => ?_)
  refine lv_aload_n hx hb dL_law_691 rfl (lv_at hl 4 rfl) ?_
  have hPm : va_P (dC, dI) vwCl [(g0, .inr (1, [.ref b0, .ref b1, .ref b2, .int k, .int 0])), (b0, .inl (cA, 10, .inl w)), (b1, .inl (cA, 10, .inl pr)), (b2, .inl (cA, 310, .inl vt))] H := bb_Pmid (pre := []) (wc := [(g0, .inr (1, [.ref b0, .ref b1, .ref b2, .int k, .int 0])), (b0, .inl (cA, 10, .inl w)), (b1, .inl (cA, 10, .inl pr)), (b2, .inl (cA, 310, .inl vt))]) (post := [(h0, .inr (0, [.ref a0, .ref a1, .ref a2, .ref a3, .int k])), (a0, .inl (cA, 10, .inl w)), (a1, .inl (cA, 10, .inl pr)), (a2, .inl (cA, 31, .inl vo)), (a3, .inl (cA, 31, .inl vf)), (o0, .inl (cL, 1, .inr (.inl (fun _ => (nI (bb_cn (fun v9 => bb_saf w k pr vo vf b9 (nI v9)) 10)).toInt64))))]) hP
  refine bb_cV (As := []) (rest := []) (r := 0) 0 ⟨hx, hb, hml, hown, hts⟩ (m_thrown l dC dI cA g0 b0 b1 b2 w pr vt k 0) (cwV 0 hts gL_law_X1_thrown rfl rfl rfl (by decide +kernel) ⟨Nat.le_of_ble_eq_true rfl, Nat.le_of_ble_eq_true rfl⟩) hPm hK1 rfl rfl rfl hl.1 rfl (Nat.le_of_ble_eq_true rfl) dL_law_692 (by show _ ≤ 1046; omega) (by show _ ≤ 8687; omega) ?_
  refine lv_iload hx hb dL_law_695 (lv_at hl 1 rfl) ?_
  refine lv_icmp_eq (tgt := 702) hx hb dL_law_697 rfl (fun h697 => ?_) (fun h697 => absurd rfl h697)
  refine lv_iload hx hb dL_law_702 (lv_at hl 1 rfl) ?_
  refine lv_if_ne (tgt := 719) hx hb dL_law_704 rfl (fun h704 => absurd rfl h704) (fun h704 => ?_)
  refine lv_aload_n hx hb dL_law_707 rfl (lv_at hl 5 rfl) ?_
  refine lv_iconst (v := nI 0) hx hb dL_law_708 (by decide) ?_
  refine bb_lal hx hb hK hP 9 1 rfl rfl dL_law_709 ?_
  refine lv_iload hx hb dL_law_710 (lv_at hl 0 rfl) ?_
  refine lv_i2l (v := (nI (bb_cn (fun v9 => bb_saf w k pr vo vf b9 (nI v9)) 10)).toInt64) hx hb dL_law_712 rfl ?_
  refine W.lcmp hx hb dL_law_713 ?_
  refine bb_topi (y := 0) (bb_cmp0 _) ?_
  refine lv_if_eq (tgt := 719) hx hb dL_law_714 rfl (fun h714 => ?_) (fun h714 => absurd rfl h714)
  refine lv_goto (tgt := 993) hx hb dL_law_719 rfl ?_
  refine W.widen (k := 11 + j) (n := 429 + 6 * j) (by omega) (by omega) ?_
  exact K _ _ _ _ _ _ _ _ _ _ _ (hok) hP hD hS (lv_sub hl [2, 3, 4, 5, 6] rfl)

set_option maxHeartbeats 4000000 in
set_option maxRecDepth 100000 in
theorem L_free1 {p : Program} {l : Launch} {e : Env} {s : State} {m : MethodId} {below : List Frame} {meth : Method} {c : Code} {Q : State → Prop} {b L : Nat} {xs : Nat → Int32} {dC : Nat → ClassId} {dI : Nat → Nat → Nat} {cA cL : ClassId} (X : bb_Cx p l s m c b L xs dC dI cA cL) {g0 b0 b1 b2 h0 a0 a1 a2 a3 o0 : Nat} {w pr vo vf vt : Nat → Int32} {k th : Int32} {fo : Nat → Int64} {H : Heap} {locs : List Loc} {ls : Array Slot} {j : Nat} (hj : 4 * j + 3 < L) (hok : bb_ok w k pr vo vf vt)
    (hP : va_P (dC, dI) vwCl (bb_F g0 b0 b1 b2 h0 a0 a1 a2 a3 o0 cA cL w pr vo vf vt k th fo) H) (hD : va_D (bb_A s) (bb_F g0 b0 b1 b2 h0 a0 a1 a2 a3 o0 cA cL w pr vo vf vt k th fo)) (hS : va_S (bb_A s) s.heap H locs) (hl : lv_has ls 7 (bb_ll b h0 g0 o0 j)) (K : bb_K p l e s m below meth c b dC dI cA cL g0 b0 b1 b2 h0 a0 a1 a2 a3 o0 j Q) (x0 : Int32) (hbad : bb_out x0 (nI 31) = true) (e1 : xs (4 * j + 1) = x0) : W p l e room_1 s m #[Value.ref b] below meth c H locs (10 + j) (423 + 6 * j) Q (F0 m 666 ls []) := by
  obtain ⟨hx, hb, hml, hown, hts, hX, hbl, hK, hZ, htr, hL⟩ := X
  have hA : ∀ q : Nat, s.heap.size ≤ q → bb_A s q := fun _ h => h
  have hbA : ¬ bb_A s b := Nat.not_le.mpr hbl
  have hK1 := hK.sub [0] (tys' := [(cA, .int)]) rfl
  have hjb : j < 512 := by omega
  have hl : lv_has ls 7 [(0, .ref b), (1, .ref h0), (2, .ref g0), (3, .ref o0), (4, .int (nI (4 * j)))] := hl
  have hP : va_P (dC, dI) vwCl [(g0, .inr (1, [.ref b0, .ref b1, .ref b2, .int k, .int th])), (b0, .inl (cA, 10, .inl w)), (b1, .inl (cA, 10, .inl pr)), (b2, .inl (cA, 310, .inl vt)), (h0, .inr (0, [.ref a0, .ref a1, .ref a2, .ref a3, .int k])), (a0, .inl (cA, 10, .inl w)), (a1, .inl (cA, 10, .inl pr)), (a2, .inl (cA, 31, .inl vo)), (a3, .inl (cA, 31, .inl vf)), (o0, .inl (cL, 1, .inr (.inl fo)))] H := hP
  have hD : va_D (bb_A s) [(g0, .inr (1, [.ref b0, .ref b1, .ref b2, .int k, .int th])), (b0, .inl (cA, 10, .inl w)), (b1, .inl (cA, 10, .inl pr)), (b2, .inl (cA, 310, .inl vt)), (h0, .inr (0, [.ref a0, .ref a1, .ref a2, .ref a3, .int k])), (a0, .inl (cA, 10, .inl w)), (a1, .inl (cA, 10, .inl pr)), (a2, .inl (cA, 31, .inl vo)), (a3, .inl (cA, 31, .inl vf)), (o0, .inl (cL, 1, .inr (.inl fo)))] := hD
  refine lv_aload_n hx hb dL_law_666 rfl (lv_at hl 1 rfl) ?_
  refine lv_aload_n hx hb dL_law_667 rfl (lv_at hl 0 rfl) ?_
  refine lv_iload hx hb dL_law_668 (lv_at hl 4 rfl) ?_
  refine lv_iconst (v := 1) hx hb dL_law_670 (by decide) ?_
  refine lv_iadd hx hb dL_law_671 ?_
  refine bb_topi (y := nI (4 * j + 1)) (bb_add1 j) ?_
  refine bb_sld hx hb hX hbl hbA hS (4 * j + 1) (by omega) hL e1 dL_law_672 ?_
  refine lv_aload_n hx hb dL_law_673 rfl (lv_at hl 3 rfl) ?_
  refine bb_cWf (As := [.ref h0, .int x0, .ref o0]) (rest := []) (r := 1) (pre := [(g0, .inr (1, [.ref b0, .ref b1, .ref b2, .int k, .int th])), (b0, .inl (cA, 10, .inl w)), (b1, .inl (cA, 10, .inl pr)), (b2, .inl (cA, 310, .inl vt))]) (wc := [(h0, .inr (0, [.ref a0, .ref a1, .ref a2, .ref a3, .int k])), (a0, .inl (cA, 10, .inl w)), (a1, .inl (cA, 10, .inl pr)), (a2, .inl (cA, 31, .inl vo)), (a3, .inl (cA, 31, .inl vf)), (o0, .inl (cL, 1, .inr (.inl fo)))]) (wc' := [(h0, .inr (0, [.ref a0, .ref a1, .ref a2, .ref a3, .int k])), (a0, .inl (cA, 10, .inl w)), (a1, .inl (cA, 10, .inl pr)), (a2, .inl (cA, 31, .inl vo)), (a3, .inl (cA, 31, .inl vf)), (o0, .inl (cL, 1, .inr (.inl fo)))]) (post := []) (Px := fun U => bb_TS s.heap.size U) ⟨hx, hb, hml, hown, hts⟩ (w_free1 l htr s.heap.size dC dI cA cL h0 a0 a1 a2 a3 o0 w pr vo vf k fo H.size x0 hbad) (bb_cw 3 hts gL_law_L_free rfl rfl rfl gS_law_L_free gT_law_L_free gI_law_L_free (by decide +kernel) ⟨Nat.le_of_ble_eq_true rfl, Nat.le_of_ble_eq_true rfl⟩) (fun a9 U9 g9 m9 q9 => bb_TS.same (u := U9) (U := U9.calling g9 m9 a9) rfl rfl q9) (fun U9 hU9 hW9 => hZ.mv hW9 (fun x9 h9 => by rw [hU9]; exact hS.2.1 x9 h9 (Nat.not_le.mpr h9))) hP hK hD hS hA rfl rfl hl.1 rfl (Nat.le_of_ble_eq_true rfl) dL_law_674 (by show _ ≤ 1046; omega) (by show _ ≤ 8687; omega) (fun H locs hP hD hS => ?_)
  have hP : va_P (dC, dI) vwCl [(g0, .inr (1, [.ref b0, .ref b1, .ref b2, .int k, .int th])), (b0, .inl (cA, 10, .inl w)), (b1, .inl (cA, 10, .inl pr)), (b2, .inl (cA, 310, .inl vt)), (h0, .inr (0, [.ref a0, .ref a1, .ref a2, .ref a3, .int k])), (a0, .inl (cA, 10, .inl w)), (a1, .inl (cA, 10, .inl pr)), (a2, .inl (cA, 31, .inl vo)), (a3, .inl (cA, 31, .inl vf)), (o0, .inl (cL, 1, .inr (.inl fo)))] H := hP
  have hD : va_D (bb_A s) [(g0, .inr (1, [.ref b0, .ref b1, .ref b2, .int k, .int th])), (b0, .inl (cA, 10, .inl w)), (b1, .inl (cA, 10, .inl pr)), (b2, .inl (cA, 310, .inl vt)), (h0, .inr (0, [.ref a0, .ref a1, .ref a2, .ref a3, .int k])), (a0, .inl (cA, 10, .inl w)), (a1, .inl (cA, 10, .inl pr)), (a2, .inl (cA, 31, .inl vo)), (a3, .inl (cA, 31, .inl vf)), (o0, .inl (cL, 1, .inr (.inl fo)))] := hD
  refine lv_istore (lv' := [(5, .int 1), (0, .ref b), (1, .ref h0), (2, .ref g0), (3, .ref o0), (4, .int (nI (4 * j)))]) hx hb dL_law_677 hl (by decide) rfl (fun ls hl => ?_)
  refine lv_aload_n hx hb dL_law_679 rfl (lv_at hl 3 rfl) ?_
  refine lv_aload_n hx hb dL_law_680 rfl (lv_at hl 1 rfl) ?_
  refine lv_iload hx hb dL_law_681 (lv_at hl 5 rfl) ?_
  refine lv_iconst (v := 1) hx hb dL_law_683 (by decide) ?_
  refine lv_iadd hx hb dL_law_684 ?_
  refine bb_topi (y := nI (4 * j + 1)) (bb_add1 j) ?_
  refine bb_sld hx hb hX hbl hbA hS (4 * j + 1) (by omega) hL e1 dL_law_685 ?_
  refine bb_cVf (As := [.int x0]) (rest := []) (r := 0) (pre := []) (wc := [(g0, .inr (1, [.ref b0, .ref b1, .ref b2, .int k, .int th])), (b0, .inl (cA, 10, .inl w)), (b1, .inl (cA, 10, .inl pr)), (b2, .inl (cA, 310, .inl vt))]) (post := [(h0, .inr (0, [.ref a0, .ref a1, .ref a2, .ref a3, .int k])), (a0, .inl (cA, 10, .inl w)), (a1, .inl (cA, 10, .inl pr)), (a2, .inl (cA, 31, .inl vo)), (a3, .inl (cA, 31, .inl vf)), (o0, .inl (cL, 1, .inr (.inl fo)))]) (wc' := [(g0, .inr (1, [.ref b0, .ref b1, .ref b2, .int k, .int 1])), (b0, .inl (cA, 10, .inl w)), (b1, .inl (cA, 10, .inl pr)), (b2, .inl (cA, 310, .inl vt))]) 0 ⟨hx, hb, hml, hown, hts⟩ (r_free1 l dC dI cA g0 b0 b1 b2 w pr vt k th H.size x0 hbad) (cwV 1 hts gL_law_X1_free rfl rfl rfl (by decide +kernel) ⟨Nat.le_of_ble_eq_true rfl, Nat.le_of_ble_eq_true rfl⟩) hP hK1 hD hS hA rfl rfl rfl rfl hl.1 rfl (Nat.le_of_ble_eq_true rfl) dL_law_686 (by show _ ≤ 1046; omega) (by show _ ≤ 8687; omega) (fun H locs hP hD hS => ?_)
  have hP : va_P (dC, dI) vwCl [(g0, .inr (1, [.ref b0, .ref b1, .ref b2, .int k, .int 1])), (b0, .inl (cA, 10, .inl w)), (b1, .inl (cA, 10, .inl pr)), (b2, .inl (cA, 310, .inl vt)), (h0, .inr (0, [.ref a0, .ref a1, .ref a2, .ref a3, .int k])), (a0, .inl (cA, 10, .inl w)), (a1, .inl (cA, 10, .inl pr)), (a2, .inl (cA, 31, .inl vo)), (a3, .inl (cA, 31, .inl vf)), (o0, .inl (cL, 1, .inr (.inl fo)))] H := hP
  have hD : va_D (bb_A s) [(g0, .inr (1, [.ref b0, .ref b1, .ref b2, .int k, .int 1])), (b0, .inl (cA, 10, .inl w)), (b1, .inl (cA, 10, .inl pr)), (b2, .inl (cA, 310, .inl vt)), (h0, .inr (0, [.ref a0, .ref a1, .ref a2, .ref a3, .int k])), (a0, .inl (cA, 10, .inl w)), (a1, .inl (cA, 10, .inl pr)), (a2, .inl (cA, 31, .inl vo)), (a3, .inl (cA, 31, .inl vf)), (o0, .inl (cL, 1, .inr (.inl fo)))] := hD
  refine lv_istore (lv' := [(6, .int 0), (5, .int 1), (0, .ref b), (1, .ref h0), (2, .ref g0), (3, .ref o0), (4, .int (nI (4 * j)))]) hx hb dL_law_689 hl (by decide) rfl (fun ls hl => ?_)
  refine lv_aload_n hx hb dL_law_691 rfl (lv_at hl 4 rfl) ?_
  have hPm : va_P (dC, dI) vwCl [(g0, .inr (1, [.ref b0, .ref b1, .ref b2, .int k, .int 1])), (b0, .inl (cA, 10, .inl w)), (b1, .inl (cA, 10, .inl pr)), (b2, .inl (cA, 310, .inl vt))] H := bb_Pmid (pre := []) (wc := [(g0, .inr (1, [.ref b0, .ref b1, .ref b2, .int k, .int 1])), (b0, .inl (cA, 10, .inl w)), (b1, .inl (cA, 10, .inl pr)), (b2, .inl (cA, 310, .inl vt))]) (post := [(h0, .inr (0, [.ref a0, .ref a1, .ref a2, .ref a3, .int k])), (a0, .inl (cA, 10, .inl w)), (a1, .inl (cA, 10, .inl pr)), (a2, .inl (cA, 31, .inl vo)), (a3, .inl (cA, 31, .inl vf)), (o0, .inl (cL, 1, .inr (.inl fo)))]) hP
  refine bb_cV (As := []) (rest := []) (r := 1) 0 ⟨hx, hb, hml, hown, hts⟩ (m_thrown l dC dI cA g0 b0 b1 b2 w pr vt k 1) (cwV 0 hts gL_law_X1_thrown rfl rfl rfl (by decide +kernel) ⟨Nat.le_of_ble_eq_true rfl, Nat.le_of_ble_eq_true rfl⟩) hPm hK1 rfl rfl rfl hl.1 rfl (Nat.le_of_ble_eq_true rfl) dL_law_692 (by show _ ≤ 1046; omega) (by show _ ≤ 8687; omega) ?_
  refine lv_iload hx hb dL_law_695 (lv_at hl 1 rfl) ?_
  refine lv_icmp_eq (tgt := 702) hx hb dL_law_697 rfl (fun h697 => ?_) (fun h697 => absurd rfl h697)
  refine lv_iload hx hb dL_law_702 (lv_at hl 1 rfl) ?_
  refine lv_if_ne (tgt := 719) hx hb dL_law_704 rfl (fun h704 => ?_) (fun h704 => absurd h704 (by decide))
  refine lv_goto (tgt := 993) hx hb dL_law_719 rfl ?_
  refine W.widen (k := 11 + j) (n := 429 + 6 * j) (by omega) (by omega) ?_
  exact K _ _ _ _ _ _ _ _ _ _ _ (hok) hP hD hS (lv_sub hl [2, 3, 4, 5, 6] rfl)

set_option maxHeartbeats 4000000 in
set_option maxRecDepth 100000 in
theorem L_enough {p : Program} {l : Launch} {e : Env} {s : State} {m : MethodId} {below : List Frame} {meth : Method} {c : Code} {Q : State → Prop} {b L : Nat} {xs : Nat → Int32} {dC : Nat → ClassId} {dI : Nat → Nat → Nat} {cA cL : ClassId} (X : bb_Cx p l s m c b L xs dC dI cA cL) {g0 b0 b1 b2 h0 a0 a1 a2 a3 o0 : Nat} {w pr vo vf vt : Nat → Int32} {k th : Int32} {fo : Nat → Int64} {H : Heap} {locs : List Loc} {ls : Array Slot} {j : Nat} (hj : 4 * j + 3 < L) (hok : bb_ok w k pr vo vf vt)
    (hP : va_P (dC, dI) vwCl (bb_F g0 b0 b1 b2 h0 a0 a1 a2 a3 o0 cA cL w pr vo vf vt k th fo) H) (hD : va_D (bb_A s) (bb_F g0 b0 b1 b2 h0 a0 a1 a2 a3 o0 cA cL w pr vo vf vt k th fo)) (hS : va_S (bb_A s) s.heap H locs) (hl : lv_has ls 7 (bb_ll b h0 g0 o0 j)) (K : bb_K p l e s m below meth c b dC dI cA cL g0 b0 b1 b2 h0 a0 a1 a2 a3 o0 j Q) (a : Nat) (ha0 : a < 1024) (e1 : xs (4 * j + 1) = nI a) : W p l e room_1 s m #[Value.ref b] below meth c H locs (10 + j) (423 + 6 * j) Q (F0 m 722 ls []) := by
  obtain ⟨hx, hb, hml, hown, hts, hX, hbl, hK, hZ, htr, hL⟩ := X
  have hA : ∀ q : Nat, s.heap.size ≤ q → bb_A s q := fun _ h => h
  have hbA : ¬ bb_A s b := Nat.not_le.mpr hbl
  have hK1 := hK.sub [0] (tys' := [(cA, .int)]) rfl
  have hjb : j < 512 := by omega
  have hl : lv_has ls 7 [(0, .ref b), (1, .ref h0), (2, .ref g0), (3, .ref o0), (4, .int (nI (4 * j)))] := hl
  have hP : va_P (dC, dI) vwCl [(g0, .inr (1, [.ref b0, .ref b1, .ref b2, .int k, .int th])), (b0, .inl (cA, 10, .inl w)), (b1, .inl (cA, 10, .inl pr)), (b2, .inl (cA, 310, .inl vt)), (h0, .inr (0, [.ref a0, .ref a1, .ref a2, .ref a3, .int k])), (a0, .inl (cA, 10, .inl w)), (a1, .inl (cA, 10, .inl pr)), (a2, .inl (cA, 31, .inl vo)), (a3, .inl (cA, 31, .inl vf)), (o0, .inl (cL, 1, .inr (.inl fo)))] H := hP
  have hD : va_D (bb_A s) [(g0, .inr (1, [.ref b0, .ref b1, .ref b2, .int k, .int th])), (b0, .inl (cA, 10, .inl w)), (b1, .inl (cA, 10, .inl pr)), (b2, .inl (cA, 310, .inl vt)), (h0, .inr (0, [.ref a0, .ref a1, .ref a2, .ref a3, .int k])), (a0, .inl (cA, 10, .inl w)), (a1, .inl (cA, 10, .inl pr)), (a2, .inl (cA, 31, .inl vo)), (a3, .inl (cA, 31, .inl vf)), (o0, .inl (cL, 1, .inr (.inl fo)))] := hD
  refine lv_aload_n hx hb dL_law_722 rfl (lv_at hl 1 rfl) ?_
  refine lv_aload_n hx hb dL_law_723 rfl (lv_at hl 0 rfl) ?_
  refine lv_iload hx hb dL_law_724 (lv_at hl 4 rfl) ?_
  refine lv_iconst (v := 1) hx hb dL_law_726 (by decide) ?_
  refine lv_iadd hx hb dL_law_727 ?_
  refine bb_topi (y := nI (4 * j + 1)) (bb_add1 j) ?_
  refine bb_sld hx hb hX hbl hbA hS (4 * j + 1) (by omega) hL e1 dL_law_728 ?_
  refine lv_aload_n hx hb dL_law_729 rfl (lv_at hl 3 rfl) ?_
  refine bb_cWf (As := [.ref h0, .int (nI a), .ref o0]) (rest := []) (r := 0) (pre := [(g0, .inr (1, [.ref b0, .ref b1, .ref b2, .int k, .int th])), (b0, .inl (cA, 10, .inl w)), (b1, .inl (cA, 10, .inl pr)), (b2, .inl (cA, 310, .inl vt))]) (wc := [(h0, .inr (0, [.ref a0, .ref a1, .ref a2, .ref a3, .int k])), (a0, .inl (cA, 10, .inl w)), (a1, .inl (cA, 10, .inl pr)), (a2, .inl (cA, 31, .inl vo)), (a3, .inl (cA, 31, .inl vf)), (o0, .inl (cL, 1, .inr (.inl fo)))]) (wc' := [(h0, .inr (0, [.ref a0, .ref a1, .ref a2, .ref a3, .int k])), (a0, .inl (cA, 10, .inl w)), (a1, .inl (cA, 10, .inl pr)), (a2, .inl (cA, 31, .inl vo)), (a3, .inl (cA, 31, .inl vf)), (o0, .inl (cL, 1, .inr (.inl (fun _ => bb_L (bb_en w k (nI a))))))]) (post := []) (Px := fun _ => True) ⟨hx, hb, hml, hown, hts⟩ (w_enough l dC dI cA cL h0 a0 a1 a2 a3 o0 w pr vo vf k fo H.size a ha0) (bb_cw 3 hts gL_law_L_enough rfl rfl rfl gS_law_L_enough gT_law_L_enough gI_law_L_enough (by decide +kernel) ⟨Nat.le_of_ble_eq_true rfl, Nat.le_of_ble_eq_true rfl⟩) (fun _ _ _ _ _ => trivial) (fun _ _ _ => trivial) hP hK hD hS hA rfl rfl hl.1 rfl (Nat.le_of_ble_eq_true rfl) dL_law_730 (by show _ ≤ 1046; omega) (by show _ ≤ 8687; omega) (fun H locs hP hD hS => ?_)
  have hP : va_P (dC, dI) vwCl [(g0, .inr (1, [.ref b0, .ref b1, .ref b2, .int k, .int th])), (b0, .inl (cA, 10, .inl w)), (b1, .inl (cA, 10, .inl pr)), (b2, .inl (cA, 310, .inl vt)), (h0, .inr (0, [.ref a0, .ref a1, .ref a2, .ref a3, .int k])), (a0, .inl (cA, 10, .inl w)), (a1, .inl (cA, 10, .inl pr)), (a2, .inl (cA, 31, .inl vo)), (a3, .inl (cA, 31, .inl vf)), (o0, .inl (cL, 1, .inr (.inl (fun _ => bb_L (bb_en w k (nI a))))))] H := hP
  have hD : va_D (bb_A s) [(g0, .inr (1, [.ref b0, .ref b1, .ref b2, .int k, .int th])), (b0, .inl (cA, 10, .inl w)), (b1, .inl (cA, 10, .inl pr)), (b2, .inl (cA, 310, .inl vt)), (h0, .inr (0, [.ref a0, .ref a1, .ref a2, .ref a3, .int k])), (a0, .inl (cA, 10, .inl w)), (a1, .inl (cA, 10, .inl pr)), (a2, .inl (cA, 31, .inl vo)), (a3, .inl (cA, 31, .inl vf)), (o0, .inl (cL, 1, .inr (.inl (fun _ => bb_L (bb_en w k (nI a))))))] := hD
  refine lv_istore (lv' := [(5, .int 0), (0, .ref b), (1, .ref h0), (2, .ref g0), (3, .ref o0), (4, .int (nI (4 * j)))]) hx hb dL_law_733 hl (by decide) rfl (fun ls hl => ?_)
  refine lv_aload_n hx hb dL_law_735 rfl (lv_at hl 3 rfl) ?_
  refine lv_aload_n hx hb dL_law_736 rfl (lv_at hl 1 rfl) ?_
  refine lv_iload hx hb dL_law_737 (lv_at hl 5 rfl) ?_
  refine lv_iconst (v := 1) hx hb dL_law_739 (by decide) ?_
  refine lv_iadd hx hb dL_law_740 ?_
  refine bb_topi (y := nI (4 * j + 1)) (bb_add1 j) ?_
  refine bb_sld hx hb hX hbl hbA hS (4 * j + 1) (by omega) hL e1 dL_law_741 ?_
  refine bb_cVf (As := [.int (nI a)]) (rest := []) (r := bb_I (bb_en w k (nI a))) (pre := []) (wc := [(g0, .inr (1, [.ref b0, .ref b1, .ref b2, .int k, .int th])), (b0, .inl (cA, 10, .inl w)), (b1, .inl (cA, 10, .inl pr)), (b2, .inl (cA, 310, .inl vt))]) (post := [(h0, .inr (0, [.ref a0, .ref a1, .ref a2, .ref a3, .int k])), (a0, .inl (cA, 10, .inl w)), (a1, .inl (cA, 10, .inl pr)), (a2, .inl (cA, 31, .inl vo)), (a3, .inl (cA, 31, .inl vf)), (o0, .inl (cL, 1, .inr (.inl (fun _ => bb_L (bb_en w k (nI a))))))]) (wc' := [(g0, .inr (1, [.ref b0, .ref b1, .ref b2, .int k, .int 0])), (b0, .inl (cA, 10, .inl w)), (b1, .inl (cA, 10, .inl pr)), (b2, .inl (cA, 310, .inl vt))]) 0 ⟨hx, hb, hml, hown, hts⟩ (r_enough l dC dI cA g0 b0 b1 b2 w pr vt k th H.size a ha0) (cwV 1 hts gL_law_X1_enough rfl rfl rfl (by decide +kernel) ⟨Nat.le_of_ble_eq_true rfl, Nat.le_of_ble_eq_true rfl⟩) hP hK1 hD hS hA rfl rfl rfl rfl hl.1 rfl (Nat.le_of_ble_eq_true rfl) dL_law_742 (by show _ ≤ 1046; omega) (by show _ ≤ 8687; omega) (fun H locs hP hD hS => ?_)
  have hP : va_P (dC, dI) vwCl [(g0, .inr (1, [.ref b0, .ref b1, .ref b2, .int k, .int 0])), (b0, .inl (cA, 10, .inl w)), (b1, .inl (cA, 10, .inl pr)), (b2, .inl (cA, 310, .inl vt)), (h0, .inr (0, [.ref a0, .ref a1, .ref a2, .ref a3, .int k])), (a0, .inl (cA, 10, .inl w)), (a1, .inl (cA, 10, .inl pr)), (a2, .inl (cA, 31, .inl vo)), (a3, .inl (cA, 31, .inl vf)), (o0, .inl (cL, 1, .inr (.inl (fun _ => bb_L (bb_en w k (nI a))))))] H := hP
  have hD : va_D (bb_A s) [(g0, .inr (1, [.ref b0, .ref b1, .ref b2, .int k, .int 0])), (b0, .inl (cA, 10, .inl w)), (b1, .inl (cA, 10, .inl pr)), (b2, .inl (cA, 310, .inl vt)), (h0, .inr (0, [.ref a0, .ref a1, .ref a2, .ref a3, .int k])), (a0, .inl (cA, 10, .inl w)), (a1, .inl (cA, 10, .inl pr)), (a2, .inl (cA, 31, .inl vo)), (a3, .inl (cA, 31, .inl vf)), (o0, .inl (cL, 1, .inr (.inl (fun _ => bb_L (bb_en w k (nI a))))))] := hD
  refine lv_istore (lv' := [(6, .int (bb_I (bb_en w k (nI a)))), (5, .int 0), (0, .ref b), (1, .ref h0), (2, .ref g0), (3, .ref o0), (4, .int (nI (4 * j)))]) hx hb dL_law_745 hl (by decide) rfl (fun ls hl => ?_)
  refine lv_aload_n hx hb dL_law_747 rfl (lv_at hl 4 rfl) ?_
  have hPm : va_P (dC, dI) vwCl [(g0, .inr (1, [.ref b0, .ref b1, .ref b2, .int k, .int 0])), (b0, .inl (cA, 10, .inl w)), (b1, .inl (cA, 10, .inl pr)), (b2, .inl (cA, 310, .inl vt))] H := bb_Pmid (pre := []) (wc := [(g0, .inr (1, [.ref b0, .ref b1, .ref b2, .int k, .int 0])), (b0, .inl (cA, 10, .inl w)), (b1, .inl (cA, 10, .inl pr)), (b2, .inl (cA, 310, .inl vt))]) (post := [(h0, .inr (0, [.ref a0, .ref a1, .ref a2, .ref a3, .int k])), (a0, .inl (cA, 10, .inl w)), (a1, .inl (cA, 10, .inl pr)), (a2, .inl (cA, 31, .inl vo)), (a3, .inl (cA, 31, .inl vf)), (o0, .inl (cL, 1, .inr (.inl (fun _ => bb_L (bb_en w k (nI a))))))]) hP
  refine bb_cV (As := []) (rest := []) (r := 0) 0 ⟨hx, hb, hml, hown, hts⟩ (m_thrown l dC dI cA g0 b0 b1 b2 w pr vt k 0) (cwV 0 hts gL_law_X1_thrown rfl rfl rfl (by decide +kernel) ⟨Nat.le_of_ble_eq_true rfl, Nat.le_of_ble_eq_true rfl⟩) hPm hK1 rfl rfl rfl hl.1 rfl (Nat.le_of_ble_eq_true rfl) dL_law_748 (by show _ ≤ 1046; omega) (by show _ ≤ 8687; omega) ?_
  refine lv_iload hx hb dL_law_751 (lv_at hl 1 rfl) ?_
  refine lv_icmp_eq (tgt := 758) hx hb dL_law_753 rfl (fun h753 => ?_) (fun h753 => absurd rfl h753)
  refine lv_iload hx hb dL_law_758 (lv_at hl 1 rfl) ?_
  refine lv_if_ne (tgt := 782) hx hb dL_law_760 rfl (fun h760 => absurd rfl h760) (fun h760 => ?_)
  refine lv_aload_n hx hb dL_law_763 rfl (lv_at hl 5 rfl) ?_
  refine lv_iconst (v := nI 0) hx hb dL_law_764 (by decide) ?_
  refine bb_lal hx hb hK hP 9 1 rfl rfl dL_law_765 ?_
  refine lv_iload hx hb dL_law_766 (lv_at hl 0 rfl) ?_
  refine lv_if_eq (tgt := 775) hx hb dL_law_768 rfl (fun h768 => ?_) (fun h768 => ?_)
  · skip
    have q768 := bb_I_0.mp h768
    refine lv_lconst (v := 0) hx hb dL_law_775 (by decide) ?_
    refine W.lcmp hx hb dL_law_776 ?_
    refine bb_topi (y := 0) (bb_cmp2 q768) ?_
    refine lv_if_eq (tgt := 782) hx hb dL_law_777 rfl (fun h777 => ?_) (fun h777 => absurd rfl h777)
    refine lv_goto (tgt := 993) hx hb dL_law_782 rfl ?_
    refine W.widen (k := 11 + j) (n := 429 + 6 * j) (by omega) (by omega) ?_
    exact K _ _ _ _ _ _ _ _ _ _ _ (hok) hP hD hS (lv_sub hl [2, 3, 4, 5, 6] rfl)
  · skip
    have q768 := bb_nz h768
    refine lv_lconst (v := 1) hx hb dL_law_771 (by decide) ?_
    refine lv_goto (tgt := 776) hx hb dL_law_772 rfl ?_
    refine W.lcmp hx hb dL_law_776 ?_
    refine bb_topi (y := 0) (bb_cmp1 q768) ?_
    refine lv_if_eq (tgt := 782) hx hb dL_law_777 rfl (fun h777 => ?_) (fun h777 => absurd rfl h777)
    refine lv_goto (tgt := 993) hx hb dL_law_782 rfl ?_
    refine W.widen (k := 11 + j) (n := 429 + 6 * j) (by omega) (by omega) ?_
    exact K _ _ _ _ _ _ _ _ _ _ _ (hok) hP hD hS (lv_sub hl [2, 3, 4, 5, 6] rfl)

set_option maxHeartbeats 4000000 in
set_option maxRecDepth 100000 in
theorem L_enough1 {p : Program} {l : Launch} {e : Env} {s : State} {m : MethodId} {below : List Frame} {meth : Method} {c : Code} {Q : State → Prop} {b L : Nat} {xs : Nat → Int32} {dC : Nat → ClassId} {dI : Nat → Nat → Nat} {cA cL : ClassId} (X : bb_Cx p l s m c b L xs dC dI cA cL) {g0 b0 b1 b2 h0 a0 a1 a2 a3 o0 : Nat} {w pr vo vf vt : Nat → Int32} {k th : Int32} {fo : Nat → Int64} {H : Heap} {locs : List Loc} {ls : Array Slot} {j : Nat} (hj : 4 * j + 3 < L) (hok : bb_ok w k pr vo vf vt)
    (hP : va_P (dC, dI) vwCl (bb_F g0 b0 b1 b2 h0 a0 a1 a2 a3 o0 cA cL w pr vo vf vt k th fo) H) (hD : va_D (bb_A s) (bb_F g0 b0 b1 b2 h0 a0 a1 a2 a3 o0 cA cL w pr vo vf vt k th fo)) (hS : va_S (bb_A s) s.heap H locs) (hl : lv_has ls 7 (bb_ll b h0 g0 o0 j)) (K : bb_K p l e s m below meth c b dC dI cA cL g0 b0 b1 b2 h0 a0 a1 a2 a3 o0 j Q) (x0 : Int32) (hbad : bb_out x0 (nI 1024) = true) (e1 : xs (4 * j + 1) = x0) : W p l e room_1 s m #[Value.ref b] below meth c H locs (10 + j) (423 + 6 * j) Q (F0 m 722 ls []) := by
  obtain ⟨hx, hb, hml, hown, hts, hX, hbl, hK, hZ, htr, hL⟩ := X
  have hA : ∀ q : Nat, s.heap.size ≤ q → bb_A s q := fun _ h => h
  have hbA : ¬ bb_A s b := Nat.not_le.mpr hbl
  have hK1 := hK.sub [0] (tys' := [(cA, .int)]) rfl
  have hjb : j < 512 := by omega
  have hl : lv_has ls 7 [(0, .ref b), (1, .ref h0), (2, .ref g0), (3, .ref o0), (4, .int (nI (4 * j)))] := hl
  have hP : va_P (dC, dI) vwCl [(g0, .inr (1, [.ref b0, .ref b1, .ref b2, .int k, .int th])), (b0, .inl (cA, 10, .inl w)), (b1, .inl (cA, 10, .inl pr)), (b2, .inl (cA, 310, .inl vt)), (h0, .inr (0, [.ref a0, .ref a1, .ref a2, .ref a3, .int k])), (a0, .inl (cA, 10, .inl w)), (a1, .inl (cA, 10, .inl pr)), (a2, .inl (cA, 31, .inl vo)), (a3, .inl (cA, 31, .inl vf)), (o0, .inl (cL, 1, .inr (.inl fo)))] H := hP
  have hD : va_D (bb_A s) [(g0, .inr (1, [.ref b0, .ref b1, .ref b2, .int k, .int th])), (b0, .inl (cA, 10, .inl w)), (b1, .inl (cA, 10, .inl pr)), (b2, .inl (cA, 310, .inl vt)), (h0, .inr (0, [.ref a0, .ref a1, .ref a2, .ref a3, .int k])), (a0, .inl (cA, 10, .inl w)), (a1, .inl (cA, 10, .inl pr)), (a2, .inl (cA, 31, .inl vo)), (a3, .inl (cA, 31, .inl vf)), (o0, .inl (cL, 1, .inr (.inl fo)))] := hD
  refine lv_aload_n hx hb dL_law_722 rfl (lv_at hl 1 rfl) ?_
  refine lv_aload_n hx hb dL_law_723 rfl (lv_at hl 0 rfl) ?_
  refine lv_iload hx hb dL_law_724 (lv_at hl 4 rfl) ?_
  refine lv_iconst (v := 1) hx hb dL_law_726 (by decide) ?_
  refine lv_iadd hx hb dL_law_727 ?_
  refine bb_topi (y := nI (4 * j + 1)) (bb_add1 j) ?_
  refine bb_sld hx hb hX hbl hbA hS (4 * j + 1) (by omega) hL e1 dL_law_728 ?_
  refine lv_aload_n hx hb dL_law_729 rfl (lv_at hl 3 rfl) ?_
  refine bb_cWf (As := [.ref h0, .int x0, .ref o0]) (rest := []) (r := 1) (pre := [(g0, .inr (1, [.ref b0, .ref b1, .ref b2, .int k, .int th])), (b0, .inl (cA, 10, .inl w)), (b1, .inl (cA, 10, .inl pr)), (b2, .inl (cA, 310, .inl vt))]) (wc := [(h0, .inr (0, [.ref a0, .ref a1, .ref a2, .ref a3, .int k])), (a0, .inl (cA, 10, .inl w)), (a1, .inl (cA, 10, .inl pr)), (a2, .inl (cA, 31, .inl vo)), (a3, .inl (cA, 31, .inl vf)), (o0, .inl (cL, 1, .inr (.inl fo)))]) (wc' := [(h0, .inr (0, [.ref a0, .ref a1, .ref a2, .ref a3, .int k])), (a0, .inl (cA, 10, .inl w)), (a1, .inl (cA, 10, .inl pr)), (a2, .inl (cA, 31, .inl vo)), (a3, .inl (cA, 31, .inl vf)), (o0, .inl (cL, 1, .inr (.inl fo)))]) (post := []) (Px := fun U => bb_TS s.heap.size U) ⟨hx, hb, hml, hown, hts⟩ (w_enough1 l htr s.heap.size dC dI cA cL h0 a0 a1 a2 a3 o0 w pr vo vf k fo H.size x0 hbad) (bb_cw 3 hts gL_law_L_enough rfl rfl rfl gS_law_L_enough gT_law_L_enough gI_law_L_enough (by decide +kernel) ⟨Nat.le_of_ble_eq_true rfl, Nat.le_of_ble_eq_true rfl⟩) (fun a9 U9 g9 m9 q9 => bb_TS.same (u := U9) (U := U9.calling g9 m9 a9) rfl rfl q9) (fun U9 hU9 hW9 => hZ.mv hW9 (fun x9 h9 => by rw [hU9]; exact hS.2.1 x9 h9 (Nat.not_le.mpr h9))) hP hK hD hS hA rfl rfl hl.1 rfl (Nat.le_of_ble_eq_true rfl) dL_law_730 (by show _ ≤ 1046; omega) (by show _ ≤ 8687; omega) (fun H locs hP hD hS => ?_)
  have hP : va_P (dC, dI) vwCl [(g0, .inr (1, [.ref b0, .ref b1, .ref b2, .int k, .int th])), (b0, .inl (cA, 10, .inl w)), (b1, .inl (cA, 10, .inl pr)), (b2, .inl (cA, 310, .inl vt)), (h0, .inr (0, [.ref a0, .ref a1, .ref a2, .ref a3, .int k])), (a0, .inl (cA, 10, .inl w)), (a1, .inl (cA, 10, .inl pr)), (a2, .inl (cA, 31, .inl vo)), (a3, .inl (cA, 31, .inl vf)), (o0, .inl (cL, 1, .inr (.inl fo)))] H := hP
  have hD : va_D (bb_A s) [(g0, .inr (1, [.ref b0, .ref b1, .ref b2, .int k, .int th])), (b0, .inl (cA, 10, .inl w)), (b1, .inl (cA, 10, .inl pr)), (b2, .inl (cA, 310, .inl vt)), (h0, .inr (0, [.ref a0, .ref a1, .ref a2, .ref a3, .int k])), (a0, .inl (cA, 10, .inl w)), (a1, .inl (cA, 10, .inl pr)), (a2, .inl (cA, 31, .inl vo)), (a3, .inl (cA, 31, .inl vf)), (o0, .inl (cL, 1, .inr (.inl fo)))] := hD
  refine lv_istore (lv' := [(5, .int 1), (0, .ref b), (1, .ref h0), (2, .ref g0), (3, .ref o0), (4, .int (nI (4 * j)))]) hx hb dL_law_733 hl (by decide) rfl (fun ls hl => ?_)
  refine lv_aload_n hx hb dL_law_735 rfl (lv_at hl 3 rfl) ?_
  refine lv_aload_n hx hb dL_law_736 rfl (lv_at hl 1 rfl) ?_
  refine lv_iload hx hb dL_law_737 (lv_at hl 5 rfl) ?_
  refine lv_iconst (v := 1) hx hb dL_law_739 (by decide) ?_
  refine lv_iadd hx hb dL_law_740 ?_
  refine bb_topi (y := nI (4 * j + 1)) (bb_add1 j) ?_
  refine bb_sld hx hb hX hbl hbA hS (4 * j + 1) (by omega) hL e1 dL_law_741 ?_
  refine bb_cVf (As := [.int x0]) (rest := []) (r := 0) (pre := []) (wc := [(g0, .inr (1, [.ref b0, .ref b1, .ref b2, .int k, .int th])), (b0, .inl (cA, 10, .inl w)), (b1, .inl (cA, 10, .inl pr)), (b2, .inl (cA, 310, .inl vt))]) (post := [(h0, .inr (0, [.ref a0, .ref a1, .ref a2, .ref a3, .int k])), (a0, .inl (cA, 10, .inl w)), (a1, .inl (cA, 10, .inl pr)), (a2, .inl (cA, 31, .inl vo)), (a3, .inl (cA, 31, .inl vf)), (o0, .inl (cL, 1, .inr (.inl fo)))]) (wc' := [(g0, .inr (1, [.ref b0, .ref b1, .ref b2, .int k, .int 1])), (b0, .inl (cA, 10, .inl w)), (b1, .inl (cA, 10, .inl pr)), (b2, .inl (cA, 310, .inl vt))]) 0 ⟨hx, hb, hml, hown, hts⟩ (r_enough1 l dC dI cA g0 b0 b1 b2 w pr vt k th H.size x0 hbad) (cwV 1 hts gL_law_X1_enough rfl rfl rfl (by decide +kernel) ⟨Nat.le_of_ble_eq_true rfl, Nat.le_of_ble_eq_true rfl⟩) hP hK1 hD hS hA rfl rfl rfl rfl hl.1 rfl (Nat.le_of_ble_eq_true rfl) dL_law_742 (by show _ ≤ 1046; omega) (by show _ ≤ 8687; omega) (fun H locs hP hD hS => ?_)
  have hP : va_P (dC, dI) vwCl [(g0, .inr (1, [.ref b0, .ref b1, .ref b2, .int k, .int 1])), (b0, .inl (cA, 10, .inl w)), (b1, .inl (cA, 10, .inl pr)), (b2, .inl (cA, 310, .inl vt)), (h0, .inr (0, [.ref a0, .ref a1, .ref a2, .ref a3, .int k])), (a0, .inl (cA, 10, .inl w)), (a1, .inl (cA, 10, .inl pr)), (a2, .inl (cA, 31, .inl vo)), (a3, .inl (cA, 31, .inl vf)), (o0, .inl (cL, 1, .inr (.inl fo)))] H := hP
  have hD : va_D (bb_A s) [(g0, .inr (1, [.ref b0, .ref b1, .ref b2, .int k, .int 1])), (b0, .inl (cA, 10, .inl w)), (b1, .inl (cA, 10, .inl pr)), (b2, .inl (cA, 310, .inl vt)), (h0, .inr (0, [.ref a0, .ref a1, .ref a2, .ref a3, .int k])), (a0, .inl (cA, 10, .inl w)), (a1, .inl (cA, 10, .inl pr)), (a2, .inl (cA, 31, .inl vo)), (a3, .inl (cA, 31, .inl vf)), (o0, .inl (cL, 1, .inr (.inl fo)))] := hD
  refine lv_istore (lv' := [(6, .int 0), (5, .int 1), (0, .ref b), (1, .ref h0), (2, .ref g0), (3, .ref o0), (4, .int (nI (4 * j)))]) hx hb dL_law_745 hl (by decide) rfl (fun ls hl => ?_)
  refine lv_aload_n hx hb dL_law_747 rfl (lv_at hl 4 rfl) ?_
  have hPm : va_P (dC, dI) vwCl [(g0, .inr (1, [.ref b0, .ref b1, .ref b2, .int k, .int 1])), (b0, .inl (cA, 10, .inl w)), (b1, .inl (cA, 10, .inl pr)), (b2, .inl (cA, 310, .inl vt))] H := bb_Pmid (pre := []) (wc := [(g0, .inr (1, [.ref b0, .ref b1, .ref b2, .int k, .int 1])), (b0, .inl (cA, 10, .inl w)), (b1, .inl (cA, 10, .inl pr)), (b2, .inl (cA, 310, .inl vt))]) (post := [(h0, .inr (0, [.ref a0, .ref a1, .ref a2, .ref a3, .int k])), (a0, .inl (cA, 10, .inl w)), (a1, .inl (cA, 10, .inl pr)), (a2, .inl (cA, 31, .inl vo)), (a3, .inl (cA, 31, .inl vf)), (o0, .inl (cL, 1, .inr (.inl fo)))]) hP
  refine bb_cV (As := []) (rest := []) (r := 1) 0 ⟨hx, hb, hml, hown, hts⟩ (m_thrown l dC dI cA g0 b0 b1 b2 w pr vt k 1) (cwV 0 hts gL_law_X1_thrown rfl rfl rfl (by decide +kernel) ⟨Nat.le_of_ble_eq_true rfl, Nat.le_of_ble_eq_true rfl⟩) hPm hK1 rfl rfl rfl hl.1 rfl (Nat.le_of_ble_eq_true rfl) dL_law_748 (by show _ ≤ 1046; omega) (by show _ ≤ 8687; omega) ?_
  refine lv_iload hx hb dL_law_751 (lv_at hl 1 rfl) ?_
  refine lv_icmp_eq (tgt := 758) hx hb dL_law_753 rfl (fun h753 => ?_) (fun h753 => absurd rfl h753)
  refine lv_iload hx hb dL_law_758 (lv_at hl 1 rfl) ?_
  refine lv_if_ne (tgt := 782) hx hb dL_law_760 rfl (fun h760 => ?_) (fun h760 => absurd h760 (by decide))
  refine lv_goto (tgt := 993) hx hb dL_law_782 rfl ?_
  refine W.widen (k := 11 + j) (n := 429 + 6 * j) (by omega) (by omega) ?_
  exact K _ _ _ _ _ _ _ _ _ _ _ (hok) hP hD hS (lv_sub hl [2, 3, 4, 5, 6] rfl)

set_option maxHeartbeats 4000000 in
set_option maxRecDepth 100000 in
theorem L_blocks {p : Program} {l : Launch} {e : Env} {s : State} {m : MethodId} {below : List Frame} {meth : Method} {c : Code} {Q : State → Prop} {b L : Nat} {xs : Nat → Int32} {dC : Nat → ClassId} {dI : Nat → Nat → Nat} {cA cL : ClassId} (X : bb_Cx p l s m c b L xs dC dI cA cL) {g0 b0 b1 b2 h0 a0 a1 a2 a3 o0 : Nat} {w pr vo vf vt : Nat → Int32} {k th : Int32} {fo : Nat → Int64} {H : Heap} {locs : List Loc} {ls : Array Slot} {j : Nat} (hj : 4 * j + 3 < L) (hok : bb_ok w k pr vo vf vt)
    (hP : va_P (dC, dI) vwCl (bb_F g0 b0 b1 b2 h0 a0 a1 a2 a3 o0 cA cL w pr vo vf vt k th fo) H) (hD : va_D (bb_A s) (bb_F g0 b0 b1 b2 h0 a0 a1 a2 a3 o0 cA cL w pr vo vf vt k th fo)) (hS : va_S (bb_A s) s.heap H locs) (hl : lv_has ls 7 (bb_ll b h0 g0 o0 j)) (K : bb_K p l e s m below meth c b dC dI cA cL g0 b0 b1 b2 h0 a0 a1 a2 a3 o0 j Q) (a : Nat) (ha0 : a < 1024) (e1 : xs (4 * j + 1) = nI a) : W p l e room_1 s m #[Value.ref b] below meth c H locs (10 + j) (423 + 6 * j) Q (F0 m 785 ls []) := by
  obtain ⟨hx, hb, hml, hown, hts, hX, hbl, hK, hZ, htr, hL⟩ := X
  have hA : ∀ q : Nat, s.heap.size ≤ q → bb_A s q := fun _ h => h
  have hbA : ¬ bb_A s b := Nat.not_le.mpr hbl
  have hK1 := hK.sub [0] (tys' := [(cA, .int)]) rfl
  have hjb : j < 512 := by omega
  have hl : lv_has ls 7 [(0, .ref b), (1, .ref h0), (2, .ref g0), (3, .ref o0), (4, .int (nI (4 * j)))] := hl
  have hP : va_P (dC, dI) vwCl [(g0, .inr (1, [.ref b0, .ref b1, .ref b2, .int k, .int th])), (b0, .inl (cA, 10, .inl w)), (b1, .inl (cA, 10, .inl pr)), (b2, .inl (cA, 310, .inl vt)), (h0, .inr (0, [.ref a0, .ref a1, .ref a2, .ref a3, .int k])), (a0, .inl (cA, 10, .inl w)), (a1, .inl (cA, 10, .inl pr)), (a2, .inl (cA, 31, .inl vo)), (a3, .inl (cA, 31, .inl vf)), (o0, .inl (cL, 1, .inr (.inl fo)))] H := hP
  have hD : va_D (bb_A s) [(g0, .inr (1, [.ref b0, .ref b1, .ref b2, .int k, .int th])), (b0, .inl (cA, 10, .inl w)), (b1, .inl (cA, 10, .inl pr)), (b2, .inl (cA, 310, .inl vt)), (h0, .inr (0, [.ref a0, .ref a1, .ref a2, .ref a3, .int k])), (a0, .inl (cA, 10, .inl w)), (a1, .inl (cA, 10, .inl pr)), (a2, .inl (cA, 31, .inl vo)), (a3, .inl (cA, 31, .inl vf)), (o0, .inl (cL, 1, .inr (.inl fo)))] := hD
  refine lv_aload_n hx hb dL_law_785 rfl (lv_at hl 1 rfl) ?_
  refine lv_aload_n hx hb dL_law_786 rfl (lv_at hl 0 rfl) ?_
  refine lv_iload hx hb dL_law_787 (lv_at hl 4 rfl) ?_
  refine lv_iconst (v := 1) hx hb dL_law_789 (by decide) ?_
  refine lv_iadd hx hb dL_law_790 ?_
  refine bb_topi (y := nI (4 * j + 1)) (bb_add1 j) ?_
  refine bb_sld hx hb hX hbl hbA hS (4 * j + 1) (by omega) hL e1 dL_law_791 ?_
  refine lv_aload_n hx hb dL_law_792 rfl (lv_at hl 3 rfl) ?_
  refine bb_cWf (As := [.ref h0, .int (nI a), .ref o0]) (rest := []) (r := 0) (pre := [(g0, .inr (1, [.ref b0, .ref b1, .ref b2, .int k, .int th])), (b0, .inl (cA, 10, .inl w)), (b1, .inl (cA, 10, .inl pr)), (b2, .inl (cA, 310, .inl vt))]) (wc := [(h0, .inr (0, [.ref a0, .ref a1, .ref a2, .ref a3, .int k])), (a0, .inl (cA, 10, .inl w)), (a1, .inl (cA, 10, .inl pr)), (a2, .inl (cA, 31, .inl vo)), (a3, .inl (cA, 31, .inl vf)), (o0, .inl (cL, 1, .inr (.inl fo)))]) (wc' := [(h0, .inr (0, [.ref a0, .ref a1, .ref a2, .ref a3, .int k])), (a0, .inl (cA, 10, .inl w)), (a1, .inl (cA, 10, .inl pr)), (a2, .inl (cA, 31, .inl vo)), (a3, .inl (cA, 31, .inl vf)), (o0, .inl (cL, 1, .inr (.inl (fun _ => bb_L (!bb_en w k (1023 &&& bb_not (nI a)))))))]) (post := []) (Px := fun _ => True) ⟨hx, hb, hml, hown, hts⟩ (w_blocks l dC dI cA cL h0 a0 a1 a2 a3 o0 w pr vo vf k fo H.size a ha0) (bb_cw 3 hts gL_law_L_blocks rfl rfl rfl gS_law_L_blocks gT_law_L_blocks gI_law_L_blocks (by decide +kernel) ⟨Nat.le_of_ble_eq_true rfl, Nat.le_of_ble_eq_true rfl⟩) (fun _ _ _ _ _ => trivial) (fun _ _ _ => trivial) hP hK hD hS hA rfl rfl hl.1 rfl (Nat.le_of_ble_eq_true rfl) dL_law_793 (by show _ ≤ 1046; omega) (by show _ ≤ 8687; omega) (fun H locs hP hD hS => ?_)
  have hP : va_P (dC, dI) vwCl [(g0, .inr (1, [.ref b0, .ref b1, .ref b2, .int k, .int th])), (b0, .inl (cA, 10, .inl w)), (b1, .inl (cA, 10, .inl pr)), (b2, .inl (cA, 310, .inl vt)), (h0, .inr (0, [.ref a0, .ref a1, .ref a2, .ref a3, .int k])), (a0, .inl (cA, 10, .inl w)), (a1, .inl (cA, 10, .inl pr)), (a2, .inl (cA, 31, .inl vo)), (a3, .inl (cA, 31, .inl vf)), (o0, .inl (cL, 1, .inr (.inl (fun _ => bb_L (!bb_en w k (1023 &&& bb_not (nI a)))))))] H := hP
  have hD : va_D (bb_A s) [(g0, .inr (1, [.ref b0, .ref b1, .ref b2, .int k, .int th])), (b0, .inl (cA, 10, .inl w)), (b1, .inl (cA, 10, .inl pr)), (b2, .inl (cA, 310, .inl vt)), (h0, .inr (0, [.ref a0, .ref a1, .ref a2, .ref a3, .int k])), (a0, .inl (cA, 10, .inl w)), (a1, .inl (cA, 10, .inl pr)), (a2, .inl (cA, 31, .inl vo)), (a3, .inl (cA, 31, .inl vf)), (o0, .inl (cL, 1, .inr (.inl (fun _ => bb_L (!bb_en w k (1023 &&& bb_not (nI a)))))))] := hD
  refine lv_istore (lv' := [(5, .int 0), (0, .ref b), (1, .ref h0), (2, .ref g0), (3, .ref o0), (4, .int (nI (4 * j)))]) hx hb dL_law_796 hl (by decide) rfl (fun ls hl => ?_)
  refine lv_aload_n hx hb dL_law_798 rfl (lv_at hl 3 rfl) ?_
  refine lv_aload_n hx hb dL_law_799 rfl (lv_at hl 1 rfl) ?_
  refine lv_iload hx hb dL_law_800 (lv_at hl 5 rfl) ?_
  refine lv_iconst (v := 1) hx hb dL_law_802 (by decide) ?_
  refine lv_iadd hx hb dL_law_803 ?_
  refine bb_topi (y := nI (4 * j + 1)) (bb_add1 j) ?_
  refine bb_sld hx hb hX hbl hbA hS (4 * j + 1) (by omega) hL e1 dL_law_804 ?_
  refine bb_cVf (As := [.int (nI a)]) (rest := []) (r := bb_I (bb_al (fun x9 => !(bb_en w k (nI x9) && decide (nI x9 &&& nI a = 0))) 1024)) (pre := []) (wc := [(g0, .inr (1, [.ref b0, .ref b1, .ref b2, .int k, .int th])), (b0, .inl (cA, 10, .inl w)), (b1, .inl (cA, 10, .inl pr)), (b2, .inl (cA, 310, .inl vt))]) (post := [(h0, .inr (0, [.ref a0, .ref a1, .ref a2, .ref a3, .int k])), (a0, .inl (cA, 10, .inl w)), (a1, .inl (cA, 10, .inl pr)), (a2, .inl (cA, 31, .inl vo)), (a3, .inl (cA, 31, .inl vf)), (o0, .inl (cL, 1, .inr (.inl (fun _ => bb_L (!bb_en w k (1023 &&& bb_not (nI a)))))))]) (wc' := [(g0, .inr (1, [.ref b0, .ref b1, .ref b2, .int k, .int 0])), (b0, .inl (cA, 10, .inl w)), (b1, .inl (cA, 10, .inl pr)), (b2, .inl (cA, 310, .inl vt))]) 0 ⟨hx, hb, hml, hown, hts⟩ (r_blocks l dC dI cA g0 b0 b1 b2 w pr vt k th H.size a ha0) (cwV 1 hts gL_law_X1_blocks rfl rfl rfl (by decide +kernel) ⟨Nat.le_of_ble_eq_true rfl, Nat.le_of_ble_eq_true rfl⟩) hP hK1 hD hS hA rfl rfl rfl rfl hl.1 rfl (Nat.le_of_ble_eq_true rfl) dL_law_805 (by show _ ≤ 1046; omega) (by show _ ≤ 8687; omega) (fun H locs hP hD hS => ?_)
  have hP : va_P (dC, dI) vwCl [(g0, .inr (1, [.ref b0, .ref b1, .ref b2, .int k, .int 0])), (b0, .inl (cA, 10, .inl w)), (b1, .inl (cA, 10, .inl pr)), (b2, .inl (cA, 310, .inl vt)), (h0, .inr (0, [.ref a0, .ref a1, .ref a2, .ref a3, .int k])), (a0, .inl (cA, 10, .inl w)), (a1, .inl (cA, 10, .inl pr)), (a2, .inl (cA, 31, .inl vo)), (a3, .inl (cA, 31, .inl vf)), (o0, .inl (cL, 1, .inr (.inl (fun _ => bb_L (!bb_en w k (1023 &&& bb_not (nI a)))))))] H := hP
  have hD : va_D (bb_A s) [(g0, .inr (1, [.ref b0, .ref b1, .ref b2, .int k, .int 0])), (b0, .inl (cA, 10, .inl w)), (b1, .inl (cA, 10, .inl pr)), (b2, .inl (cA, 310, .inl vt)), (h0, .inr (0, [.ref a0, .ref a1, .ref a2, .ref a3, .int k])), (a0, .inl (cA, 10, .inl w)), (a1, .inl (cA, 10, .inl pr)), (a2, .inl (cA, 31, .inl vo)), (a3, .inl (cA, 31, .inl vf)), (o0, .inl (cL, 1, .inr (.inl (fun _ => bb_L (!bb_en w k (1023 &&& bb_not (nI a)))))))] := hD
  refine bb_topi (y := bb_I (!bb_en w k (1023 &&& bb_not (nI a)))) (congrArg bb_I (bb_e_blocks hok.1 hok.2.1)) ?_
  refine lv_istore (lv' := [(6, .int (bb_I (!bb_en w k (1023 &&& bb_not (nI a))))), (5, .int 0), (0, .ref b), (1, .ref h0), (2, .ref g0), (3, .ref o0), (4, .int (nI (4 * j)))]) hx hb dL_law_808 hl (by decide) rfl (fun ls hl => ?_)
  refine lv_aload_n hx hb dL_law_810 rfl (lv_at hl 4 rfl) ?_
  have hPm : va_P (dC, dI) vwCl [(g0, .inr (1, [.ref b0, .ref b1, .ref b2, .int k, .int 0])), (b0, .inl (cA, 10, .inl w)), (b1, .inl (cA, 10, .inl pr)), (b2, .inl (cA, 310, .inl vt))] H := bb_Pmid (pre := []) (wc := [(g0, .inr (1, [.ref b0, .ref b1, .ref b2, .int k, .int 0])), (b0, .inl (cA, 10, .inl w)), (b1, .inl (cA, 10, .inl pr)), (b2, .inl (cA, 310, .inl vt))]) (post := [(h0, .inr (0, [.ref a0, .ref a1, .ref a2, .ref a3, .int k])), (a0, .inl (cA, 10, .inl w)), (a1, .inl (cA, 10, .inl pr)), (a2, .inl (cA, 31, .inl vo)), (a3, .inl (cA, 31, .inl vf)), (o0, .inl (cL, 1, .inr (.inl (fun _ => bb_L (!bb_en w k (1023 &&& bb_not (nI a)))))))]) hP
  refine bb_cV (As := []) (rest := []) (r := 0) 0 ⟨hx, hb, hml, hown, hts⟩ (m_thrown l dC dI cA g0 b0 b1 b2 w pr vt k 0) (cwV 0 hts gL_law_X1_thrown rfl rfl rfl (by decide +kernel) ⟨Nat.le_of_ble_eq_true rfl, Nat.le_of_ble_eq_true rfl⟩) hPm hK1 rfl rfl rfl hl.1 rfl (Nat.le_of_ble_eq_true rfl) dL_law_811 (by show _ ≤ 1046; omega) (by show _ ≤ 8687; omega) ?_
  refine lv_iload hx hb dL_law_814 (lv_at hl 1 rfl) ?_
  refine lv_icmp_eq (tgt := 821) hx hb dL_law_816 rfl (fun h816 => ?_) (fun h816 => absurd rfl h816)
  refine lv_iload hx hb dL_law_821 (lv_at hl 1 rfl) ?_
  refine lv_if_ne (tgt := 845) hx hb dL_law_823 rfl (fun h823 => absurd rfl h823) (fun h823 => ?_)
  refine lv_aload_n hx hb dL_law_826 rfl (lv_at hl 5 rfl) ?_
  refine lv_iconst (v := nI 0) hx hb dL_law_827 (by decide) ?_
  refine bb_lal hx hb hK hP 9 1 rfl rfl dL_law_828 ?_
  refine lv_iload hx hb dL_law_829 (lv_at hl 0 rfl) ?_
  refine lv_if_eq (tgt := 838) hx hb dL_law_831 rfl (fun h831 => ?_) (fun h831 => ?_)
  · skip
    have q831 := bb_I_0.mp h831
    refine lv_lconst (v := 0) hx hb dL_law_838 (by decide) ?_
    refine W.lcmp hx hb dL_law_839 ?_
    refine bb_topi (y := 0) (bb_cmp2 q831) ?_
    refine lv_if_eq (tgt := 845) hx hb dL_law_840 rfl (fun h840 => ?_) (fun h840 => absurd rfl h840)
    refine lv_goto (tgt := 993) hx hb dL_law_845 rfl ?_
    refine W.widen (k := 11 + j) (n := 429 + 6 * j) (by omega) (by omega) ?_
    exact K _ _ _ _ _ _ _ _ _ _ _ (hok) hP hD hS (lv_sub hl [2, 3, 4, 5, 6] rfl)
  · skip
    have q831 := bb_nz h831
    refine lv_lconst (v := 1) hx hb dL_law_834 (by decide) ?_
    refine lv_goto (tgt := 839) hx hb dL_law_835 rfl ?_
    refine W.lcmp hx hb dL_law_839 ?_
    refine bb_topi (y := 0) (bb_cmp1 q831) ?_
    refine lv_if_eq (tgt := 845) hx hb dL_law_840 rfl (fun h840 => ?_) (fun h840 => absurd rfl h840)
    refine lv_goto (tgt := 993) hx hb dL_law_845 rfl ?_
    refine W.widen (k := 11 + j) (n := 429 + 6 * j) (by omega) (by omega) ?_
    exact K _ _ _ _ _ _ _ _ _ _ _ (hok) hP hD hS (lv_sub hl [2, 3, 4, 5, 6] rfl)

set_option maxHeartbeats 4000000 in
set_option maxRecDepth 100000 in
theorem L_blocks1 {p : Program} {l : Launch} {e : Env} {s : State} {m : MethodId} {below : List Frame} {meth : Method} {c : Code} {Q : State → Prop} {b L : Nat} {xs : Nat → Int32} {dC : Nat → ClassId} {dI : Nat → Nat → Nat} {cA cL : ClassId} (X : bb_Cx p l s m c b L xs dC dI cA cL) {g0 b0 b1 b2 h0 a0 a1 a2 a3 o0 : Nat} {w pr vo vf vt : Nat → Int32} {k th : Int32} {fo : Nat → Int64} {H : Heap} {locs : List Loc} {ls : Array Slot} {j : Nat} (hj : 4 * j + 3 < L) (hok : bb_ok w k pr vo vf vt)
    (hP : va_P (dC, dI) vwCl (bb_F g0 b0 b1 b2 h0 a0 a1 a2 a3 o0 cA cL w pr vo vf vt k th fo) H) (hD : va_D (bb_A s) (bb_F g0 b0 b1 b2 h0 a0 a1 a2 a3 o0 cA cL w pr vo vf vt k th fo)) (hS : va_S (bb_A s) s.heap H locs) (hl : lv_has ls 7 (bb_ll b h0 g0 o0 j)) (K : bb_K p l e s m below meth c b dC dI cA cL g0 b0 b1 b2 h0 a0 a1 a2 a3 o0 j Q) (x0 : Int32) (hbad : bb_out x0 (nI 1024) = true) (e1 : xs (4 * j + 1) = x0) : W p l e room_1 s m #[Value.ref b] below meth c H locs (10 + j) (423 + 6 * j) Q (F0 m 785 ls []) := by
  obtain ⟨hx, hb, hml, hown, hts, hX, hbl, hK, hZ, htr, hL⟩ := X
  have hA : ∀ q : Nat, s.heap.size ≤ q → bb_A s q := fun _ h => h
  have hbA : ¬ bb_A s b := Nat.not_le.mpr hbl
  have hK1 := hK.sub [0] (tys' := [(cA, .int)]) rfl
  have hjb : j < 512 := by omega
  have hl : lv_has ls 7 [(0, .ref b), (1, .ref h0), (2, .ref g0), (3, .ref o0), (4, .int (nI (4 * j)))] := hl
  have hP : va_P (dC, dI) vwCl [(g0, .inr (1, [.ref b0, .ref b1, .ref b2, .int k, .int th])), (b0, .inl (cA, 10, .inl w)), (b1, .inl (cA, 10, .inl pr)), (b2, .inl (cA, 310, .inl vt)), (h0, .inr (0, [.ref a0, .ref a1, .ref a2, .ref a3, .int k])), (a0, .inl (cA, 10, .inl w)), (a1, .inl (cA, 10, .inl pr)), (a2, .inl (cA, 31, .inl vo)), (a3, .inl (cA, 31, .inl vf)), (o0, .inl (cL, 1, .inr (.inl fo)))] H := hP
  have hD : va_D (bb_A s) [(g0, .inr (1, [.ref b0, .ref b1, .ref b2, .int k, .int th])), (b0, .inl (cA, 10, .inl w)), (b1, .inl (cA, 10, .inl pr)), (b2, .inl (cA, 310, .inl vt)), (h0, .inr (0, [.ref a0, .ref a1, .ref a2, .ref a3, .int k])), (a0, .inl (cA, 10, .inl w)), (a1, .inl (cA, 10, .inl pr)), (a2, .inl (cA, 31, .inl vo)), (a3, .inl (cA, 31, .inl vf)), (o0, .inl (cL, 1, .inr (.inl fo)))] := hD
  refine lv_aload_n hx hb dL_law_785 rfl (lv_at hl 1 rfl) ?_
  refine lv_aload_n hx hb dL_law_786 rfl (lv_at hl 0 rfl) ?_
  refine lv_iload hx hb dL_law_787 (lv_at hl 4 rfl) ?_
  refine lv_iconst (v := 1) hx hb dL_law_789 (by decide) ?_
  refine lv_iadd hx hb dL_law_790 ?_
  refine bb_topi (y := nI (4 * j + 1)) (bb_add1 j) ?_
  refine bb_sld hx hb hX hbl hbA hS (4 * j + 1) (by omega) hL e1 dL_law_791 ?_
  refine lv_aload_n hx hb dL_law_792 rfl (lv_at hl 3 rfl) ?_
  refine bb_cWf (As := [.ref h0, .int x0, .ref o0]) (rest := []) (r := 1) (pre := [(g0, .inr (1, [.ref b0, .ref b1, .ref b2, .int k, .int th])), (b0, .inl (cA, 10, .inl w)), (b1, .inl (cA, 10, .inl pr)), (b2, .inl (cA, 310, .inl vt))]) (wc := [(h0, .inr (0, [.ref a0, .ref a1, .ref a2, .ref a3, .int k])), (a0, .inl (cA, 10, .inl w)), (a1, .inl (cA, 10, .inl pr)), (a2, .inl (cA, 31, .inl vo)), (a3, .inl (cA, 31, .inl vf)), (o0, .inl (cL, 1, .inr (.inl fo)))]) (wc' := [(h0, .inr (0, [.ref a0, .ref a1, .ref a2, .ref a3, .int k])), (a0, .inl (cA, 10, .inl w)), (a1, .inl (cA, 10, .inl pr)), (a2, .inl (cA, 31, .inl vo)), (a3, .inl (cA, 31, .inl vf)), (o0, .inl (cL, 1, .inr (.inl fo)))]) (post := []) (Px := fun U => bb_TS s.heap.size U) ⟨hx, hb, hml, hown, hts⟩ (w_blocks1 l htr s.heap.size dC dI cA cL h0 a0 a1 a2 a3 o0 w pr vo vf k fo H.size x0 hbad) (bb_cw 3 hts gL_law_L_blocks rfl rfl rfl gS_law_L_blocks gT_law_L_blocks gI_law_L_blocks (by decide +kernel) ⟨Nat.le_of_ble_eq_true rfl, Nat.le_of_ble_eq_true rfl⟩) (fun a9 U9 g9 m9 q9 => bb_TS.same (u := U9) (U := U9.calling g9 m9 a9) rfl rfl q9) (fun U9 hU9 hW9 => hZ.mv hW9 (fun x9 h9 => by rw [hU9]; exact hS.2.1 x9 h9 (Nat.not_le.mpr h9))) hP hK hD hS hA rfl rfl hl.1 rfl (Nat.le_of_ble_eq_true rfl) dL_law_793 (by show _ ≤ 1046; omega) (by show _ ≤ 8687; omega) (fun H locs hP hD hS => ?_)
  have hP : va_P (dC, dI) vwCl [(g0, .inr (1, [.ref b0, .ref b1, .ref b2, .int k, .int th])), (b0, .inl (cA, 10, .inl w)), (b1, .inl (cA, 10, .inl pr)), (b2, .inl (cA, 310, .inl vt)), (h0, .inr (0, [.ref a0, .ref a1, .ref a2, .ref a3, .int k])), (a0, .inl (cA, 10, .inl w)), (a1, .inl (cA, 10, .inl pr)), (a2, .inl (cA, 31, .inl vo)), (a3, .inl (cA, 31, .inl vf)), (o0, .inl (cL, 1, .inr (.inl fo)))] H := hP
  have hD : va_D (bb_A s) [(g0, .inr (1, [.ref b0, .ref b1, .ref b2, .int k, .int th])), (b0, .inl (cA, 10, .inl w)), (b1, .inl (cA, 10, .inl pr)), (b2, .inl (cA, 310, .inl vt)), (h0, .inr (0, [.ref a0, .ref a1, .ref a2, .ref a3, .int k])), (a0, .inl (cA, 10, .inl w)), (a1, .inl (cA, 10, .inl pr)), (a2, .inl (cA, 31, .inl vo)), (a3, .inl (cA, 31, .inl vf)), (o0, .inl (cL, 1, .inr (.inl fo)))] := hD
  refine lv_istore (lv' := [(5, .int 1), (0, .ref b), (1, .ref h0), (2, .ref g0), (3, .ref o0), (4, .int (nI (4 * j)))]) hx hb dL_law_796 hl (by decide) rfl (fun ls hl => ?_)
  refine lv_aload_n hx hb dL_law_798 rfl (lv_at hl 3 rfl) ?_
  refine lv_aload_n hx hb dL_law_799 rfl (lv_at hl 1 rfl) ?_
  refine lv_iload hx hb dL_law_800 (lv_at hl 5 rfl) ?_
  refine lv_iconst (v := 1) hx hb dL_law_802 (by decide) ?_
  refine lv_iadd hx hb dL_law_803 ?_
  refine bb_topi (y := nI (4 * j + 1)) (bb_add1 j) ?_
  refine bb_sld hx hb hX hbl hbA hS (4 * j + 1) (by omega) hL e1 dL_law_804 ?_
  refine bb_cVf (As := [.int x0]) (rest := []) (r := 0) (pre := []) (wc := [(g0, .inr (1, [.ref b0, .ref b1, .ref b2, .int k, .int th])), (b0, .inl (cA, 10, .inl w)), (b1, .inl (cA, 10, .inl pr)), (b2, .inl (cA, 310, .inl vt))]) (post := [(h0, .inr (0, [.ref a0, .ref a1, .ref a2, .ref a3, .int k])), (a0, .inl (cA, 10, .inl w)), (a1, .inl (cA, 10, .inl pr)), (a2, .inl (cA, 31, .inl vo)), (a3, .inl (cA, 31, .inl vf)), (o0, .inl (cL, 1, .inr (.inl fo)))]) (wc' := [(g0, .inr (1, [.ref b0, .ref b1, .ref b2, .int k, .int 1])), (b0, .inl (cA, 10, .inl w)), (b1, .inl (cA, 10, .inl pr)), (b2, .inl (cA, 310, .inl vt))]) 0 ⟨hx, hb, hml, hown, hts⟩ (r_blocks1 l dC dI cA g0 b0 b1 b2 w pr vt k th H.size x0 hbad) (cwV 1 hts gL_law_X1_blocks rfl rfl rfl (by decide +kernel) ⟨Nat.le_of_ble_eq_true rfl, Nat.le_of_ble_eq_true rfl⟩) hP hK1 hD hS hA rfl rfl rfl rfl hl.1 rfl (Nat.le_of_ble_eq_true rfl) dL_law_805 (by show _ ≤ 1046; omega) (by show _ ≤ 8687; omega) (fun H locs hP hD hS => ?_)
  have hP : va_P (dC, dI) vwCl [(g0, .inr (1, [.ref b0, .ref b1, .ref b2, .int k, .int 1])), (b0, .inl (cA, 10, .inl w)), (b1, .inl (cA, 10, .inl pr)), (b2, .inl (cA, 310, .inl vt)), (h0, .inr (0, [.ref a0, .ref a1, .ref a2, .ref a3, .int k])), (a0, .inl (cA, 10, .inl w)), (a1, .inl (cA, 10, .inl pr)), (a2, .inl (cA, 31, .inl vo)), (a3, .inl (cA, 31, .inl vf)), (o0, .inl (cL, 1, .inr (.inl fo)))] H := hP
  have hD : va_D (bb_A s) [(g0, .inr (1, [.ref b0, .ref b1, .ref b2, .int k, .int 1])), (b0, .inl (cA, 10, .inl w)), (b1, .inl (cA, 10, .inl pr)), (b2, .inl (cA, 310, .inl vt)), (h0, .inr (0, [.ref a0, .ref a1, .ref a2, .ref a3, .int k])), (a0, .inl (cA, 10, .inl w)), (a1, .inl (cA, 10, .inl pr)), (a2, .inl (cA, 31, .inl vo)), (a3, .inl (cA, 31, .inl vf)), (o0, .inl (cL, 1, .inr (.inl fo)))] := hD
  refine lv_istore (lv' := [(6, .int 0), (5, .int 1), (0, .ref b), (1, .ref h0), (2, .ref g0), (3, .ref o0), (4, .int (nI (4 * j)))]) hx hb dL_law_808 hl (by decide) rfl (fun ls hl => ?_)
  refine lv_aload_n hx hb dL_law_810 rfl (lv_at hl 4 rfl) ?_
  have hPm : va_P (dC, dI) vwCl [(g0, .inr (1, [.ref b0, .ref b1, .ref b2, .int k, .int 1])), (b0, .inl (cA, 10, .inl w)), (b1, .inl (cA, 10, .inl pr)), (b2, .inl (cA, 310, .inl vt))] H := bb_Pmid (pre := []) (wc := [(g0, .inr (1, [.ref b0, .ref b1, .ref b2, .int k, .int 1])), (b0, .inl (cA, 10, .inl w)), (b1, .inl (cA, 10, .inl pr)), (b2, .inl (cA, 310, .inl vt))]) (post := [(h0, .inr (0, [.ref a0, .ref a1, .ref a2, .ref a3, .int k])), (a0, .inl (cA, 10, .inl w)), (a1, .inl (cA, 10, .inl pr)), (a2, .inl (cA, 31, .inl vo)), (a3, .inl (cA, 31, .inl vf)), (o0, .inl (cL, 1, .inr (.inl fo)))]) hP
  refine bb_cV (As := []) (rest := []) (r := 1) 0 ⟨hx, hb, hml, hown, hts⟩ (m_thrown l dC dI cA g0 b0 b1 b2 w pr vt k 1) (cwV 0 hts gL_law_X1_thrown rfl rfl rfl (by decide +kernel) ⟨Nat.le_of_ble_eq_true rfl, Nat.le_of_ble_eq_true rfl⟩) hPm hK1 rfl rfl rfl hl.1 rfl (Nat.le_of_ble_eq_true rfl) dL_law_811 (by show _ ≤ 1046; omega) (by show _ ≤ 8687; omega) ?_
  refine lv_iload hx hb dL_law_814 (lv_at hl 1 rfl) ?_
  refine lv_icmp_eq (tgt := 821) hx hb dL_law_816 rfl (fun h816 => ?_) (fun h816 => absurd rfl h816)
  refine lv_iload hx hb dL_law_821 (lv_at hl 1 rfl) ?_
  refine lv_if_ne (tgt := 845) hx hb dL_law_823 rfl (fun h823 => ?_) (fun h823 => absurd h823 (by decide))
  refine lv_goto (tgt := 993) hx hb dL_law_845 rfl ?_
  refine W.widen (k := 11 + j) (n := 429 + 6 * j) (by omega) (by omega) ?_
  exact K _ _ _ _ _ _ _ _ _ _ _ (hok) hP hD hS (lv_sub hl [2, 3, 4, 5, 6] rfl)

set_option maxHeartbeats 4000000 in
set_option maxRecDepth 100000 in
theorem L_about_0 {p : Program} {l : Launch} {e : Env} {s : State} {m : MethodId} {below : List Frame} {meth : Method} {c : Code} {Q : State → Prop} {b L : Nat} {xs : Nat → Int32} {dC : Nat → ClassId} {dI : Nat → Nat → Nat} {cA cL : ClassId} (X : bb_Cx p l s m c b L xs dC dI cA cL) {g0 b0 b1 b2 h0 a0 a1 a2 a3 o0 : Nat} {w pr vo vf vt : Nat → Int32} {k th : Int32} {fo : Nat → Int64} {H : Heap} {locs : List Loc} {ls : Array Slot} {j : Nat} (hj : 4 * j + 3 < L) (hok : bb_ok w k pr vo vf vt)
    (hP : va_P (dC, dI) vwCl (bb_F g0 b0 b1 b2 h0 a0 a1 a2 a3 o0 cA cL w pr vo vf vt k th fo) H) (hD : va_D (bb_A s) (bb_F g0 b0 b1 b2 h0 a0 a1 a2 a3 o0 cA cL w pr vo vf vt k th fo)) (hS : va_S (bb_A s) s.heap H locs) (hl : lv_has ls 7 (bb_ll b h0 g0 o0 j)) (K : bb_K p l e s m below meth c b dC dI cA cL g0 b0 b1 b2 h0 a0 a1 a2 a3 o0 j Q) (n : Nat) (hn0 : n < 10) (e1 : xs (4 * j + 1) = nI n) (e2 : xs (4 * j + 2) = 0) : W p l e room_1 s m #[Value.ref b] below meth c H locs (10 + j) (423 + 6 * j) Q (F0 m 900 ls []) := by
  obtain ⟨hx, hb, hml, hown, hts, hX, hbl, hK, hZ, htr, hL⟩ := X
  have hA : ∀ q : Nat, s.heap.size ≤ q → bb_A s q := fun _ h => h
  have hbA : ¬ bb_A s b := Nat.not_le.mpr hbl
  have hK1 := hK.sub [0] (tys' := [(cA, .int)]) rfl
  have hjb : j < 512 := by omega
  have hl : lv_has ls 7 [(0, .ref b), (1, .ref h0), (2, .ref g0), (3, .ref o0), (4, .int (nI (4 * j)))] := hl
  have hP : va_P (dC, dI) vwCl [(g0, .inr (1, [.ref b0, .ref b1, .ref b2, .int k, .int th])), (b0, .inl (cA, 10, .inl w)), (b1, .inl (cA, 10, .inl pr)), (b2, .inl (cA, 310, .inl vt)), (h0, .inr (0, [.ref a0, .ref a1, .ref a2, .ref a3, .int k])), (a0, .inl (cA, 10, .inl w)), (a1, .inl (cA, 10, .inl pr)), (a2, .inl (cA, 31, .inl vo)), (a3, .inl (cA, 31, .inl vf)), (o0, .inl (cL, 1, .inr (.inl fo)))] H := hP
  have hD : va_D (bb_A s) [(g0, .inr (1, [.ref b0, .ref b1, .ref b2, .int k, .int th])), (b0, .inl (cA, 10, .inl w)), (b1, .inl (cA, 10, .inl pr)), (b2, .inl (cA, 310, .inl vt)), (h0, .inr (0, [.ref a0, .ref a1, .ref a2, .ref a3, .int k])), (a0, .inl (cA, 10, .inl w)), (a1, .inl (cA, 10, .inl pr)), (a2, .inl (cA, 31, .inl vo)), (a3, .inl (cA, 31, .inl vf)), (o0, .inl (cL, 1, .inr (.inl fo)))] := hD
  refine lv_aload_n hx hb dL_law_900 rfl (lv_at hl 1 rfl) ?_
  refine lv_aload_n hx hb dL_law_901 rfl (lv_at hl 0 rfl) ?_
  refine lv_iload hx hb dL_law_902 (lv_at hl 4 rfl) ?_
  refine lv_iconst (v := 1) hx hb dL_law_904 (by decide) ?_
  refine lv_iadd hx hb dL_law_905 ?_
  refine bb_topi (y := nI (4 * j + 1)) (bb_add1 j) ?_
  refine bb_sld hx hb hX hbl hbA hS (4 * j + 1) (by omega) hL e1 dL_law_906 ?_
  refine lv_aload_n hx hb dL_law_907 rfl (lv_at hl 0 rfl) ?_
  refine lv_iload hx hb dL_law_908 (lv_at hl 4 rfl) ?_
  refine lv_iconst (v := 2) hx hb dL_law_910 (by decide) ?_
  refine lv_iadd hx hb dL_law_911 ?_
  refine bb_topi (y := nI (4 * j + 2)) (bb_add2 j) ?_
  refine bb_sld hx hb hX hbl hbA hS (4 * j + 2) (by omega) hL e2 dL_law_912 ?_
  refine lv_aload_n hx hb dL_law_913 rfl (lv_at hl 3 rfl) ?_
  refine bb_cWf (As := [.ref h0, .int (nI n), .int 0, .ref o0]) (rest := []) (r := 0) (pre := [(g0, .inr (1, [.ref b0, .ref b1, .ref b2, .int k, .int th])), (b0, .inl (cA, 10, .inl w)), (b1, .inl (cA, 10, .inl pr)), (b2, .inl (cA, 310, .inl vt))]) (wc := [(h0, .inr (0, [.ref a0, .ref a1, .ref a2, .ref a3, .int k])), (a0, .inl (cA, 10, .inl w)), (a1, .inl (cA, 10, .inl pr)), (a2, .inl (cA, 31, .inl vo)), (a3, .inl (cA, 31, .inl vf)), (o0, .inl (cL, 1, .inr (.inl fo)))]) (wc' := [(h0, .inr (0, [.ref a0, .ref a1, .ref a2, .ref a3, .int k])), (a0, .inl (cA, 10, .inl w)), (a1, .inl (cA, 10, .inl pr)), (a2, .inl (cA, 31, .inl vo)), (a3, .inl (cA, 31, .inl vf)), (o0, .inl (cL, 1, .inr (.inl (fun _ => (w n).toInt64))))]) (post := []) (Px := fun _ => True) ⟨hx, hb, hml, hown, hts⟩ (w_about_0 l dC dI cA cL h0 a0 a1 a2 a3 o0 w pr vo vf k fo H.size n hn0) (bb_cw 4 hts gL_law_L_about rfl rfl rfl gS_law_L_about gT_law_L_about gI_law_L_about (by decide +kernel) ⟨Nat.le_of_ble_eq_true rfl, Nat.le_of_ble_eq_true rfl⟩) (fun _ _ _ _ _ => trivial) (fun _ _ _ => trivial) hP hK hD hS hA rfl rfl hl.1 rfl (Nat.le_of_ble_eq_true rfl) dL_law_914 (by show _ ≤ 1046; omega) (by show _ ≤ 8687; omega) (fun H locs hP hD hS => ?_)
  have hP : va_P (dC, dI) vwCl [(g0, .inr (1, [.ref b0, .ref b1, .ref b2, .int k, .int th])), (b0, .inl (cA, 10, .inl w)), (b1, .inl (cA, 10, .inl pr)), (b2, .inl (cA, 310, .inl vt)), (h0, .inr (0, [.ref a0, .ref a1, .ref a2, .ref a3, .int k])), (a0, .inl (cA, 10, .inl w)), (a1, .inl (cA, 10, .inl pr)), (a2, .inl (cA, 31, .inl vo)), (a3, .inl (cA, 31, .inl vf)), (o0, .inl (cL, 1, .inr (.inl (fun _ => (w n).toInt64))))] H := hP
  have hD : va_D (bb_A s) [(g0, .inr (1, [.ref b0, .ref b1, .ref b2, .int k, .int th])), (b0, .inl (cA, 10, .inl w)), (b1, .inl (cA, 10, .inl pr)), (b2, .inl (cA, 310, .inl vt)), (h0, .inr (0, [.ref a0, .ref a1, .ref a2, .ref a3, .int k])), (a0, .inl (cA, 10, .inl w)), (a1, .inl (cA, 10, .inl pr)), (a2, .inl (cA, 31, .inl vo)), (a3, .inl (cA, 31, .inl vf)), (o0, .inl (cL, 1, .inr (.inl (fun _ => (w n).toInt64))))] := hD
  refine lv_istore (lv' := [(5, .int 0), (0, .ref b), (1, .ref h0), (2, .ref g0), (3, .ref o0), (4, .int (nI (4 * j)))]) hx hb dL_law_917 hl (by decide) rfl (fun ls hl => ?_)
  refine lv_aload_n hx hb dL_law_919 rfl (lv_at hl 3 rfl) ?_
  refine lv_aload_n hx hb dL_law_920 rfl (lv_at hl 1 rfl) ?_
  refine lv_iload hx hb dL_law_921 (lv_at hl 5 rfl) ?_
  refine lv_iconst (v := 1) hx hb dL_law_923 (by decide) ?_
  refine lv_iadd hx hb dL_law_924 ?_
  refine bb_topi (y := nI (4 * j + 1)) (bb_add1 j) ?_
  refine bb_sld hx hb hX hbl hbA hS (4 * j + 1) (by omega) hL e1 dL_law_925 ?_
  refine lv_aload_n hx hb dL_law_926 rfl (lv_at hl 1 rfl) ?_
  refine lv_iload hx hb dL_law_927 (lv_at hl 5 rfl) ?_
  refine lv_iconst (v := 2) hx hb dL_law_929 (by decide) ?_
  refine lv_iadd hx hb dL_law_930 ?_
  refine bb_topi (y := nI (4 * j + 2)) (bb_add2 j) ?_
  refine bb_sld hx hb hX hbl hbA hS (4 * j + 2) (by omega) hL e2 dL_law_931 ?_
  refine bb_cVf (As := [.int (nI n), .int 0]) (rest := []) (r := w n) (pre := []) (wc := [(g0, .inr (1, [.ref b0, .ref b1, .ref b2, .int k, .int th])), (b0, .inl (cA, 10, .inl w)), (b1, .inl (cA, 10, .inl pr)), (b2, .inl (cA, 310, .inl vt))]) (post := [(h0, .inr (0, [.ref a0, .ref a1, .ref a2, .ref a3, .int k])), (a0, .inl (cA, 10, .inl w)), (a1, .inl (cA, 10, .inl pr)), (a2, .inl (cA, 31, .inl vo)), (a3, .inl (cA, 31, .inl vf)), (o0, .inl (cL, 1, .inr (.inl (fun _ => (w n).toInt64))))]) (wc' := [(g0, .inr (1, [.ref b0, .ref b1, .ref b2, .int k, .int 0])), (b0, .inl (cA, 10, .inl w)), (b1, .inl (cA, 10, .inl pr)), (b2, .inl (cA, 310, .inl vt))]) 0 ⟨hx, hb, hml, hown, hts⟩ (r_about_0 l dC dI cA g0 b0 b1 b2 w pr vt k th H.size n hn0) (cwV 2 hts gL_law_X1_about rfl rfl rfl (by decide +kernel) ⟨Nat.le_of_ble_eq_true rfl, Nat.le_of_ble_eq_true rfl⟩) hP hK1 hD hS hA rfl rfl rfl rfl hl.1 rfl (Nat.le_of_ble_eq_true rfl) dL_law_932 (by show _ ≤ 1046; omega) (by show _ ≤ 8687; omega) (fun H locs hP hD hS => ?_)
  have hP : va_P (dC, dI) vwCl [(g0, .inr (1, [.ref b0, .ref b1, .ref b2, .int k, .int 0])), (b0, .inl (cA, 10, .inl w)), (b1, .inl (cA, 10, .inl pr)), (b2, .inl (cA, 310, .inl vt)), (h0, .inr (0, [.ref a0, .ref a1, .ref a2, .ref a3, .int k])), (a0, .inl (cA, 10, .inl w)), (a1, .inl (cA, 10, .inl pr)), (a2, .inl (cA, 31, .inl vo)), (a3, .inl (cA, 31, .inl vf)), (o0, .inl (cL, 1, .inr (.inl (fun _ => (w n).toInt64))))] H := hP
  have hD : va_D (bb_A s) [(g0, .inr (1, [.ref b0, .ref b1, .ref b2, .int k, .int 0])), (b0, .inl (cA, 10, .inl w)), (b1, .inl (cA, 10, .inl pr)), (b2, .inl (cA, 310, .inl vt)), (h0, .inr (0, [.ref a0, .ref a1, .ref a2, .ref a3, .int k])), (a0, .inl (cA, 10, .inl w)), (a1, .inl (cA, 10, .inl pr)), (a2, .inl (cA, 31, .inl vo)), (a3, .inl (cA, 31, .inl vf)), (o0, .inl (cL, 1, .inr (.inl (fun _ => (w n).toInt64))))] := hD
  refine lv_istore (lv' := [(6, .int (w n)), (5, .int 0), (0, .ref b), (1, .ref h0), (2, .ref g0), (3, .ref o0), (4, .int (nI (4 * j)))]) hx hb dL_law_935 hl (by decide) rfl (fun ls hl => ?_)
  refine lv_aload_n hx hb dL_law_937 rfl (lv_at hl 4 rfl) ?_
  have hPm : va_P (dC, dI) vwCl [(g0, .inr (1, [.ref b0, .ref b1, .ref b2, .int k, .int 0])), (b0, .inl (cA, 10, .inl w)), (b1, .inl (cA, 10, .inl pr)), (b2, .inl (cA, 310, .inl vt))] H := bb_Pmid (pre := []) (wc := [(g0, .inr (1, [.ref b0, .ref b1, .ref b2, .int k, .int 0])), (b0, .inl (cA, 10, .inl w)), (b1, .inl (cA, 10, .inl pr)), (b2, .inl (cA, 310, .inl vt))]) (post := [(h0, .inr (0, [.ref a0, .ref a1, .ref a2, .ref a3, .int k])), (a0, .inl (cA, 10, .inl w)), (a1, .inl (cA, 10, .inl pr)), (a2, .inl (cA, 31, .inl vo)), (a3, .inl (cA, 31, .inl vf)), (o0, .inl (cL, 1, .inr (.inl (fun _ => (w n).toInt64))))]) hP
  refine bb_cV (As := []) (rest := []) (r := 0) 0 ⟨hx, hb, hml, hown, hts⟩ (m_thrown l dC dI cA g0 b0 b1 b2 w pr vt k 0) (cwV 0 hts gL_law_X1_thrown rfl rfl rfl (by decide +kernel) ⟨Nat.le_of_ble_eq_true rfl, Nat.le_of_ble_eq_true rfl⟩) hPm hK1 rfl rfl rfl hl.1 rfl (Nat.le_of_ble_eq_true rfl) dL_law_938 (by show _ ≤ 1046; omega) (by show _ ≤ 8687; omega) ?_
  refine lv_iload hx hb dL_law_941 (lv_at hl 1 rfl) ?_
  refine lv_icmp_eq (tgt := 948) hx hb dL_law_943 rfl (fun h943 => ?_) (fun h943 => absurd rfl h943)
  refine lv_iload hx hb dL_law_948 (lv_at hl 1 rfl) ?_
  refine lv_if_ne (tgt := 965) hx hb dL_law_950 rfl (fun h950 => absurd rfl h950) (fun h950 => ?_)
  refine lv_aload_n hx hb dL_law_953 rfl (lv_at hl 5 rfl) ?_
  refine lv_iconst (v := nI 0) hx hb dL_law_954 (by decide) ?_
  refine bb_lal hx hb hK hP 9 1 rfl rfl dL_law_955 ?_
  refine lv_iload hx hb dL_law_956 (lv_at hl 0 rfl) ?_
  refine lv_i2l (v := (w n).toInt64) hx hb dL_law_958 rfl ?_
  refine W.lcmp hx hb dL_law_959 ?_
  refine bb_topi (y := 0) (bb_cmp0 _) ?_
  refine lv_if_eq (tgt := 965) hx hb dL_law_960 rfl (fun h960 => ?_) (fun h960 => absurd rfl h960)
  refine lv_goto (tgt := 993) hx hb dL_law_965 rfl ?_
  refine W.widen (k := 11 + j) (n := 429 + 6 * j) (by omega) (by omega) ?_
  exact K _ _ _ _ _ _ _ _ _ _ _ (hok) hP hD hS (lv_sub hl [2, 3, 4, 5, 6] rfl)

set_option maxHeartbeats 4000000 in
set_option maxRecDepth 100000 in
theorem L_about_1 {p : Program} {l : Launch} {e : Env} {s : State} {m : MethodId} {below : List Frame} {meth : Method} {c : Code} {Q : State → Prop} {b L : Nat} {xs : Nat → Int32} {dC : Nat → ClassId} {dI : Nat → Nat → Nat} {cA cL : ClassId} (X : bb_Cx p l s m c b L xs dC dI cA cL) {g0 b0 b1 b2 h0 a0 a1 a2 a3 o0 : Nat} {w pr vo vf vt : Nat → Int32} {k th : Int32} {fo : Nat → Int64} {H : Heap} {locs : List Loc} {ls : Array Slot} {j : Nat} (hj : 4 * j + 3 < L) (hok : bb_ok w k pr vo vf vt)
    (hP : va_P (dC, dI) vwCl (bb_F g0 b0 b1 b2 h0 a0 a1 a2 a3 o0 cA cL w pr vo vf vt k th fo) H) (hD : va_D (bb_A s) (bb_F g0 b0 b1 b2 h0 a0 a1 a2 a3 o0 cA cL w pr vo vf vt k th fo)) (hS : va_S (bb_A s) s.heap H locs) (hl : lv_has ls 7 (bb_ll b h0 g0 o0 j)) (K : bb_K p l e s m below meth c b dC dI cA cL g0 b0 b1 b2 h0 a0 a1 a2 a3 o0 j Q) (n : Nat) (hn0 : n < 10) (e1 : xs (4 * j + 1) = nI n) (e2 : xs (4 * j + 2) = 1) : W p l e room_1 s m #[Value.ref b] below meth c H locs (10 + j) (423 + 6 * j) Q (F0 m 900 ls []) := by
  obtain ⟨hx, hb, hml, hown, hts, hX, hbl, hK, hZ, htr, hL⟩ := X
  have hA : ∀ q : Nat, s.heap.size ≤ q → bb_A s q := fun _ h => h
  have hbA : ¬ bb_A s b := Nat.not_le.mpr hbl
  have hK1 := hK.sub [0] (tys' := [(cA, .int)]) rfl
  have hjb : j < 512 := by omega
  have hl : lv_has ls 7 [(0, .ref b), (1, .ref h0), (2, .ref g0), (3, .ref o0), (4, .int (nI (4 * j)))] := hl
  have hP : va_P (dC, dI) vwCl [(g0, .inr (1, [.ref b0, .ref b1, .ref b2, .int k, .int th])), (b0, .inl (cA, 10, .inl w)), (b1, .inl (cA, 10, .inl pr)), (b2, .inl (cA, 310, .inl vt)), (h0, .inr (0, [.ref a0, .ref a1, .ref a2, .ref a3, .int k])), (a0, .inl (cA, 10, .inl w)), (a1, .inl (cA, 10, .inl pr)), (a2, .inl (cA, 31, .inl vo)), (a3, .inl (cA, 31, .inl vf)), (o0, .inl (cL, 1, .inr (.inl fo)))] H := hP
  have hD : va_D (bb_A s) [(g0, .inr (1, [.ref b0, .ref b1, .ref b2, .int k, .int th])), (b0, .inl (cA, 10, .inl w)), (b1, .inl (cA, 10, .inl pr)), (b2, .inl (cA, 310, .inl vt)), (h0, .inr (0, [.ref a0, .ref a1, .ref a2, .ref a3, .int k])), (a0, .inl (cA, 10, .inl w)), (a1, .inl (cA, 10, .inl pr)), (a2, .inl (cA, 31, .inl vo)), (a3, .inl (cA, 31, .inl vf)), (o0, .inl (cL, 1, .inr (.inl fo)))] := hD
  refine lv_aload_n hx hb dL_law_900 rfl (lv_at hl 1 rfl) ?_
  refine lv_aload_n hx hb dL_law_901 rfl (lv_at hl 0 rfl) ?_
  refine lv_iload hx hb dL_law_902 (lv_at hl 4 rfl) ?_
  refine lv_iconst (v := 1) hx hb dL_law_904 (by decide) ?_
  refine lv_iadd hx hb dL_law_905 ?_
  refine bb_topi (y := nI (4 * j + 1)) (bb_add1 j) ?_
  refine bb_sld hx hb hX hbl hbA hS (4 * j + 1) (by omega) hL e1 dL_law_906 ?_
  refine lv_aload_n hx hb dL_law_907 rfl (lv_at hl 0 rfl) ?_
  refine lv_iload hx hb dL_law_908 (lv_at hl 4 rfl) ?_
  refine lv_iconst (v := 2) hx hb dL_law_910 (by decide) ?_
  refine lv_iadd hx hb dL_law_911 ?_
  refine bb_topi (y := nI (4 * j + 2)) (bb_add2 j) ?_
  refine bb_sld hx hb hX hbl hbA hS (4 * j + 2) (by omega) hL e2 dL_law_912 ?_
  refine lv_aload_n hx hb dL_law_913 rfl (lv_at hl 3 rfl) ?_
  refine bb_cWf (As := [.ref h0, .int (nI n), .int 1, .ref o0]) (rest := []) (r := 0) (pre := [(g0, .inr (1, [.ref b0, .ref b1, .ref b2, .int k, .int th])), (b0, .inl (cA, 10, .inl w)), (b1, .inl (cA, 10, .inl pr)), (b2, .inl (cA, 310, .inl vt))]) (wc := [(h0, .inr (0, [.ref a0, .ref a1, .ref a2, .ref a3, .int k])), (a0, .inl (cA, 10, .inl w)), (a1, .inl (cA, 10, .inl pr)), (a2, .inl (cA, 31, .inl vo)), (a3, .inl (cA, 31, .inl vf)), (o0, .inl (cL, 1, .inr (.inl fo)))]) (wc' := [(h0, .inr (0, [.ref a0, .ref a1, .ref a2, .ref a3, .int k])), (a0, .inl (cA, 10, .inl w)), (a1, .inl (cA, 10, .inl pr)), (a2, .inl (cA, 31, .inl vo)), (a3, .inl (cA, 31, .inl vf)), (o0, .inl (cL, 1, .inr (.inl (fun _ => (pr n).toInt64))))]) (post := []) (Px := fun _ => True) ⟨hx, hb, hml, hown, hts⟩ (w_about_1 l dC dI cA cL h0 a0 a1 a2 a3 o0 w pr vo vf k fo H.size n hn0) (bb_cw 4 hts gL_law_L_about rfl rfl rfl gS_law_L_about gT_law_L_about gI_law_L_about (by decide +kernel) ⟨Nat.le_of_ble_eq_true rfl, Nat.le_of_ble_eq_true rfl⟩) (fun _ _ _ _ _ => trivial) (fun _ _ _ => trivial) hP hK hD hS hA rfl rfl hl.1 rfl (Nat.le_of_ble_eq_true rfl) dL_law_914 (by show _ ≤ 1046; omega) (by show _ ≤ 8687; omega) (fun H locs hP hD hS => ?_)
  have hP : va_P (dC, dI) vwCl [(g0, .inr (1, [.ref b0, .ref b1, .ref b2, .int k, .int th])), (b0, .inl (cA, 10, .inl w)), (b1, .inl (cA, 10, .inl pr)), (b2, .inl (cA, 310, .inl vt)), (h0, .inr (0, [.ref a0, .ref a1, .ref a2, .ref a3, .int k])), (a0, .inl (cA, 10, .inl w)), (a1, .inl (cA, 10, .inl pr)), (a2, .inl (cA, 31, .inl vo)), (a3, .inl (cA, 31, .inl vf)), (o0, .inl (cL, 1, .inr (.inl (fun _ => (pr n).toInt64))))] H := hP
  have hD : va_D (bb_A s) [(g0, .inr (1, [.ref b0, .ref b1, .ref b2, .int k, .int th])), (b0, .inl (cA, 10, .inl w)), (b1, .inl (cA, 10, .inl pr)), (b2, .inl (cA, 310, .inl vt)), (h0, .inr (0, [.ref a0, .ref a1, .ref a2, .ref a3, .int k])), (a0, .inl (cA, 10, .inl w)), (a1, .inl (cA, 10, .inl pr)), (a2, .inl (cA, 31, .inl vo)), (a3, .inl (cA, 31, .inl vf)), (o0, .inl (cL, 1, .inr (.inl (fun _ => (pr n).toInt64))))] := hD
  refine lv_istore (lv' := [(5, .int 0), (0, .ref b), (1, .ref h0), (2, .ref g0), (3, .ref o0), (4, .int (nI (4 * j)))]) hx hb dL_law_917 hl (by decide) rfl (fun ls hl => ?_)
  refine lv_aload_n hx hb dL_law_919 rfl (lv_at hl 3 rfl) ?_
  refine lv_aload_n hx hb dL_law_920 rfl (lv_at hl 1 rfl) ?_
  refine lv_iload hx hb dL_law_921 (lv_at hl 5 rfl) ?_
  refine lv_iconst (v := 1) hx hb dL_law_923 (by decide) ?_
  refine lv_iadd hx hb dL_law_924 ?_
  refine bb_topi (y := nI (4 * j + 1)) (bb_add1 j) ?_
  refine bb_sld hx hb hX hbl hbA hS (4 * j + 1) (by omega) hL e1 dL_law_925 ?_
  refine lv_aload_n hx hb dL_law_926 rfl (lv_at hl 1 rfl) ?_
  refine lv_iload hx hb dL_law_927 (lv_at hl 5 rfl) ?_
  refine lv_iconst (v := 2) hx hb dL_law_929 (by decide) ?_
  refine lv_iadd hx hb dL_law_930 ?_
  refine bb_topi (y := nI (4 * j + 2)) (bb_add2 j) ?_
  refine bb_sld hx hb hX hbl hbA hS (4 * j + 2) (by omega) hL e2 dL_law_931 ?_
  refine bb_cVf (As := [.int (nI n), .int 1]) (rest := []) (r := pr n) (pre := []) (wc := [(g0, .inr (1, [.ref b0, .ref b1, .ref b2, .int k, .int th])), (b0, .inl (cA, 10, .inl w)), (b1, .inl (cA, 10, .inl pr)), (b2, .inl (cA, 310, .inl vt))]) (post := [(h0, .inr (0, [.ref a0, .ref a1, .ref a2, .ref a3, .int k])), (a0, .inl (cA, 10, .inl w)), (a1, .inl (cA, 10, .inl pr)), (a2, .inl (cA, 31, .inl vo)), (a3, .inl (cA, 31, .inl vf)), (o0, .inl (cL, 1, .inr (.inl (fun _ => (pr n).toInt64))))]) (wc' := [(g0, .inr (1, [.ref b0, .ref b1, .ref b2, .int k, .int 0])), (b0, .inl (cA, 10, .inl w)), (b1, .inl (cA, 10, .inl pr)), (b2, .inl (cA, 310, .inl vt))]) 0 ⟨hx, hb, hml, hown, hts⟩ (r_about_1 l dC dI cA g0 b0 b1 b2 w pr vt k th H.size n hn0) (cwV 2 hts gL_law_X1_about rfl rfl rfl (by decide +kernel) ⟨Nat.le_of_ble_eq_true rfl, Nat.le_of_ble_eq_true rfl⟩) hP hK1 hD hS hA rfl rfl rfl rfl hl.1 rfl (Nat.le_of_ble_eq_true rfl) dL_law_932 (by show _ ≤ 1046; omega) (by show _ ≤ 8687; omega) (fun H locs hP hD hS => ?_)
  have hP : va_P (dC, dI) vwCl [(g0, .inr (1, [.ref b0, .ref b1, .ref b2, .int k, .int 0])), (b0, .inl (cA, 10, .inl w)), (b1, .inl (cA, 10, .inl pr)), (b2, .inl (cA, 310, .inl vt)), (h0, .inr (0, [.ref a0, .ref a1, .ref a2, .ref a3, .int k])), (a0, .inl (cA, 10, .inl w)), (a1, .inl (cA, 10, .inl pr)), (a2, .inl (cA, 31, .inl vo)), (a3, .inl (cA, 31, .inl vf)), (o0, .inl (cL, 1, .inr (.inl (fun _ => (pr n).toInt64))))] H := hP
  have hD : va_D (bb_A s) [(g0, .inr (1, [.ref b0, .ref b1, .ref b2, .int k, .int 0])), (b0, .inl (cA, 10, .inl w)), (b1, .inl (cA, 10, .inl pr)), (b2, .inl (cA, 310, .inl vt)), (h0, .inr (0, [.ref a0, .ref a1, .ref a2, .ref a3, .int k])), (a0, .inl (cA, 10, .inl w)), (a1, .inl (cA, 10, .inl pr)), (a2, .inl (cA, 31, .inl vo)), (a3, .inl (cA, 31, .inl vf)), (o0, .inl (cL, 1, .inr (.inl (fun _ => (pr n).toInt64))))] := hD
  refine lv_istore (lv' := [(6, .int (pr n)), (5, .int 0), (0, .ref b), (1, .ref h0), (2, .ref g0), (3, .ref o0), (4, .int (nI (4 * j)))]) hx hb dL_law_935 hl (by decide) rfl (fun ls hl => ?_)
  refine lv_aload_n hx hb dL_law_937 rfl (lv_at hl 4 rfl) ?_
  have hPm : va_P (dC, dI) vwCl [(g0, .inr (1, [.ref b0, .ref b1, .ref b2, .int k, .int 0])), (b0, .inl (cA, 10, .inl w)), (b1, .inl (cA, 10, .inl pr)), (b2, .inl (cA, 310, .inl vt))] H := bb_Pmid (pre := []) (wc := [(g0, .inr (1, [.ref b0, .ref b1, .ref b2, .int k, .int 0])), (b0, .inl (cA, 10, .inl w)), (b1, .inl (cA, 10, .inl pr)), (b2, .inl (cA, 310, .inl vt))]) (post := [(h0, .inr (0, [.ref a0, .ref a1, .ref a2, .ref a3, .int k])), (a0, .inl (cA, 10, .inl w)), (a1, .inl (cA, 10, .inl pr)), (a2, .inl (cA, 31, .inl vo)), (a3, .inl (cA, 31, .inl vf)), (o0, .inl (cL, 1, .inr (.inl (fun _ => (pr n).toInt64))))]) hP
  refine bb_cV (As := []) (rest := []) (r := 0) 0 ⟨hx, hb, hml, hown, hts⟩ (m_thrown l dC dI cA g0 b0 b1 b2 w pr vt k 0) (cwV 0 hts gL_law_X1_thrown rfl rfl rfl (by decide +kernel) ⟨Nat.le_of_ble_eq_true rfl, Nat.le_of_ble_eq_true rfl⟩) hPm hK1 rfl rfl rfl hl.1 rfl (Nat.le_of_ble_eq_true rfl) dL_law_938 (by show _ ≤ 1046; omega) (by show _ ≤ 8687; omega) ?_
  refine lv_iload hx hb dL_law_941 (lv_at hl 1 rfl) ?_
  refine lv_icmp_eq (tgt := 948) hx hb dL_law_943 rfl (fun h943 => ?_) (fun h943 => absurd rfl h943)
  refine lv_iload hx hb dL_law_948 (lv_at hl 1 rfl) ?_
  refine lv_if_ne (tgt := 965) hx hb dL_law_950 rfl (fun h950 => absurd rfl h950) (fun h950 => ?_)
  refine lv_aload_n hx hb dL_law_953 rfl (lv_at hl 5 rfl) ?_
  refine lv_iconst (v := nI 0) hx hb dL_law_954 (by decide) ?_
  refine bb_lal hx hb hK hP 9 1 rfl rfl dL_law_955 ?_
  refine lv_iload hx hb dL_law_956 (lv_at hl 0 rfl) ?_
  refine lv_i2l (v := (pr n).toInt64) hx hb dL_law_958 rfl ?_
  refine W.lcmp hx hb dL_law_959 ?_
  refine bb_topi (y := 0) (bb_cmp0 _) ?_
  refine lv_if_eq (tgt := 965) hx hb dL_law_960 rfl (fun h960 => ?_) (fun h960 => absurd rfl h960)
  refine lv_goto (tgt := 993) hx hb dL_law_965 rfl ?_
  refine W.widen (k := 11 + j) (n := 429 + 6 * j) (by omega) (by omega) ?_
  exact K _ _ _ _ _ _ _ _ _ _ _ (hok) hP hD hS (lv_sub hl [2, 3, 4, 5, 6] rfl)
