/-! the law's loop and its start -/
theorem bb_nI4 (q : Nat) : nI (q + 4) = nI q + 4 := by
  rw [nI_succ, nI_succ, nI_succ, nI_succ]
  rw [Int32.add_assoc, Int32.add_assoc, Int32.add_assoc]
  rfl
theorem bb_sub4 {L : Nat} (hL : L ≤ 2048) : (Int32.ofNat L - 4).toInt = (L : Int) - 4 := by
  by_cases h : L < 4
  · rcases (show L = 0 ∨ L = 1 ∨ L = 2 ∨ L = 3 by omega) with rfl | rfl | rfl | rfl <;> decide
  · obtain ⟨q, rfl⟩ : ∃ q, L = q + 4 := ⟨L - 4, by omega⟩
    have e1 : Int32.ofNat (q + 4) - 4 = nI q := by
      show nI (q + 4) - 4 = nI q
      rw [bb_nI4, Int32.add_sub_cancel]
    rw [e1, nI_toInt (by omega)]
    omega
theorem bb_gt {L j : Nat} (hL : L ≤ 2048) (hj : 4 * j ≤ 2048) : (Int32.ofNat L - 4 < nI (4 * j)) ↔ L < 4 * j + 4 := by
  rw [Int32.lt_iff_toInt_lt, bb_sub4 hL, nI_toInt (by omega)]
  omega
set_option maxHeartbeats 4000000 in
theorem bb_loop {p : Program} {l : Launch} {e : Env} {s : State} {m : MethodId} {below : List Frame} {meth : Method} {c : Code} {Q : State → Prop} {b L : Nat} {xs : Nat → Int32} {dC : Nat → ClassId} {dI : Nat → Nat → Nat} {cA cL : ClassId} (X : bb_Cx p l s m c b L xs dC dI cA cL) {g0 b0 b1 b2 h0 a0 a1 a2 a3 o0 : Nat}
    (hE : ∀ (H : Heap) (ls : Array Slot), W p l e room_1 s m #[Value.ref b] below meth c H [] 1046 8687 Q (F0 m 999 ls [])) :
    ∀ (d j : Nat), L / 4 - j = d → j ≤ L / 4 → ∀ (w pr vo vf vt : Nat → Int32) (k th : Int32) (fo : Nat → Int64) (H : Heap) (locs : List Loc) (ls : Array Slot), bb_ok w k pr vo vf vt → va_P (dC, dI) vwCl (bb_F g0 b0 b1 b2 h0 a0 a1 a2 a3 o0 cA cL w pr vo vf vt k th fo) H → va_D (bb_A s) (bb_F g0 b0 b1 b2 h0 a0 a1 a2 a3 o0 cA cL w pr vo vf vt k th fo) → va_S (bb_A s) s.heap H locs → lv_has ls 7 (bb_ll b h0 g0 o0 j) →
      W p l e room_1 s m #[Value.ref b] below meth c H locs (10 + j) (423 + 6 * j) Q (F0 m 23 ls []) := by
  intro d
  induction d with
  | zero =>
    intro j hd hj w pr vo vf vt k th fo H locs ls hok hP hD hS hl
    obtain ⟨hx, hb, hml, hown, hts, hX, hbl, hK, hZ, htr, hL⟩ := X
    have hbA : ¬ bb_A s b := Nat.not_le.mpr hbl
    have hb : c.code = cL_law := hb
    refine lv_iload hx hb dL_law_23 (lv_at hl 4 rfl) ?_
    refine lv_aload_n hx hb dL_law_25 rfl (lv_at hl 0 rfl) ?_
    refine va_slen hx hb hX hbl hbA hS dL_law_26 ?_
    refine lv_iconst (v := 4) hx hb dL_law_27 (by decide) ?_
    refine lv_isub hx hb dL_law_28 ?_
    refine lv_icmp_gt (tgt := 999) hx hb dL_law_29 rfl (fun h => ?_) (fun h => absurd ((bb_gt hL (by omega)).mpr (by omega)) h)
    refine W.widen (k := 1046) (n := 8687) (by omega) (by omega) ?_
    exact va_forget (fun q hq => hS.2.2 q hq) (hE H ls)
  | succ d ih =>
    intro j hd hj w pr vo vf vt k th fo H locs ls hok hP hD hS hl
    have X0 := X
    obtain ⟨hx, hb, hml, hown, hts, hX, hbl, hK, hZ, htr, hL⟩ := X
    have hbA : ¬ bb_A s b := Nat.not_le.mpr hbl
    have hb : c.code = cL_law := hb
    refine lv_iload hx hb dL_law_23 (lv_at hl 4 rfl) ?_
    refine lv_aload_n hx hb dL_law_25 rfl (lv_at hl 0 rfl) ?_
    refine va_slen hx hb hX hbl hbA hS dL_law_26 ?_
    refine lv_iconst (v := 4) hx hb dL_law_27 (by decide) ?_
    refine lv_isub hx hb dL_law_28 ?_
    refine lv_icmp_gt (tgt := 999) hx hb dL_law_29 rfl (fun h => absurd ((bb_gt hL (by omega)).mp h) (by omega)) (fun h => ?_)
    refine lv_aload_n hx hb dL_law_32 rfl (lv_at hl 0 rfl) ?_
    refine lv_iload hx hb dL_law_33 (lv_at hl 4 rfl) ?_
    refine bb_sld hx hb hX hbl hbA hS (4 * j) (by omega) hL rfl dL_law_35 ?_
    refine lv_bipush (v := 31) hx hb dL_law_36 (by decide) ?_
    refine lv_iand hx hb dL_law_38 ?_
    refine T_turn X0 (by omega) hok hP hD hS hl ?_
    intro w pr vo vf vt k th fo H locs ls hok hP hD hS hl
    refine lv_iinc (v := nI (4 * (j + 1))) (lv' := [(4, .int (nI (4 * (j + 1)))), (0, .ref b), (1, .ref h0), (2, .ref g0), (3, .ref o0)]) hx hb dL_law_993 hl (k := 4) rfl (bb_add4 j) (by decide) rfl (fun ls hl => ?_)
    refine lv_goto (tgt := 23) hx hb dL_law_996 rfl ?_
    have e1 : 11 + j = 10 + (j + 1) := by omega
    have e2 : 429 + 6 * j = 423 + 6 * (j + 1) := by omega
    rw [e1, e2]
    exact ih (j + 1) (by omega) (by omega) w pr vo vf vt k th fo H locs ls hok hP hD hS (lv_sub hl [1, 2, 3, 4, 0] rfl)
theorem bb_gI {y : MethodName} {b : ByteArray} {n : Nat} {r : Option FieldType} {x : Cond} (h : Cond.code y b n r ∈ bb_T) : GoodIn (x :: bb_T) (.code y b n r :: bb_T) := by
  have key : ∀ w ∈ (Cond.code y b n r :: bb_T), w ∈ bb_T := fun w hw => by
    rcases List.mem_cons.mp hw with rfl | hw
    · exact h
    · exact hw
  exact fun w hw => ⟨List.mem_cons_of_mem _ (key w hw), bb_tg w (key w hw)⟩
section BbCtorCall
variable {p : Program} {l : Launch} {e : Env} {R : Room} {s : State} {m : MethodId} {args : Array Value} {below : List Frame} {meth : Method} {c : Code} {H H0 : Heap} {locs : List Loc} {cells slots : Nat} {Q : State → Prop} {pc : Nat} {ls : Array Slot} {rest : List Value} {cc : ByteArray}
variable {Ts ws : List Cond} {bytes : ByteArray} {nL maxL index mc ms : Nat} {own : String} {y : MethodName} {rm : Room} {A : Nat → Prop} {D : va_G} {cl : List vw_C} {pre wc : va_W} {tyc : List (ClassId × FieldType)} {U : Type} {Bw : U → va_W} {b : Nat}
theorem bb_cI (S : CallFix p m c cc nL s args Ts own) (hM : Met l y ws rm (bb_Pm [.ref b] D cl wc tyc H.size) (va_Qv (S := U) (fun _ => True) (fun u t => va_P D cl (Bw u) t.heap ∧ va_D (va_A wc H.size) (Bw u)) (va_A wc H.size)) mc ms (va_A wc H.size)) (cw : CallB R s args own index y bytes maxL none ws rm mc ms 0 ∧ y.name = "<init>" ∧ (Cond.instanceMethod y).before args s = true)
    (hP : va_P D cl (pre ++ wc ++ []) H) (hK : va_K D cl tyc s) (hD : va_D A (pre ++ wc ++ [])) (hS : va_S A H0 H locs) (hA : ∀ q : Nat, H0.size ≤ q → A q) (isC isR : List Nat) (hC : isC.map (fun i => (pre ++ wc ++ [])[i]?) = wc.map some) (hR : isR.map (fun i => (pre ++ wc ++ [])[i]?) = pre.map some) (hnd : va_nd isR = true) (hdis : ∀ i ∈ isR, i ∉ isC)
    (hsize : ls.size = nL) (hW : (rest.map fun v => v.category).sum ≤ 8) (hdg : decode cc pc = .ok (.invokespecial index, 3)) (hc : cells + mc ≤ R.cells) (hs : slots + ms ≤ R.slots)
    (kk : ∀ (u : U) (H1 : Heap) (locs1 : List Loc), va_P D cl (pre ++ Bw u) H1 → va_D A (pre ++ Bw u) → va_S A H0 H1 locs1 → W p l e R s m args below meth c H1 locs1 (cells + mc) (slots + ms) Q (F0 m (pc + 3) ls rest)) : W p l e R s m args below meth c H locs cells slots Q (F0 m pc ls (.ref b :: rest)) := by
  have hFc := bb_Amid (bb_Dmid hD) hS.1 hA
  refine va_callv (va_runI (b := b) (As := []) (rest := rest) S hM cw ⟨bb_Pm_blind, fun U hU hW' => ⟨rfl, by rw [hU], by rw [hU]; exact bb_Pmid hP, va_K.moved hW'.alike hK, (bb_Dmid hD).weaken (fun _ _ _ _ => trivial)⟩⟩ rfl rfl hsize rfl (lv_room hW) hdg ⟨hc, hs⟩) hS (fun q _ h => hFc q h) hFc (fun u t H1 locs1 ht _ _ hB _ hk hS1 => ?_)
  rw [ht] at hB
  obtain ⟨hP1, hD1⟩ := va_join hP hD isC isR hC hR hnd hdis hk hFc hB.1 hB.2
  exact kk u H1 locs1 hP1 hD1 hS1
end BbCtorCall
