/-! THE CLAIM OUT OF ONE WALK OF THE LAW'S BODY. Your part is whole_start (and what it stands on); all else here is the same for every law, but numbers. -/
def R_law : String := "BallotBoxLaw"
def lw_P (b : Addr) (xs : List Int32) (args : Array Value) (s : State) : Prop := args = #[.ref b] ∧ s.IntsAt b xs ∧ xs.length ≤ 2048 ∧ (Jvm.Cond.and given_1 narrow_1).before args s = true
def lw_Q (_ : Array Value) (s : State) (o : Outcome) (t : State) : Prop := o = .returned (some (.int 1)) ∧ Framed s o t [] 1046 8687
def lw_Z (below : List Frame) (a : Array Value) (s : State) : State → Prop := fun t => ∃ o, t.status = .running ∧ Ended t below o ∧ lw_Q a s o t
/-- the law's own end, with 1 on the stack, nothing written that was there before, its room as the claim has it -/
theorem lw_ret {p : Program} {l : Launch} {e : Env} {s : State} {m : MethodId} {below : List Frame} {meth : Method} {c : Code} {b : Nat} (hx : p.tables.exec = Jvm.exec) (hb : c.code = code) (hr : meth.sig.returnType = ret) (hlocks : meth.locks = false) {pc : Nat} {H : Heap} {ls : Array Slot} (hdg : decode code pc = .ok (.ireturn, 1)) : W p l e room_1 s m #[Value.ref b] below meth c H [] 1046 8687 (lw_Z below #[Value.ref b] s) (F0 m pc ls [.int 1]) := by
  intro T hT X
  obtain ⟨fs, hret, hrun, hended, hW, hframe⟩ := X.leave (v := some (.int 1)) (hlocks := hlocks) (fun h => by rw [hr] at h; cases h)
  have hmeth' : T.vm.method? m = some meth := X.method'
  refine ⟨T.setFrames fs, ?_, .returned (some (.int 1)), hrun, hended, rfl, ⟨_, rfl⟩, hW, hframe⟩
  jvm_step X.here [X.here.top, hx, hb, hdg, hmeth', hr, ret, narrow_b1]
  (try refine ⟨rfl, ?_⟩); (try refine ⟨rfl, ?_⟩)
  first | (intro acts; rw [hret _ acts rfl rfl rfl]) | rw [hret _ _ rfl rfl rfl]
  exact Steps.refl _
/-- what holds at the law's entry: the machine, the code, the tables' words (any of lw_tbl by 'hts w (by decide +kernel)'), the script of L ints xs at the cell b, what the Statement gives of the start (any of its parts by flat_of_before) -/
def lw_At (p : Program) (s : State) (m : MethodId) (meth : Method) (c : Code) (b L : Nat) (xs : Nat → Int32) : Prop :=
  p.tables.exec = Jvm.exec ∧ c.code = code ∧ meth.sig.returnType = ret ∧ c.maxLocals = 7 ∧ s.vm.findClass R_law = some m.cls ∧ (∀ w ∈ lw_tbl, w.before #[Value.ref b] s = true) ∧ va_X b L xs s s.heap ∧ b < s.heap.size ∧ meth.locks = false ∧ (Jvm.Cond.and given_1 narrow_1).before #[Value.ref b] s = true
theorem dL_law_1000 : decode cL_law 1000 = .ok (.ireturn, 1) := by decide +kernel
theorem bb_tm {w : Cond} (i : Nat) (h : tables_1[i]? = some w) : w ∈ lw_tbl := List.mem_append_right _ (List.mem_of_getElem? h)
def bb_strI : List Nat := [157, 193, 207, 219, 229, 246, 251, 256, 267, 268, 276, 350]
theorem bb_strT : ∀ q ∈ bb_strs, Cond.stringRef RX0 q.1 q.2 ∈ lw_tbl := by
  intro q hq
  simp only [bb_strs, List.mem_cons, List.not_mem_nil, or_false] at hq
  rcases hq with rfl | rfl | rfl | rfl | rfl | rfl | rfl | rfl | rfl | rfl | rfl | rfl
  · exact bb_tm 157 (by decide +kernel)
  · exact bb_tm 193 (by decide +kernel)
  · exact bb_tm 207 (by decide +kernel)
  · exact bb_tm 219 (by decide +kernel)
  · exact bb_tm 229 (by decide +kernel)
  · exact bb_tm 246 (by decide +kernel)
  · exact bb_tm 251 (by decide +kernel)
  · exact bb_tm 256 (by decide +kernel)
  · exact bb_tm 267 (by decide +kernel)
  · exact bb_tm 268 (by decide +kernel)
  · exact bb_tm 276 (by decide +kernel)
  · exact bb_tm 350 (by decide +kernel)
theorem bb_TS_start {args : Array Value} {s : State} (hts : ∀ w ∈ lw_tbl, w.before args s = true) (hg : (Jvm.Cond.and given_1 narrow_1).before args s = true) : bb_TS s.heap.size s := by
  have hs := flat_of_before _ hg
  have hcl : ∃ cB, s.vm.findClass RX0 = some cB := by
    obtain ⟨cB, -, h, -⟩ := Cond.instantiable_spec (hts (.instantiable RX0 5) (bb_tm 13 (by decide +kernel)))
    exact ⟨cB, h⟩
  obtain ⟨cB, hcB⟩ := hcl
  refine ⟨va_Nw.of rfl (hts (.castable NSE NSE) (bb_tm 118 (by decide +kernel))), va_Nw.of rfl (hts (.castable IAE IAE) (bb_tm 186 (by decide +kernel))), va_Nw.of rfl (hts (.castable ISE ISE) (bb_tm 222 (by decide +kernel))),
    va_Nw.of rfl (hts (.declares (Jvm.Bundle.initS RTE)) (bb_tm 120 (by decide +kernel))), va_Nw.of rfl (hts (.declares (Jvm.Bundle.initS EXC)) (bb_tm 122 (by decide +kernel))), va_Nw.of rfl (hts (.declares (Jvm.Bundle.initS Jvm.Bundle.tN)) (bb_tm 124 (by decide +kernel))),
    bb_Z.of (hts (.laysStatic Jvm.Bundle.tN "UNASSIGNED_STACK" Jvm.Bundle.steD) (bb_tm 143 (by decide +kernel))) (hs (.isRef (.static Jvm.Bundle.tN "UNASSIGNED_STACK" Jvm.Bundle.steD)) (by decide +kernel)),
    bb_Z.of (hts (.laysStatic Jvm.Bundle.tN "SUPPRESSED_SENTINEL" Jvm.Bundle.listD) (bb_tm 145 (by decide +kernel))) (hs (.isRef (.static Jvm.Bundle.tN "SUPPRESSED_SENTINEL" Jvm.Bundle.listD)) (by decide +kernel)),
    fun q hq => ?_, va_Nc.of (hs (.not (.castable IAE NSE)) (by decide +kernel)), va_Nc.of (hs (.not (.castable ISE NSE)) (by decide +kernel))⟩
  have h1 := hts _ (bb_strT q hq)
  obtain ⟨k, cf, i, a, -, -, -, -, -, h2⟩ := Cond.stringRef_spec hcB h1
  exact ⟨a, vk_R.of h1 h2⟩
def bb_dC (x y : ClassId) : Nat → ClassId := fun c => match c with
  | 0 => x
  | _ => y
def bb_dI (x y : Nat → Nat) : Nat → Nat → Nat := fun c => match c with
  | 0 => x
  | _ => y
theorem bb_K_start {args : Array Value} {s : State} (hts : ∀ w ∈ bb_T, w.before args s = true) : ∃ (dC : Nat → ClassId) (dI : Nat → Nat → Nat) (cA : ClassId), va_K (dC, dI) vwCl [(cA, .int)] s := by
  obtain ⟨c0, i0, h0⟩ := u_known hts bb_inX0 (hts _ bb_u13)
  obtain ⟨c1, i1, h1⟩ := u_known hts bb_inX1 (hts _ bb_u352)
  obtain ⟨cA, kA, comp, e1, e2, e3⟩ := Cond.arrayClass_spec (hts _ bb_u39)
  refine ⟨bb_dC c0 c1, bb_dI i0 i1, cA, fun c q hq => ?_, fun k q hq => ?_⟩
  · match c, hq with
    | 0, hq => cases hq; exact h0
    | 1, hq => cases hq; exact h1
    | c + 2, hq => cases hq
  · match k, hq with
    | 0, hq => cases hq; exact ⟨fun n z => ⟨fun k h => (by cases h), kA, e2, comp, e3⟩, e1⟩
    | k + 1, hq => cases hq
set_option maxHeartbeats 8000000 in
set_option maxRecDepth 100000 in
theorem whole_start {p : Program} {e : Env} {s : State} {m : MethodId} {below : List Frame} {meth : Method} {c : Code} (l : Launch) (htr : l.stackTraces = false) {b L : Nat} {xs : Nat → Int32} (hL : L ≤ 2048) (C0 : lw_At p s m meth c b L xs) : W p l e room_1 s m #[Value.ref b] below meth c s.heap [] 0 0 (lw_Z below #[Value.ref b] s) (entryFrame m ([Value.ref b] : List Value).toArray 7) := by
  obtain ⟨hx, hb0, hr, hml, hown0, hts0, hX, hbl, hlocks, hg⟩ := C0
  have hb : c.code = cL_law := hb0
  have hown : s.vm.findClass RL = some m.cls := hown0
  have hZ := bb_TS_start hts0 hg
  have htT : ∀ w ∈ bb_T, w.before #[Value.ref b] s = true := fun w hw => hts0 w (bb_TL w hw).1
  have hts : ∀ w ∈ wsL_law, w.before #[Value.ref b] s = true := fun w hw => by
    rcases List.mem_cons.mp hw with rfl | hw
    · exact hts0 _ (bb_tm 0 (by decide +kernel))
    · exact htT w hw
  obtain ⟨dC, dI, cA, hK⟩ := bb_K_start htT
  have hA : ∀ q : Nat, s.heap.size ≤ q → bb_A s q := fun _ h => h
  have hl := lv_entry ([.ref b]) (n := 7) (Nat.le_of_ble_eq_true rfl)
  rw [lg_entry_eq]
  generalize (lg_sl ([.ref b]) ++ List.replicate (7 - (lg_sl ([.ref b])).length) Slot.unset).toArray = ls at hl ⊢
  have hl : lv_has ls 7 [(0, .ref b)] := hl
  have hP0 : va_P (dC, dI) vwCl [] s.heap := fun k q hq => by cases hq
  have hD0 : va_D (bb_A s) [] := ⟨fun i j p q hp => (by cases hp), fun k q hq => by cases hq⟩
  refine va_new (ci := 0) (C := RX0) (T := TX0) (N := 5) (fs := [.null, .null, .null, .null, .int 0]) hx hb htT bb_inX0 tyX0 tyX0_ok hown (htT _ bb_u12) (htT _ bb_u13) (htT _ bb_t1) hK hP0 hD0 va_S.rf hA rfl (by decide) (Nat.le_of_ble_eq_true rfl) (Nat.le_of_ble_eq_true rfl) dL_law_0 (fun h0 H hP hD hS => ?_)
  refine lv_dup hx hb dL_law_3 rfl ?_
  refine bb_cI (pre := []) (wc := [(h0, .inr (0, [.null, .null, .null, .null, .int 0]))]) (Bw := fun u : Nat × Nat × Nat × Nat => bb_C h0 u.1 u.2.1 u.2.2.1 u.2.2.2 cA (fun _ => 1) (fun _ => 0) (fun _ => 0) (fun _ => (-1)) 6) ⟨hx, hb, hml, hown, hts⟩ (q_X0 l dC dI cA h0 H.size) (cwI 0 hts (bb_gI bb_u16) rfl rfl rfl (htT _ bb_t1) (htT _ bb_u14) (htT _ bb_u15) rfl (by decide +kernel) ⟨Nat.le_of_ble_eq_true rfl, Nat.le_of_ble_eq_true rfl⟩) hP hK hD hS hA [0] [] rfl rfl rfl (fun i h => by cases h) hl.1 (Nat.le_of_ble_eq_true rfl) dL_law_4 (Nat.le_of_ble_eq_true rfl) (Nat.le_of_ble_eq_true rfl) (fun u H locs hP hD hS => ?_)
  obtain ⟨a0, a1, a2, a3⟩ := u
  refine lv_astore_n (lv' := [(1, .ref h0), (0, .ref b)]) hx hb dL_law_7 rfl hl (by decide) rfl (fun ls hl => ?_)
  refine va_new (ci := 1) (C := RX1) (T := TX1) (N := 5) (fs := [.null, .null, .null, .int 0, .int 0]) hx hb htT bb_inX1 tyX1 tyX1_ok hown (htT _ bb_u351) (htT _ bb_u352) (htT _ bb_t3) hK hP hD hS hA rfl (by decide) (Nat.le_of_ble_eq_true rfl) (Nat.le_of_ble_eq_true rfl) dL_law_8 (fun g0 H hP hD hS => ?_)
  refine lv_dup hx hb dL_law_11 rfl ?_
  refine bb_cI (pre := bb_C h0 a0 a1 a2 a3 cA (fun _ => 1) (fun _ => 0) (fun _ => 0) (fun _ => (-1)) 6) (wc := [(g0, .inr (1, [.null, .null, .null, .int 0, .int 0]))]) (Bw := fun u : Nat × Nat × Nat => bb_M g0 u.1 u.2.1 u.2.2 cA (fun _ => 1) (fun _ => 0) (fun _ => (-1)) 6 0) ⟨hx, hb, hml, hown, hts⟩ (q_X1 l dC dI cA g0 H.size) (cwI 0 hts (bb_gI bb_u355) rfl rfl rfl (htT _ bb_t3) (htT _ bb_u353) (htT _ bb_u354) rfl (by decide +kernel) ⟨Nat.le_of_ble_eq_true rfl, Nat.le_of_ble_eq_true rfl⟩) hP hK hD hS hA [5] [0, 1, 2, 3, 4] rfl rfl rfl (by decide) hl.1 (Nat.le_of_ble_eq_true rfl) dL_law_12 (Nat.le_of_ble_eq_true rfl) (Nat.le_of_ble_eq_true rfl) (fun u H locs hP hD hS => ?_)
  obtain ⟨b0, b1, b2⟩ := u
  refine lv_astore_n (lv' := [(2, .ref g0), (1, .ref h0), (0, .ref b)]) hx hb dL_law_15 rfl hl (by decide) rfl (fun ls hl => ?_)
  refine lv_iconst (v := 1) hx hb dL_law_16 (by decide) ?_
  refine va_newa hx hb (atype := .long) (htT _ bb_u483) (ty := .long) rfl hK hP hD hS hA (N' := 1) (a0 := (1, .inr (.inl (fun _ => 0)))) (fun cB => by rw [vp_cell_l]; rfl) (by decide) (by decide) (by decide) (Nat.le_of_ble_eq_true rfl) (Nat.le_of_ble_eq_true rfl) dL_law_17 (fun o0 cL H hK2 hP hD hS => ?_)
  refine lv_astore_n (lv' := [(3, .ref o0), (2, .ref g0), (1, .ref h0), (0, .ref b)]) hx hb dL_law_19 rfl hl (by decide) rfl (fun ls hl => ?_)
  refine lv_iconst (v := nI 0) hx hb dL_law_20 (by decide) ?_
  refine lv_istore (lv' := [(4, .int (nI 0)), (3, .ref o0), (2, .ref g0), (1, .ref h0), (0, .ref b)]) hx hb dL_law_21 hl (by decide) rfl (fun ls hl => ?_)
  have hP := hP.sub (ws' := bb_F g0 b0 b1 b2 h0 a0 a1 a2 a3 o0 cA cL (fun _ => 1) (fun _ => 0) (fun _ => 0) (fun _ => (-1)) (fun _ => (-1)) 6 0 (fun _ => 0)) [5, 6, 7, 8, 0, 1, 2, 3, 4, 9] rfl
  have hD := hD.sub (ws' := bb_F g0 b0 b1 b2 h0 a0 a1 a2 a3 o0 cA cL (fun _ => 1) (fun _ => 0) (fun _ => 0) (fun _ => (-1)) (fun _ => (-1)) 6 0 (fun _ => 0)) [5, 6, 7, 8, 0, 1, 2, 3, 4, 9] rfl rfl
  refine W.widen (k := 10 + 0) (n := 423 + 6 * 0) (Nat.le_of_ble_eq_true rfl) (Nat.le_of_ble_eq_true rfl) ?_
  refine bb_loop (L := L) (xs := xs) ⟨hx, hb, hml, hown, hts, hX, hbl, hK2, hZ, htr, hL⟩ (fun H ls => ?_) (L / 4 - 0) 0 rfl (Nat.zero_le _) _ _ _ _ _ _ _ _ H locs ls (bb_ok_init (fun _ _ => rfl) (fun _ _ => rfl) (fun _ _ => rfl) (fun _ _ => rfl) (fun _ _ => rfl)) hP hD hS (lv_sub hl [4, 3, 2, 1, 0] rfl)
  refine lv_iconst (v := 1) hx hb dL_law_999 (by decide) ?_
  exact lw_ret hx hb0 hr hlocks dL_law_1000
