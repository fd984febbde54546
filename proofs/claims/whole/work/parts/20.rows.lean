/-! rows of our own: loops, pure calls, array reads by a number -/
theorem bb_for {I : Nat → Array Slot → Prop} {G : Array Slot → Prop} (N : Nat) (step : ∀ j ls, j < N → I j ls → (∀ ls', I (j + 1) ls' → G ls') → G ls) (exit : ∀ ls, I N ls → G ls) : ∀ j ls, j ≤ N → I j ls → G ls := by
  intro j
  induction h : N - j generalizing j with
  | zero =>
    intro ls hj hi
    have e1 : j = N := by omega
    subst e1
    exact exit ls hi
  | succ d ih =>
    intro ls hj hi
    exact step j ls (by omega) hi (fun ls' h' => ih (j + 1) (by omega) ls' (by omega) h')
theorem bb_forH {I : Nat → Array Slot → Heap → List Loc → Prop} {G : Array Slot → Heap → List Loc → Prop} (N : Nat) (step : ∀ j ls H L, j < N → I j ls H L → (∀ ls' H' L', I (j + 1) ls' H' L' → G ls' H' L') → G ls H L) (exit : ∀ ls H L, I N ls H L → G ls H L) : ∀ j ls H L, j ≤ N → I j ls H L → G ls H L := by
  intro j
  induction h : N - j generalizing j with
  | zero =>
    intro ls H L hj hi
    have e1 : j = N := by omega
    subst e1
    exact exit ls H L hi
  | succ d ih =>
    intro ls H L hj hi
    exact step j ls H L (by omega) hi (fun ls' H' L' h' => ih (j + 1) (by omega) ls' H' L' (by omega) h')
theorem bb_down {I : Nat → Array Slot → Prop} {G : Array Slot → Prop} (step : ∀ j ls, I (j + 1) ls → (∀ ls', I j ls' → G ls') → G ls) (exit : ∀ ls, I 0 ls → G ls) : ∀ j ls, I j ls → G ls := by
  intro j
  induction j with
  | zero => exact exit
  | succ j ih => exact fun ls hi => step j ls hi ih
theorem bb_inc (j : Nat) : nI j + Int32.ofInt 1 = nI (j + 1) := (nI_succ j).symm
theorem bb_dec (j : Nat) : nI (j + 1) - 1 + Int32.ofInt (-1) = nI j - 1 := by
  rw [nI_succ]
  apply Int32.toBitVec_inj.mp
  show ((nI j).toBitVec + 1#32 - 1#32) + (-1#32) = (nI j).toBitVec - 1#32
  generalize (nI j).toBitVec = x
  rw [BitVec.sub_eq_add_neg, BitVec.sub_eq_add_neg, BitVec.add_assoc x, BitVec.add_assoc x]
  congr 1
theorem bb_z0 : narrow .boolean (.int 0) = .int 0 := rfl
theorem bb_z1 : narrow .boolean (.int 1) = .int 1 := rfl
theorem bb_zI (b : Bool) : narrow .boolean (.int (bb_I b)) = .int (bb_I b) := by cases b <;> rfl
def bb_B (D : va_G) (cl : List vw_C) (wd : va_W) (tys : List (ClassId × FieldType)) : State → Prop := fun U => va_P D cl wd U.heap ∧ va_K D cl tys U
theorem bb_blind {av : List Value} {D : va_G} {cl : List vw_C} {wd : va_W} {tys : List (ClassId × FieldType)} : FrameBlind (va_Pc av (bb_B D cl wd tys)) :=
  fun a U g mk q => ⟨q.1, q.2.1, va_K.moved (u := U) (U := U.calling g mk a) (Vm.Alike.refl U.vm) q.2.2⟩
section BbRows
variable {p : Program} {l : Launch} {e : Env} {R : Room} {s : State} {m : MethodId} {args : Array Value} {below : List Frame} {meth : Method} {c : Code} {H : Heap} {locs : List Loc} {cells slots : Nat} {Q : State → Prop} {pc : Nat} {ls : Array Slot} {st rest : List Value} {cc : ByteArray}
theorem bb_topi {x y : Int32} (e1 : x = y) (k : W p l e R s m args below meth c H locs cells slots Q (F0 m pc ls (.int y :: rest))) : W p l e R s m args below meth c H locs cells slots Q (F0 m pc ls (.int x :: rest)) := by
  subst e1
  exact k
theorem bb_ald {D : va_G} {cl : List vw_C} {wd : va_W} {tys : List (ClassId × FieldType)} {a : Nat} (hexec : p.tables.exec = Jvm.exec) (hb : c.code = cc) (hK : va_K D cl tys s) (hP : va_P D cl wd H) (q0 t0 : Nat) {cA : ClassId} {n : Nat} {f : Nat → Int32} (ha : wd[q0]? = some (a, .inl (cA, n, .inl f))) (ht : tys[t0]? = some (cA, .int)) (j : Nat) (hj : j < n) (hn : n < 2 ^ 31) (hdg : decode cc pc = .ok (.iaload, 1))
    (kk : W p l e R s m args below meth c H locs cells slots Q (F0 m (pc + 1) ls (.int (f j) :: rest))) : W p l e R s m args below meth c H locs cells slots Q (F0 m pc ls (.int (nI j) :: .ref a :: rest)) := by
  refine va_iald hexec hb hK hP q0 t0 ha ht (vp_in_nI hj hn) hdg ?_
  rw [nI_clamp (Nat.lt_trans hj hn)]
  exact kk
theorem bb_ast {D : va_G} {cl : List vw_C} {wd : va_W} {tys : List (ClassId × FieldType)} {a : Nat} {A : Nat → Prop} {H0 : Heap} (hexec : p.tables.exec = Jvm.exec) (hb : c.code = cc) (hK : va_K D cl tys s) (hP : va_P D cl wd H) (hD : va_D A wd) (hS : va_S A H0 H locs) (q0 t0 : Nat) {cA : ClassId} {n : Nat} {f : Nat → Int32} (ha : wd[q0]? = some (a, .inl (cA, n, .inl f))) (ht : tys[t0]? = some (cA, .int)) (j : Nat) {x : Int32} (hj : j < n) (hn : n < 2 ^ 31) (hdg : decode cc pc = .ok (.iastore, 1))
    (kk : ∀ (H1 : Heap) (locs1 : List Loc), va_P D cl (wd.set q0 (a, .inl (cA, n, .inl (upd f j x)))) H1 → va_D A (wd.set q0 (a, .inl (cA, n, .inl (upd f j x)))) → va_S A H0 H1 locs1 → W p l e R s m args below meth c H1 locs1 cells slots Q (F0 m (pc + 1) ls rest)) : W p l e R s m args below meth c H locs cells slots Q (F0 m pc ls (.int x :: .int (nI j) :: .ref a :: rest)) := by
  refine va_iast hexec hb hK hP hD hS q0 t0 ha ht (vp_in_nI hj hn) hdg ?_
  rw [nI_clamp (Nat.lt_trans hj hn)]
  exact kk
variable {Ts ws ws' : List Cond} {bytes : ByteArray} {nL maxL index n : Nat} {own C : String} {y : MethodName} {ret : Option FieldType} {rm : Room} {As : List Value} {r : Int32}
/-- a static call that reads nothing -/
theorem bb_cS (S : CallFix p m c cc nL s args Ts own) (hM : Met l y ws rm (va_Pc As (fun _ => True)) (QcRead r) 0 0 (fun _ => False)) (cw : CallB R s args own index y bytes maxL ret ws rm 0 0 n ∧ (Cond.static y).before args s = true)
    (hn : As.length = n) (hsize : ls.size = nL) (hstack : st = As.reverse ++ rest) (hW : (rest.map fun v => v.category).sum ≤ 8) (hdg : decode cc pc = .ok (.invokestatic index, 3)) (hc : cells ≤ R.cells) (hs : slots ≤ R.slots)
    (kk : W p l e R s m args below meth c H locs cells slots Q (F0 m (pc + 3) ls (.int r :: rest))) : W p l e R s m args below meth c H locs cells slots Q (F0 m pc ls st) :=
  W.callR (a := As.toArray) (W.runS (g := F0 m pc ls st) (rest := rest) S hM cw ⟨fun _ _ _ _ q => q, fun _ _ _ => ⟨rfl, trivial⟩⟩ rfl hn hsize hstack (lv_room hW) hdg ⟨hc, hs⟩) kk
/-- a virtual call that reads the same world -/
theorem bb_cV {D : va_G} {cl : List vw_C} {wd : va_W} {tys : List (ClassId × FieldType)} {b ci : Nat} (q0 : Nat) {fs : List Value} {T : u_T} {N : Nat} (S : CallFix p m c cc nL s args Ts own) (hM : Met l y ws rm (va_Pc (.ref b :: As) (bb_B D cl wd tys)) (QcRead r) 0 0 (fun _ => False)) (cw : CallW R s args own C index y bytes maxL ret ws rm 0 0 n)
    (hP : va_P D cl wd H) (hK : va_K D cl tys s) (he : wd[q0]? = some (b, .inr (ci, fs))) (hcl : cl[ci]? = some (C, T, N))
    (hn : As.length = n) (hsize : ls.size = nL) (hstack : st = As.reverse ++ .ref b :: rest) (hW : (rest.map fun v => v.category).sum ≤ 8) (hdg : decode cc pc = .ok (.invokevirtual index, 3)) (hc : cells ≤ R.cells) (hs : slots ≤ R.slots)
    (kk : W p l e R s m args below meth c H locs cells slots Q (F0 m (pc + 3) ls (.int r :: rest))) : W p l e R s m args below meth c H locs cells slots Q (F0 m pc ls st) :=
  W.callR (a := (.ref b :: As).toArray) (W.runV (g := F0 m pc ls st) (rest := rest) (b := b) (C := C) S hM cw ⟨bb_blind, va_recv hK hP hcl he, fun U hU hW' => ⟨rfl, by rw [hU]; exact hP, va_K.moved hW'.alike hK⟩⟩ rfl hn hsize hstack (lv_room hW) hdg ⟨hc, hs⟩) kk
end BbRows
theorem bb_cell_ext {cA : ClassId} {n : Nat} {f g : Nat → Int32} (h : ∀ j, j < n → f j = g j) : vp_cell cA (n, .inl f) = vp_cell cA (n, .inl g) := by
  rw [vp_cell_i, vp_cell_i]
  unfold arrV
  congr 2
  funext j
  show Value.int (f j.val) = Value.int (g j.val)
  rw [h j.val j.isLt]
theorem bb_P_ext {D : va_G} {cl : List vw_C} {wd : va_W} {H : Heap} {A : Nat → Prop} {q0 a : Nat} {cA : ClassId} {n : Nat} {f g : Nat → Int32} (hP : va_P D cl wd H) (hD : va_D A wd) (ha : wd[q0]? = some (a, .inl (cA, n, .inl f))) (h : ∀ j, j < n → f j = g j) : va_P D cl (wd.set q0 (a, .inl (cA, n, .inl g))) H := by
  refine hP.set hD ha ?_ (fun q _ => rfl)
  show H[a]? = some (vp_cell cA (n, .inl g))
  rw [← bb_cell_ext h]
  exact hP q0 _ ha
theorem bb_nz {b : Bool} (h : ¬ bb_I b = 0) : b = true := by cases b with | true => rfl | false => exact absurd rfl h
theorem bb_le {x y : Int32} (h : ¬ x < y) : y ≤ x := by rw [Int32.lt_iff_toInt_lt] at h; rw [Int32.le_iff_toInt_le]; omega
theorem bb_lt {x y : Int32} (h : ¬ x ≤ y) : y < x := by rw [Int32.le_iff_toInt_le] at h; rw [Int32.lt_iff_toInt_lt]; omega
theorem bb_nle {x y : Int32} (h : x < y) : ¬ y ≤ x := by rw [Int32.lt_iff_toInt_lt] at h; rw [Int32.le_iff_toInt_le]; omega
theorem bb_nlt {x y : Int32} (h : x ≤ y) : ¬ y < x := by rw [Int32.le_iff_toInt_le] at h; rw [Int32.lt_iff_toInt_lt]; omega
/-- a walk from the start, its heap as a name -/
theorem bb_gen {p : Program} {l : Launch} {e : Env} {R : Room} {s : State} {m : MethodId} {args : Array Value} {below : List Frame} {meth : Method} {c : Code} {cells slots : Nat} {Q : State → Prop} {g : JFrame} {A : Nat → Prop} {D : va_G} {cl : List vw_C} {wd : va_W} (hP : va_P D cl wd s.heap) (hD : va_D A wd)
    (k : ∀ (H : Heap) (locs : List Loc), va_P D cl wd H → va_D A wd → va_S A s.heap H locs → W p l e R s m args below meth c H locs cells slots Q g) : W p l e R s m args below meth c s.heap [] cells slots Q g := k s.heap [] hP hD va_S.rf
/-- a contract's start and end where cells change -/
def bb_Pm (av : List Value) (D : va_G) (cl : List vw_C) (wd : va_W) (tys : List (ClassId × FieldType)) (sz : Nat) : Array Value → State → Prop := va_Pc av (fun U => U.heap.size = sz ∧ va_P D cl wd U.heap ∧ va_K D cl tys U ∧ va_D (fun _ => True) wd)
theorem bb_Pm_blind {av : List Value} {D : va_G} {cl : List vw_C} {wd : va_W} {tys : List (ClassId × FieldType)} {sz : Nat} : FrameBlind (bb_Pm av D cl wd tys sz) :=
  fun a U g mk q => ⟨q.1, q.2.1, q.2.2.1, va_K.moved (u := U) (U := U.calling g mk a) (Vm.Alike.refl U.vm) q.2.2.2.1, q.2.2.2.2⟩
abbrev bb_Qm (r : Int32) (D : va_G) (cl : List vw_C) (wd : va_W) (A : Nat → Prop) : Array Value → State → Outcome → State → Prop := va_Qi (S := Unit) (fun x _ => x = r) (fun _ t => va_P D cl wd t.heap) A
abbrev bb_Qv (D : va_G) (cl : List vw_C) (wd : va_W) (A : Nat → Prop) : Array Value → State → Outcome → State → Prop := va_Qv (S := Unit) (fun _ => True) (fun _ t => va_P D cl wd t.heap) A
/-- apart by its addresses alone -/
theorem bb_D_addr {A : Nat → Prop} {wd wd' : va_W} (h : va_D A wd) (ha : wd'.map Prod.fst = wd.map Prod.fst) : va_D A wd' := by
  have key : ∀ (i : Nat) (q : Nat × va_E), wd'[i]? = some q → ∃ e : va_E, wd[i]? = some (q.1, e) := by
    intro i q hq
    have h1 : (wd'.map Prod.fst)[i]? = some q.1 := by rw [List.getElem?_map, hq]; rfl
    rw [ha, List.getElem?_map] at h1
    cases h2 : wd[i]? with
    | none => rw [h2] at h1; cases h1
    | some z =>
      rw [h2] at h1
      have h3 : z.1 = q.1 := Option.some.inj h1
      exact ⟨z.2, by rw [← h3]⟩
  refine ⟨fun i j p q hp hq he => ?_, fun k q hq => ?_⟩
  · obtain ⟨e1, h1⟩ := key i p hp
    obtain ⟨e2, h2⟩ := key j q hq
    exact h.1 i j _ _ h1 h2 he
  · obtain ⟨e1, h1⟩ := key k q hq
    exact h.2 k (q.1, e1) h1
/-- what lies beside the cells that a callee may change is as it was -/
theorem bb_frame {A : Nat → Prop} {D : va_G} {cl : List vw_C} {pre wc wc' post : va_W} {H H1 : Heap} (hP : va_P D cl (pre ++ wc ++ post) H) (hD : va_D A (pre ++ wc ++ post)) (hk : ∀ q : Nat, q < H.size → ¬ va_A wc H.size q → H1[q]? = H[q]?) (hP1 : va_P D cl wc' H1) : va_P D cl (pre ++ wc' ++ post) H1 := by
  have old : ∀ (i : Nat) (q : Nat × va_E), (pre ++ wc ++ post)[i]? = some q → ¬ (pre.length ≤ i ∧ i < pre.length + wc.length) → va_at D cl q H1 := by
    intro i q hq hi
    have h0 := hP i q hq
    refine h0.kept (hk _ h0.lt ?_)
    rintro (⟨k, e, h⟩ | h)
    · have h1 : (pre ++ wc ++ post)[pre.length + k]? = some (q.1, e) := by
        have hlt : k < wc.length := (List.getElem?_eq_some_iff.mp h).1
        rw [List.append_assoc, List.getElem?_append_right (by omega), List.getElem?_append_left (by omega)]
        rw [show pre.length + k - pre.length = k by omega]
        exact h
      have h2 := hD.1 i (pre.length + k) q (q.1, e) hq h1 rfl
      have hlt : k < wc.length := (List.getElem?_eq_some_iff.mp h).1
      exact hi ⟨by omega, by omega⟩
    · have := h0.lt
      omega
  intro i q hq
  rcases Nat.lt_or_ge i pre.length with h1 | h1
  · refine old i q ?_ (by omega)
    rw [List.append_assoc, List.getElem?_append_left h1] at hq ⊢
    exact hq
  · rw [List.append_assoc, List.getElem?_append_right h1] at hq
    rcases Nat.lt_or_ge (i - pre.length) wc'.length with h2 | h2
    · rw [List.getElem?_append_left h2] at hq
      exact hP1 _ q hq
    · rw [List.getElem?_append_right h2] at hq
      refine old (pre.length + wc.length + (i - pre.length - wc'.length)) q ?_ (by omega)
      rw [List.append_assoc, List.getElem?_append_right (by omega), List.getElem?_append_right (by omega)]
      rw [show pre.length + wc.length + (i - pre.length - wc'.length) - pre.length - wc.length = i - pre.length - wc'.length by omega]
      exact hq
section BbCallM
variable {p : Program} {l : Launch} {e : Env} {R : Room} {s : State} {m : MethodId} {args : Array Value} {below : List Frame} {meth : Method} {c : Code} {H H0 : Heap} {locs : List Loc} {cells slots : Nat} {Q : State → Prop} {pc : Nat} {ls : Array Slot} {st rest : List Value} {cc : ByteArray}
variable {Ts ws ws' : List Cond} {bytes : ByteArray} {nL maxL index n mc ms : Nat} {own C : String} {y : MethodName} {ret : Option FieldType} {rm : Room} {As : List Value} {r : Int32} {A : Nat → Prop} {D : va_G} {cl : List vw_C} {wd wd' pre wc wc' post : va_W} {tys tyc : List (ClassId × FieldType)}
/-- a virtual call that changes its world, which is all of ours -/
theorem bb_cVm {b ci : Nat} (q0 : Nat) {fs : List Value} {T : u_T} {N : Nat} (S : CallFix p m c cc nL s args Ts own) (hM : Met l y ws rm (bb_Pm (.ref b :: As) D cl wd tys H.size) (bb_Qm r D cl wd' (va_A wd H.size)) mc ms (va_A wd H.size)) (cw : CallW R s args own C index y bytes maxL ret ws rm mc ms n)
    (hP : va_P D cl wd H) (hK : va_K D cl tys s) (hD : va_D A wd) (hS : va_S A H0 H locs) (hA : ∀ q : Nat, H0.size ≤ q → A q) (hadd : wd'.map Prod.fst = wd.map Prod.fst) (he : wd[q0]? = some (b, .inr (ci, fs))) (hcl : cl[ci]? = some (C, T, N))
    (hn : As.length = n) (hsize : ls.size = nL) (hstack : st = As.reverse ++ .ref b :: rest) (hW : (rest.map fun v => v.category).sum ≤ 8) (hdg : decode cc pc = .ok (.invokevirtual index, 3)) (hc : cells + mc ≤ R.cells) (hs : slots + ms ≤ R.slots)
    (kk : ∀ (H1 : Heap) (locs1 : List Loc), va_P D cl wd' H1 → va_D A wd' → va_S A H0 H1 locs1 → W p l e R s m args below meth c H1 locs1 (cells + mc) (slots + ms) Q (F0 m (pc + 3) ls (.int r :: rest))) : W p l e R s m args below meth c H locs cells slots Q (F0 m pc ls st) := by
  have hFc : ∀ q, va_A wd H.size q → A q := by
    rintro q (⟨k, e9, h⟩ | h)
    · exact hD.2 k _ h
    · exact hA q (Nat.le_trans hS.1 h)
  refine va_calli (va_runV (b := b) (C := C) (As := As) (rest := rest) S hM cw ⟨bb_Pm_blind, va_recv hK hP hcl he, fun U hU hW' => ⟨rfl, by rw [hU], by rw [hU]; exact hP, va_K.moved hW'.alike hK, hD.weaken (fun _ _ _ _ => trivial)⟩⟩ rfl hn hsize hstack (lv_room hW) hdg ⟨hc, hs⟩) hS (fun q _ h => hFc q h) hFc (fun r' u t H1 locs1 ht _ hpost hB _ _ hS1 => ?_)
  subst hpost
  rw [ht] at hB
  exact kk H1 locs1 hB (bb_D_addr hD hadd) hS1
end BbCallM
def bb_QV : Array Value → State → Outcome → State → Prop := fun _ st o t => o = .returned none ∧ t.heap = st.heap
section BbCallV
variable {p : Program} {l : Launch} {e : Env} {R : Room} {s : State} {m : MethodId} {args : Array Value} {below : List Frame} {meth : Method} {c : Code} {H H0 : Heap} {locs : List Loc} {cells slots : Nat} {Q : State → Prop} {pc : Nat} {ls : Array Slot} {st rest : List Value} {cc : ByteArray}
variable {Ts ws ws' : List Cond} {bytes : ByteArray} {nL maxL index n mc ms : Nat} {own C : String} {y : MethodName} {ret : Option FieldType} {rm : Room} {As : List Value} {r : Int32} {A : Nat → Prop} {D : va_G} {cl : List vw_C} {wd wd' : va_W} {tys : List (ClassId × FieldType)}
/-- a static call that hands nothing back and changes nothing -/
theorem bb_cSv (S : CallFix p m c cc nL s args Ts own) (hM : Met l y ws rm (va_Pc As (fun _ => True)) bb_QV 0 0 (fun _ => False)) (cw : CallB R s args own index y bytes maxL ret ws rm 0 0 n ∧ (Cond.static y).before args s = true)
    (hn : As.length = n) (hsize : ls.size = nL) (hstack : st = As.reverse ++ rest) (hW : (rest.map fun v => v.category).sum ≤ 8) (hdg : decode cc pc = .ok (.invokestatic index, 3)) (hc : cells ≤ R.cells) (hs : slots ≤ R.slots)
    (kk : W p l e R s m args below meth c H locs cells slots Q (F0 m (pc + 3) ls rest)) : W p l e R s m args below meth c H locs cells slots Q (F0 m pc ls st) := by
  have hr : CallRun p l e R s m args below meth c H locs cells slots 0 0 (F0 m pc ls st) rest (bb_QV As.toArray) (fun _ => False) :=
    W.runS (g := F0 m pc ls st) (rest := rest) S hM cw ⟨fun _ _ _ _ q => q, fun _ _ _ => ⟨rfl, trivial⟩⟩ rfl hn hsize hstack (lv_room hW) hdg ⟨hc, hs⟩
  intro T hT X
  obtain ⟨v, st₀, t, T', L, h0, X', hL, e1, ⟨hv, hh⟩, stp⟩ := hr T hT X
  cases hv
  obtain ⟨t2, a1, b1⟩ := kk T' (by rw [e1, hh, h0]) (Stand.forget X' (fun q h => (hL q h).elim))
  exact ⟨t2, stp t2 a1, b1⟩
/-- a virtual call that hands nothing back and changes its world, which is all of ours -/
theorem bb_cVmv {b ci : Nat} (q0 : Nat) {fs : List Value} {T : u_T} {N : Nat} (S : CallFix p m c cc nL s args Ts own) (hM : Met l y ws rm (bb_Pm (.ref b :: As) D cl wd tys H.size) (bb_Qv D cl wd' (va_A wd H.size)) mc ms (va_A wd H.size)) (cw : CallW R s args own C index y bytes maxL ret ws rm mc ms n)
    (hP : va_P D cl wd H) (hK : va_K D cl tys s) (hD : va_D A wd) (hS : va_S A H0 H locs) (hA : ∀ q : Nat, H0.size ≤ q → A q) (hadd : wd'.map Prod.fst = wd.map Prod.fst) (he : wd[q0]? = some (b, .inr (ci, fs))) (hcl : cl[ci]? = some (C, T, N))
    (hn : As.length = n) (hsize : ls.size = nL) (hstack : st = As.reverse ++ .ref b :: rest) (hW : (rest.map fun v => v.category).sum ≤ 8) (hdg : decode cc pc = .ok (.invokevirtual index, 3)) (hc : cells + mc ≤ R.cells) (hs : slots + ms ≤ R.slots)
    (kk : ∀ (H1 : Heap) (locs1 : List Loc), va_P D cl wd' H1 → va_D A wd' → va_S A H0 H1 locs1 → W p l e R s m args below meth c H1 locs1 (cells + mc) (slots + ms) Q (F0 m (pc + 3) ls rest)) : W p l e R s m args below meth c H locs cells slots Q (F0 m pc ls st) := by
  have hFc : ∀ q, va_A wd H.size q → A q := by
    rintro q (⟨k, e9, h⟩ | h)
    · exact hD.2 k _ h
    · exact hA q (Nat.le_trans hS.1 h)
  refine va_callv (va_runV (b := b) (C := C) (As := As) (rest := rest) S hM cw ⟨bb_Pm_blind, va_recv hK hP hcl he, fun U hU hW' => ⟨rfl, by rw [hU], by rw [hU]; exact hP, va_K.moved hW'.alike hK, hD.weaken (fun _ _ _ _ => trivial)⟩⟩ rfl hn hsize hstack (lv_room hW) hdg ⟨hc, hs⟩) hS (fun q _ h => hFc q h) hFc (fun u t H1 locs1 ht _ _ hB _ _ hS1 => ?_)
  rw [ht] at hB
  exact kk H1 locs1 hB (bb_D_addr hD hadd) hS1
end BbCallV
section BbLoops
variable {p : Program} {l : Launch} {e : Env} {R : Room} {s : State} {m : MethodId} {args : Array Value} {below : List Frame} {meth : Method} {c : Code} {H : Heap} {locs : List Loc} {cells slots : Nat} {Q : State → Prop} {pc : Nat} {st : List Value}
theorem bb_forW {I : Nat → Array Slot → Prop} (N : Nat) (step : ∀ j ls, j < N → I j ls → (∀ ls', I (j + 1) ls' → W p l e R s m args below meth c H locs cells slots Q (F0 m pc ls' st)) → W p l e R s m args below meth c H locs cells slots Q (F0 m pc ls st)) (exit : ∀ ls, I N ls → W p l e R s m args below meth c H locs cells slots Q (F0 m pc ls st)) (j : Nat) (ls : Array Slot) (hj : j ≤ N) (hi : I j ls) : W p l e R s m args below meth c H locs cells slots Q (F0 m pc ls st) :=
  bb_for (G := fun ls => W p l e R s m args below meth c H locs cells slots Q (F0 m pc ls st)) N step exit j ls hj hi
theorem bb_downW {I : Nat → Array Slot → Prop} (step : ∀ j ls, I (j + 1) ls → (∀ ls', I j ls' → W p l e R s m args below meth c H locs cells slots Q (F0 m pc ls' st)) → W p l e R s m args below meth c H locs cells slots Q (F0 m pc ls st)) (exit : ∀ ls, I 0 ls → W p l e R s m args below meth c H locs cells slots Q (F0 m pc ls st)) (j : Nat) (ls : Array Slot) (hi : I j ls) : W p l e R s m args below meth c H locs cells slots Q (F0 m pc ls st) :=
  bb_down (G := fun ls => W p l e R s m args below meth c H locs cells slots Q (F0 m pc ls st)) step exit j ls hi
theorem bb_forHW {I : Nat → Array Slot → Heap → List Loc → Prop} (N : Nat) (step : ∀ j ls H L, j < N → I j ls H L → (∀ ls' H' L', I (j + 1) ls' H' L' → W p l e R s m args below meth c H' L' cells slots Q (F0 m pc ls' st)) → W p l e R s m args below meth c H L cells slots Q (F0 m pc ls st)) (exit : ∀ ls H L, I N ls H L → W p l e R s m args below meth c H L cells slots Q (F0 m pc ls st)) (j : Nat) (ls : Array Slot) (H : Heap) (L : List Loc) (hj : j ≤ N) (hi : I j ls H L) : W p l e R s m args below meth c H L cells slots Q (F0 m pc ls st) :=
  bb_forH (G := fun ls H L => W p l e R s m args below meth c H L cells slots Q (F0 m pc ls st)) N step exit j ls H L hj hi
end BbLoops
theorem bb_al_step {p : Nat → Bool} {j : Nat} (h : bb_al p j = true) (hp : p j = true) : bb_al p (j + 1) = true := by
  simp only [bb_al]; rw [h, hp]; rfl
theorem bb_ex_step {p : Nat → Bool} {j : Nat} (h : bb_ex p j = false) (hp : p j = false) : bb_ex p (j + 1) = false := by
  simp only [bb_ex]; rw [h, hp]; rfl
