/-! calls whose world is a part of ours -/
theorem bb_mid {pre wc post : va_W} {k : Nat} {q : Nat × va_E} (h : wc[k]? = some q) : (pre ++ wc ++ post)[pre.length + k]? = some q := by
  have hlt : k < wc.length := (List.getElem?_eq_some_iff.mp h).1
  rw [List.append_assoc, List.getElem?_append_right (by omega), List.getElem?_append_left (by omega)]
  rw [show pre.length + k - pre.length = k by omega]
  exact h
theorem bb_Pmid {D : va_G} {cl : List vw_C} {pre wc post : va_W} {H : Heap} (hP : va_P D cl (pre ++ wc ++ post) H) : va_P D cl wc H := fun _ q hk => hP _ q (bb_mid hk)
theorem bb_Dmid {A : Nat → Prop} {pre wc post : va_W} (hD : va_D A (pre ++ wc ++ post)) : va_D A wc :=
  ⟨fun i j p q hp hq he => by have := hD.1 _ _ p q (bb_mid hp) (bb_mid hq) he; omega, fun _ q hk => hD.2 _ q (bb_mid hk)⟩
theorem bb_Amid {A : Nat → Prop} {wc : va_W} {H0 H : Heap} (hD : va_D A wc) (hz : H0.size ≤ H.size) (hA : ∀ q : Nat, H0.size ≤ q → A q) : ∀ q, va_A wc H.size q → A q := by
  rintro q (⟨k, e9, h⟩ | h)
  · exact hD.2 k _ h
  · exact hA q (Nat.le_trans hz h)
section BbPart
variable {p : Program} {l : Launch} {e : Env} {R : Room} {s : State} {m : MethodId} {args : Array Value} {below : List Frame} {meth : Method} {c : Code} {H H0 : Heap} {locs : List Loc} {cells slots : Nat} {Q : State → Prop} {pc : Nat} {ls : Array Slot} {st rest : List Value} {cc : ByteArray}
variable {Ts ws ws' : List Cond} {bytes : ByteArray} {nL maxL index n mc ms : Nat} {own C : String} {y : MethodName} {ret : Option FieldType} {rm : Room} {As : List Value} {r : Int32} {A : Nat → Prop} {D : va_G} {cl : List vw_C} {pre wc wc' post : va_W} {tyc : List (ClassId × FieldType)}
/-- a static call that hands nothing back and changes a part -/
theorem bb_cSf (S : CallFix p m c cc nL s args Ts own) (hM : Met l y ws rm (bb_Pm As D cl wc tyc H.size) (bb_Qv D cl wc' (va_A wc H.size)) mc ms (va_A wc H.size)) (cw : CallB R s args own index y bytes maxL ret ws rm mc ms n ∧ (Cond.static y).before args s = true)
    (hP : va_P D cl (pre ++ wc ++ post) H) (hK : va_K D cl tyc s) (hD : va_D A (pre ++ wc ++ post)) (hS : va_S A H0 H locs) (hA : ∀ q : Nat, H0.size ≤ q → A q) (hadd : wc'.map Prod.fst = wc.map Prod.fst)
    (hn : As.length = n) (hsize : ls.size = nL) (hstack : st = As.reverse ++ rest) (hW : (rest.map fun v => v.category).sum ≤ 8) (hdg : decode cc pc = .ok (.invokestatic index, 3)) (hc : cells + mc ≤ R.cells) (hs : slots + ms ≤ R.slots)
    (kk : ∀ (H1 : Heap) (locs1 : List Loc), va_P D cl (pre ++ wc' ++ post) H1 → va_D A (pre ++ wc' ++ post) → va_S A H0 H1 locs1 → W p l e R s m args below meth c H1 locs1 (cells + mc) (slots + ms) Q (F0 m (pc + 3) ls rest)) : W p l e R s m args below meth c H locs cells slots Q (F0 m pc ls st) := by
  have hFc := bb_Amid (bb_Dmid hD) hS.1 hA
  refine va_callv (va_runS (As := As) (rest := rest) S hM cw ⟨bb_Pm_blind, fun U hU hW' => ⟨rfl, by rw [hU], by rw [hU]; exact bb_Pmid hP, va_K.moved hW'.alike hK, (bb_Dmid hD).weaken (fun _ _ _ _ => trivial)⟩⟩ rfl hn hsize hstack (lv_room hW) hdg ⟨hc, hs⟩) hS (fun q _ h => hFc q h) hFc (fun u t H1 locs1 ht _ _ hB _ hk hS1 => ?_)
  rw [ht] at hB
  exact kk H1 locs1 (bb_frame hP hD hk hB) (bb_D_addr hD (by simp [hadd])) hS1
/-- a virtual call that hands an int back and changes a part -/
theorem bb_cVf {b ci : Nat} (q0 : Nat) {fs : List Value} {T : u_T} {N : Nat} (S : CallFix p m c cc nL s args Ts own) (hM : Met l y ws rm (bb_Pm (.ref b :: As) D cl wc tyc H.size) (bb_Qm r D cl wc' (va_A wc H.size)) mc ms (va_A wc H.size)) (cw : CallW R s args own C index y bytes maxL ret ws rm mc ms n)
    (hP : va_P D cl (pre ++ wc ++ post) H) (hK : va_K D cl tyc s) (hD : va_D A (pre ++ wc ++ post)) (hS : va_S A H0 H locs) (hA : ∀ q : Nat, H0.size ≤ q → A q) (hadd : wc'.map Prod.fst = wc.map Prod.fst) (he : wc[q0]? = some (b, .inr (ci, fs))) (hcl : cl[ci]? = some (C, T, N))
    (hn : As.length = n) (hsize : ls.size = nL) (hstack : st = As.reverse ++ .ref b :: rest) (hW : (rest.map fun v => v.category).sum ≤ 8) (hdg : decode cc pc = .ok (.invokevirtual index, 3)) (hc : cells + mc ≤ R.cells) (hs : slots + ms ≤ R.slots)
    (kk : ∀ (H1 : Heap) (locs1 : List Loc), va_P D cl (pre ++ wc' ++ post) H1 → va_D A (pre ++ wc' ++ post) → va_S A H0 H1 locs1 → W p l e R s m args below meth c H1 locs1 (cells + mc) (slots + ms) Q (F0 m (pc + 3) ls (.int r :: rest))) : W p l e R s m args below meth c H locs cells slots Q (F0 m pc ls st) := by
  have hFc := bb_Amid (bb_Dmid hD) hS.1 hA
  refine va_calli (va_runV (b := b) (C := C) (As := As) (rest := rest) S hM cw ⟨bb_Pm_blind, va_recv hK (bb_Pmid hP) hcl he, fun U hU hW' => ⟨rfl, by rw [hU], by rw [hU]; exact bb_Pmid hP, va_K.moved hW'.alike hK, (bb_Dmid hD).weaken (fun _ _ _ _ => trivial)⟩⟩ rfl hn hsize hstack (lv_room hW) hdg ⟨hc, hs⟩) hS (fun q _ h => hFc q h) hFc (fun r' u t H1 locs1 ht _ hpost hB _ hk hS1 => ?_)
  subst hpost
  rw [ht] at hB
  exact kk H1 locs1 (bb_frame hP hD hk hB) (bb_D_addr hD (by simp [hadd])) hS1
end BbPart
