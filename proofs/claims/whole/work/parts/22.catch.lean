/-! the catch: a table's row whose class links (cold or warm), behind rows whose class doesn't take the object -/
theorem bb_goRow {Q9 : Handler → Pre} {E9 : CtlPost} {e : Env} {d : Bool} {acts : List Action} {S : State} {f : JFrame} {a : Addr} {x : ExceptionTableEntry} {t : List ExceptionTableEntry} {k : ClassId} {cell : Cell} (hx : covers x f.pc = true) (h0 : x.catchType ≠ 0)
    (hl : S.vm.ClassLinks e.platform f.method.cls x.catchType k) (hcell : S.heap[a]? = some cell) (hobj : ∀ z, cell.vm ≠ .statics z) (hk : ∃ z, S.vm.classes[cell.cls]? = some z) (hc : ∃ z, S.vm.classes[k]? = some z) :
    wp (findHandler.go f a (x :: t)) Q9 E9 e d acts S ↔ (if S.vm.assignable cell.cls k = true then Q9 (.found x.handlerPc) d acts (S.setVm (S.vm.noted f.method.cls x.catchType (.cls k))) else wp (findHandler.go f a t) Q9 E9 e d acts (S.setVm (S.vm.noted f.method.cls x.catchType (.cls k)))) := by
  simp only [covers] at hx
  obtain ⟨ha, ht⟩ := (resolveClass_links e.toSetting hl).op (op := VmOp.resolveClass f.method.cls x.catchType) rfl
  have hal : S.vm.Alike (S.vm.noted f.method.cls x.catchType (.cls k)) := (Vm.Alike.refl S.vm).noted _ _ _
  obtain ⟨z1, hz1⟩ := hk
  obtain ⟨z2, hz2⟩ := hc
  obtain ⟨z1', hz1', -⟩ := hal.2.2 _ _ hz1
  obtain ⟨z2', hz2', -⟩ := hal.2.2 _ _ hz2
  cases hq : S.vm.assignable cell.cls k with
  | true =>
    have hq' : (S.vm.noted f.method.cls x.catchType (.cls k)).assignable cell.cls k = true := by rw [hal.assignable]; exact hq
    simp [findHandler.go, hx, h0, ha, ht, hcell, hobj, hz1', hz2', hq', VmOp.dirties, VmOp.acts]
  | false =>
    have hq' : (S.vm.noted f.method.cls x.catchType (.cls k)).assignable cell.cls k = false := by rw [hal.assignable]; exact hq
    simp [findHandler.go, hx, h0, ha, ht, hcell, hobj, hz1', hz2', hq', VmOp.dirties, VmOp.acts]
def bb_Fd (e : Env) (S : State) (f : JFrame) (a : Addr) (pc : Nat) (vm' : Vm) : Prop :=
  ∀ (Q9 : Handler → Pre) (E9 : CtlPost) (d : Bool) (acts : List Action), wp (findHandler f a) Q9 E9 e d acts S ↔ Q9 (.found pc) d acts (S.setVm vm')
theorem bb_stepCatch {e : Env} {S : State} {a : Addr} {f : JFrame} {r : List Frame} {pc : Nat} {vm' : Vm} (hf : bb_Fd e S f a pc vm') : (stepThrowing e S a (.java f :: r)).Is ((S.setVm vm').setFrames (.java { f with pc := pc, stack := [.ref a] } :: r)) [] := by
  simp only [stepThrowing, searchFrame, vmDo]
  generalize hr : Sem.go _ e false [] S = res
  obtain ⟨as, rfl, ha⟩ := Sem.eq_ok_of hr (a := Handler.found pc) (s' := S.setVm vm') (acts' := []) (by simp [hf _ _ _ _])
  exact ⟨rfl, ha⟩
section BbCatch
variable {p : Program} {l : Launch} {e : Env} {R : Room} {s : State} {m : MethodId} {args : Array Value} {below : List Frame} {meth : Method} {c : Code} {H : Heap} {locs : List Loc} {cells slots : Nat} {Q : State → Prop} {pc : Nat} {ls : Array Slot} {rest : List Value}
theorem bb_caught {T : State} (X : Stand p l e R s m args below meth c T locs cells slots) {g : JFrame} (hg : g.method = m) (q : Addr) {pc' : Nat} {vm' : Vm} (hf : bb_Fd e ((T.setTop g).pushFrame (.throwing q)) g q pc' vm') {target : State}
    (hrest : Steps p.tables e below ((T.setVm vm').setTop { g with pc := pc', stack := [.ref q] }) target) : Steps p.tables e below ((T.setTop g).pushFrame (.throwing q)) target := by
  have h : At T g.method c below := by rw [hg]; exact X.here
  obtain ⟨hgo, hw⟩ := h.throwing q
  refine Steps.head hgo hw ?_
  rw [stepThread_throwing (frames_entered h.top _), (bb_stepCatch (S := (T.setTop g).pushFrame (.throwing q)) hf).1]
  obtain ⟨g₀, hg0⟩ := Option.isSome_iff_exists.mp h.top
  obtain ⟨r, hr⟩ := State.topJava?_eq_some.mp hg0
  have hr' : (T.setVm vm').frames = .java g₀ :: r := hr
  have e1 : ∀ (u : State) (F G : List Frame), ((u.setFrames F).setVm vm').setFrames G = (u.setVm vm').setFrames G := fun u F G => by
    rw [show (u.setFrames F).setVm vm' = (u.setVm vm').setFrames F from rfl, State.setFrames_setFrames]
  rw [State.setTop_of_frames _ hr'] at hrest
  rw [hr, List.tail_cons, State.pushFrame, e1, State.setTop_of_frames _ hr, e1]
  exact hrest
/-- the first row takes it -/
theorem bb_catch1 {own name E : String} {ce : Cell} {q : Addr} (hown : s.vm.findClass own = some m.cls) (x : ExceptionTableEntry) (suf : List ExceptionTableEntry) (hsplit : c.exceptionTable.toList = x :: suf) (hx : covers x pc = true) (h0 : x.catchType ≠ 0)
    (hlink : (Cond.classLink own x.catchType name).before args s = true) (hcast : (Cond.castable E name).before args s = true) (hce : H[q]? = some ce) (hv : ce.vm = .none) (hcl : s.vm.findClass E = some ce.cls)
    (kk : W p l e R s m args below meth c H [] cells slots Q (F0 m x.handlerPc ls [.ref q])) : bb_W p l e R s m args below meth c H cells slots Q (F0 m pc ls rest) q := by
  intro T hT X
  have hpl : e.platform.magicAccessors = ({} : Platform).magicAccessors := by rw [X.admits.platform]
  obtain ⟨c3, c4, hc3, hc4, hasg⟩ := Cond.castable_spec hcast
  cases Option.some.inj (hc3.symm.trans hcl)
  obtain ⟨c5, hc5, hcl5⟩ := Cond.classLink_spec hown hlink e.platform hpl
  cases Option.some.inj (hc4.symm.trans hc5)
  obtain ⟨dk, _, _, kt, hd, _, _, _, _, hkt, _, hopen⟩ := hcl5.here
  obtain ⟨k9, h9⟩ := Vm.classAt_of_findClass hcl
  have hal := X.warmed.alike
  obtain ⟨kt', hkt', -⟩ := hal.2.2 _ _ hkt
  obtain ⟨k9', h9', -⟩ := hal.2.2 _ _ h9
  have hW' : s.WarmedH (T.vm.noted m.cls x.catchType (.cls c4)) := X.warmed.noted hd hopen (State.rightAt_cls hcl5)
  obtain ⟨t, a1, b1⟩ := kk (T.setVm (T.vm.noted m.cls x.catchType (.cls c4))) hT (X.noted hW')
  refine ⟨t, bb_caught X rfl q (pc' := x.handlerPc) (vm' := T.vm.noted m.cls x.catchType (.cls c4)) (fun Q9 E9 d acts => ?_) a1, b1⟩
  rw [W.findHandler_eq (meth := meth) (code := c) X.method' X.code, hsplit, bb_goRow (S := ((T.setTop (F0 m pc ls rest)).pushFrame (.throwing q))) (f := F0 m pc ls rest) (k := c4) (cell := ce) hx h0 (X.warmed.classLinks hcl5) (by show T.heap[q]? = _; rw [hT]; exact hce) (by rw [hv]; exact fun z hz => by cases hz) ⟨k9', h9'⟩ ⟨kt', hkt'⟩,
    if_pos (by show T.vm.assignable ce.cls c4 = true; rw [hal.assignable]; exact hasg)]
  exact Iff.rfl
/-- the first row doesn't take it, the second does -/
theorem bb_catch2 {own name name1 E : String} {ce : Cell} {q : Addr} (hown : s.vm.findClass own = some m.cls) (x1 x : ExceptionTableEntry) (suf : List ExceptionTableEntry) (hsplit : c.exceptionTable.toList = x1 :: x :: suf) (hx1 : covers x1 pc = true) (h01 : x1.catchType ≠ 0) (hx : covers x pc = true) (h0 : x.catchType ≠ 0)
    (hlink1 : (Cond.classLink own x1.catchType name1).before args s = true) (hno : va_Nc E name1 s)
    (hlink : (Cond.classLink own x.catchType name).before args s = true) (hcast : (Cond.castable E name).before args s = true) (hce : H[q]? = some ce) (hv : ce.vm = .none) (hcl : s.vm.findClass E = some ce.cls)
    (kk : W p l e R s m args below meth c H [] cells slots Q (F0 m x.handlerPc ls [.ref q])) : bb_W p l e R s m args below meth c H cells slots Q (F0 m pc ls rest) q := by
  intro T hT X
  have hpl : e.platform.magicAccessors = ({} : Platform).magicAccessors := by rw [X.admits.platform]
  obtain ⟨c3, c4, hc3, hc4, hasg⟩ := Cond.castable_spec hcast
  cases Option.some.inj (hc3.symm.trans hcl)
  obtain ⟨c5, hc5, hcl5⟩ := Cond.classLink_spec hown hlink e.platform hpl
  cases Option.some.inj (hc4.symm.trans hc5)
  obtain ⟨c6, hc6, hcl6⟩ := Cond.classLink_spec hown hlink1 e.platform hpl
  have hn6 : s.vm.assignable ce.cls c6 = false := by
    obtain ⟨y1, y2, w1, w2, w3⟩ := hno
    cases Option.some.inj (w1.symm.trans hcl)
    cases Option.some.inj (w2.symm.trans hc6)
    exact w3
  obtain ⟨dk, _, _, kt, hd, _, _, _, _, hkt, _, hopen⟩ := hcl5.here
  obtain ⟨dk6, _, _, kt6, hd6, _, _, _, _, hkt6, _, hopen6⟩ := hcl6.here
  obtain ⟨k9, h9⟩ := Vm.classAt_of_findClass hcl
  have hW1 : s.WarmedH (T.vm.noted m.cls x1.catchType (.cls c6)) := X.warmed.noted hd6 hopen6 (State.rightAt_cls hcl6)
  have hW' : s.WarmedH ((T.vm.noted m.cls x1.catchType (.cls c6)).noted m.cls x.catchType (.cls c4)) := hW1.noted hd hopen (State.rightAt_cls hcl5)
  obtain ⟨t, a1, b1⟩ := kk (T.setVm ((T.vm.noted m.cls x1.catchType (.cls c6)).noted m.cls x.catchType (.cls c4))) hT (X.noted hW')
  refine ⟨t, bb_caught X rfl q (pc' := x.handlerPc) (vm' := (T.vm.noted m.cls x1.catchType (.cls c6)).noted m.cls x.catchType (.cls c4)) (fun Q9 E9 d acts => ?_) a1, b1⟩
  obtain ⟨kA, hA, -⟩ := X.warmed.alike.2.2 _ _ hkt6
  obtain ⟨kB, hB, -⟩ := X.warmed.alike.2.2 _ _ h9
  obtain ⟨kC, hC, -⟩ := hW1.alike.2.2 _ _ hkt
  obtain ⟨kD, hD, -⟩ := hW1.alike.2.2 _ _ h9
  rw [W.findHandler_eq (meth := meth) (code := c) X.method' X.code, hsplit, bb_goRow (S := ((T.setTop (F0 m pc ls rest)).pushFrame (.throwing q))) (f := F0 m pc ls rest) (k := c6) (cell := ce) hx1 h01 (X.warmed.classLinks hcl6) (by show T.heap[q]? = _; rw [hT]; exact hce) (by rw [hv]; exact fun z hz => by cases hz) ⟨kB, hB⟩ ⟨kA, hA⟩,
    if_neg (by show ¬ T.vm.assignable ce.cls c6 = true; rw [X.warmed.alike.assignable, hn6]; decide)]
  refine Iff.trans (bb_goRow (S := ((T.setTop (F0 m pc ls rest)).pushFrame (.throwing q)).setVm (T.vm.noted m.cls x1.catchType (.cls c6))) (f := F0 m pc ls rest) (k := c4) (cell := ce) hx h0 (hW1.classLinks hcl5) (by show T.heap[q]? = _; rw [hT]; exact hce) (by rw [hv]; exact fun z hz => by cases hz) ⟨kD, hD⟩ ⟨kC, hC⟩) ?_
  rw [if_pos (by show (T.vm.noted m.cls x1.catchType (.cls c6)).assignable ce.cls c4 = true; rw [hW1.alike.assignable]; exact hasg)]
  exact Iff.rfl
end BbCatch
