/-! throw new E("text"): the words that it asks of the state, how they are kept, and the row -/
def NSE : String := "java/util/NoSuchElementException"
def IAE : String := "java/lang/IllegalArgumentException"
def ISE : String := "java/lang/IllegalStateException"
def RTE : String := "java/lang/RuntimeException"
def EXC : String := "java/lang/Exception"
/-- a static of Throwable's, below B: a reference or null -/
def bb_Z (n d : String) (B : Nat) (U : State) : Prop := ∃ (cf : ClassId) (k : Class) (i : Nat) (f : Field) (a : Nat) (cell : Cell), U.vm.findClass Jvm.Bundle.tN = some cf ∧ U.fieldFound? Jvm.Bundle.tN n d = some (cf, k, i, f) ∧ f.isStatic = true ∧ k.statics = some a ∧ U.heap[a]? = some cell ∧ cell.vm.isStatics = true ∧ cell.cls = cf ∧ f.slot < cell.slots.size ∧ k.staticTypes[f.slot]? = some f.type ∧ a < B ∧ ∃ v : Value, cell.slots[f.slot]? = some v ∧ v.isRef = true
theorem bb_Z.mv {n d : String} {B : Nat} {u U : State} (hvm : u.vm.Alike U.vm) (hh : ∀ x : Nat, x < B → U.heap[x]? = u.heap[x]?) (h : bb_Z n d B u) : bb_Z n d B U := by
  obtain ⟨cf, k, i, f, a, cell, h0, h1, h2, h3, h4, h5, h6, h7, h8, h9, h10⟩ := h
  obtain ⟨k', hi', he⟩ := State.fieldFound?_setVm hvm h1
  exact ⟨cf, k', i, f, a, cell, by rw [hvm.findClass]; exact h0, hi', h2, by rw [he]; exact h3, by rw [hh a h9]; exact h4, h5, h6, h7, by rw [he]; exact h8, h9, h10⟩
theorem bb_Z.lays {n d : String} {B : Nat} {U : State} {args : Array Value} (h : bb_Z n d B U) : (Cond.laysStatic Jvm.Bundle.tN n d).before args U = true := by
  obtain ⟨cf, k, i, f, a, cell, h0, h1, h2, h3, h4, h5, h6, h7, h8, h9, h10⟩ := h
  exact Cond.laysStatic_of (s := U) h0 h1 h2 h3 h4 h5 h6 h7 h8
theorem bb_Z.ref {n d : String} {B : Nat} {U : State} {args : Array Value} (h : bb_Z n d B U) : (Cond.isRef (.static Jvm.Bundle.tN n d)).before args U = true := by
  obtain ⟨cf, k, i, f, a, cell, h0, h1, h2, h3, h4, h5, h6, h7, h8, h9, v, hv, hr⟩ := h
  have he : (Term.static Jvm.Bundle.tN n d).eval args U none [] U = some v := by
    have : (Term.static Jvm.Bundle.tN n d).eval args U none [] U = cell.slots[f.slot]? := by
      simp [Term.eval, State.fieldNamed?, h1, h2, h3, h4, h5]
    rw [this, hv]
  cases v <;> simp [Value.isRef] at hr <;> simp [Cond.before, Cond.holds, Cond.value, he]
theorem bb_Z.of {n d : String} {s : State} {args : Array Value} (hl : (Cond.laysStatic Jvm.Bundle.tN n d).before args s = true) (hr : (Cond.isRef (.static Jvm.Bundle.tN n d)).before args s = true) : bb_Z n d s.heap.size s := by
  obtain ⟨c, k, i, f, a, cell, hc, hi, hst, ha, hcell, hs, hcls, hlt, hty⟩ := Cond.laysStatic_spec hl
  cases hv : (Term.static Jvm.Bundle.tN n d).eval args s none [] s with
  | none => simp [Cond.before, Cond.holds, Cond.value, hv] at hr
  | some v =>
    have hvr : v.isRef = true := by cases v <;> simp_all [Cond.before, Cond.holds, Cond.value, Value.isRef]
    obtain ⟨hst', a', cell', ha', hcell', -, hslot⟩ := Term.static_spec hi hv
    cases ha.symm.trans ha'
    cases hcell.symm.trans hcell'
    exact ⟨c, k, i, f, a, cell, hc, hi, hst, ha, hcell, hs, hcls, hlt, hty, (Array.getElem?_eq_some_iff.mp hcell).1, v, hslot, hvr⟩
def bb_strs : List (Nat × String) := [(127, "no such node"), (38, "no such weight"), (43, "no such need"), (132, "no such ballot"), (50, "a higher ballot is promised"), (134, "no such value"), (60, "the node is not open there"), (65, "another value has a vote there"), (130, "no such set"), (80, "the set is not enough"), (85, "one has promised a higher ballot"), (110, "no such what")]
/-- what a throw asks of the state beside the tables -/
def bb_TS (B : Nat) (U : State) : Prop := va_Nw (.castable NSE NSE) U ∧ va_Nw (.castable IAE IAE) U ∧ va_Nw (.castable ISE ISE) U ∧ va_Nw (.declares (Jvm.Bundle.initS RTE)) U ∧ va_Nw (.declares (Jvm.Bundle.initS EXC)) U ∧ va_Nw (.declares (Jvm.Bundle.initS Jvm.Bundle.tN)) U ∧ bb_Z "UNASSIGNED_STACK" Jvm.Bundle.steD B U ∧ bb_Z "SUPPRESSED_SENTINEL" Jvm.Bundle.listD B U ∧ (∀ q ∈ bb_strs, ∃ a : Nat, vk_R RX0 q.1 q.2 a U) ∧ va_Nc IAE NSE U ∧ va_Nc ISE NSE U
theorem bb_TS.c1 {B : Nat} {U : State} (h : bb_TS B U) : va_Nw (.castable NSE NSE) U := h.1
theorem bb_TS.c2 {B : Nat} {U : State} (h : bb_TS B U) : va_Nw (.castable IAE IAE) U := h.2.1
theorem bb_TS.c3 {B : Nat} {U : State} (h : bb_TS B U) : va_Nw (.castable ISE ISE) U := h.2.2.1
theorem bb_TS.d1 {B : Nat} {U : State} (h : bb_TS B U) : va_Nw (.declares (Jvm.Bundle.initS RTE)) U := h.2.2.2.1
theorem bb_TS.d2 {B : Nat} {U : State} (h : bb_TS B U) : va_Nw (.declares (Jvm.Bundle.initS EXC)) U := h.2.2.2.2.1
theorem bb_TS.d3 {B : Nat} {U : State} (h : bb_TS B U) : va_Nw (.declares (Jvm.Bundle.initS Jvm.Bundle.tN)) U := h.2.2.2.2.2.1
theorem bb_TS.z1 {B : Nat} {U : State} (h : bb_TS B U) : bb_Z "UNASSIGNED_STACK" Jvm.Bundle.steD B U := h.2.2.2.2.2.2.1
theorem bb_TS.z2 {B : Nat} {U : State} (h : bb_TS B U) : bb_Z "SUPPRESSED_SENTINEL" Jvm.Bundle.listD B U := h.2.2.2.2.2.2.2.1
theorem bb_TS.st {B : Nat} {U : State} (h : bb_TS B U) : (∀ q ∈ bb_strs, ∃ a : Nat, vk_R RX0 q.1 q.2 a U) := h.2.2.2.2.2.2.2.2.1
theorem bb_TS.n1 {B : Nat} {U : State} (h : bb_TS B U) : va_Nc IAE NSE U := h.2.2.2.2.2.2.2.2.2.1
theorem bb_TS.n2 {B : Nat} {U : State} (h : bb_TS B U) : va_Nc ISE NSE U := h.2.2.2.2.2.2.2.2.2.2
theorem bb_TS.mv {B : Nat} {u U : State} (hW : u.WarmedH U.vm) (hh : ∀ x : Nat, x < B → U.heap[x]? = u.heap[x]?) (h : bb_TS B u) : bb_TS B U :=
  ⟨h.c1.warmC hW, h.c2.warmC hW, h.c3.warmC hW, h.d1.warmD hW, h.d2.warmD hW, h.d3.warmD hW, h.z1.mv hW.alike hh, h.z2.mv hW.alike hh, fun q hq => (h.st q hq).elim fun a ha => ⟨a, ha.warm hW⟩, h.n1.moved hW.alike, h.n2.moved hW.alike⟩
theorem bb_TS.same {B : Nat} {u U : State} (hv : U.vm = u.vm) (hh : U.heap = u.heap) (h : bb_TS B u) : bb_TS B U := by
  have ha : u.vm.Alike U.vm := by rw [hv]; exact Vm.Alike.refl _
  have hx : ∀ x : Nat, x < B → U.heap[x]? = u.heap[x]? := fun _ _ => by rw [hh]
  exact ⟨h.c1.same rfl hv.symm, h.c2.same rfl hv.symm, h.c3.same rfl hv.symm, h.d1.same rfl hv.symm, h.d2.same rfl hv.symm, h.d3.same rfl hv.symm, h.z1.mv ha hx, h.z2.mv ha hx, fun q hq => (h.st q hq).elim fun a ha => ⟨a, ha.same hv⟩, h.n1.moved ha, h.n2.moved ha⟩
theorem bb_tX (is : List Nat) (ws : List Cond) (h : ((is.zip ws).all fun q => decide (tables_1[q.1]? = some q.2) && goodWord q.2) = true) (hl : ws.length ≤ is.length) : ∀ w ∈ ws, w ∈ bb_T := by
  intro w hw
  obtain ⟨i, hi, rfl⟩ := List.mem_iff_getElem.mp hw
  have hm : (is[i]'(by omega), ws[i]) ∈ is.zip ws := by
    rw [List.mem_iff_getElem]
    exact ⟨i, by simp; omega, by simp⟩
  have := List.all_eq_true.mp h _ hm
  simp only [Bool.and_eq_true, decide_eq_true_eq] at this
  exact bb_tb _ this.1 this.2
def bb_thrL : List Cond := Jvm.Bundle.throwableAtoms.filter fun w => decide (w ≠ .laysStatic Jvm.Bundle.tN "UNASSIGNED_STACK" Jvm.Bundle.steD) && decide (w ≠ .laysStatic Jvm.Bundle.tN "SUPPRESSED_SENTINEL" Jvm.Bundle.listD)
theorem bb_thrT : ∀ w ∈ bb_thrL, w ∈ bb_T := bb_tX [4,138,147,151,154,156,139,140,18,19,141,146,152,172,128,173,130,174,132,142,144,134] _ (by decide +kernel) (by decide +kernel)
theorem bb_thrS : ∀ w ∈ Jvm.Bundle.throwableSAtoms, w ∈ bb_T := bb_tX [168,169,171,134] _ (by decide +kernel) (by decide +kernel)
def bb_chL : List Cond := (Jvm.Bundle.chainSAtoms RTE [EXC]).filter fun w => decide (w ≠ .declares (Jvm.Bundle.initS EXC)) && decide (w ≠ .declares (Jvm.Bundle.initS Jvm.Bundle.tN))
theorem bb_chT : ∀ w ∈ bb_chL, w ∈ bb_T := bb_tX [162,163,164,165,165,166,167,168] _ (by decide +kernel) (by decide +kernel)
/-- the words of one class of exceptions -/
def bb_El (cls : String) (ik ic i1 : Nat) (b1 : ByteArray) : List Cond := [.classLink RX0 ik cls, .initialized cls, .instantiable cls 6, .methodLink RX0 ic (Jvm.Bundle.initS cls), .instanceMethod (Jvm.Bundle.initS cls), .code (Jvm.Bundle.initS cls) b1 2 none, .methodLink cls i1 (Jvm.Bundle.initS RTE), .instanceMethod (Jvm.Bundle.initS RTE),
  .selects cls Jvm.Bundle.tFill0 Jvm.Bundle.tFill0, .selects cls Jvm.Bundle.tFill Jvm.Bundle.tFill, .lays cls Jvm.Bundle.tN "cause" "Ljava/lang/Throwable;", .lays cls Jvm.Bundle.tN "stackTrace" Jvm.Bundle.steD, .lays cls Jvm.Bundle.tN "suppressedExceptions" Jvm.Bundle.listD, .lays cls Jvm.Bundle.tN "detailMessage" "Ljava/lang/String;",
  .fieldLink Jvm.Bundle.tN 198 Jvm.Bundle.tN "backtrace" "Ljava/lang/Object;", .lays Jvm.Bundle.tN Jvm.Bundle.tN "backtrace" "Ljava/lang/Object;", .lays cls Jvm.Bundle.tN "backtrace" "Ljava/lang/Object;"]
def bb_E (cls : String) (ik ic i1 : Nat) (b1 : ByteArray) : Prop := Jvm.Bundle.fit cls = true ∧ decode b1 0 = .ok (.aload_n 0, 1) ∧ decode b1 1 = .ok (.aload_n 1, 1) ∧ decode b1 2 = .ok (.invokespecial i1, 3) ∧ decode b1 5 = .ok (.return_, 1) ∧ (∀ w ∈ bb_El cls ik ic i1 b1, w ∈ bb_T)
theorem bb_E.fit {cls : String} {ik ic i1 : Nat} {b1 : ByteArray} (h : bb_E cls ik ic i1 b1) : Jvm.Bundle.fit cls = true := h.1
theorem bb_E.k0 {cls : String} {ik ic i1 : Nat} {b1 : ByteArray} (h : bb_E cls ik ic i1 b1) : decode b1 0 = .ok (.aload_n 0, 1) := h.2.1
theorem bb_E.k1 {cls : String} {ik ic i1 : Nat} {b1 : ByteArray} (h : bb_E cls ik ic i1 b1) : decode b1 1 = .ok (.aload_n 1, 1) := h.2.2.1
theorem bb_E.k2 {cls : String} {ik ic i1 : Nat} {b1 : ByteArray} (h : bb_E cls ik ic i1 b1) : decode b1 2 = .ok (.invokespecial i1, 3) := h.2.2.2.1
theorem bb_E.k5 {cls : String} {ik ic i1 : Nat} {b1 : ByteArray} (h : bb_E cls ik ic i1 b1) : decode b1 5 = .ok (.return_, 1) := h.2.2.2.2.1
theorem bb_E.ws {cls : String} {ik ic i1 : Nat} {b1 : ByteArray} (h : bb_E cls ik ic i1 b1) : (∀ w ∈ bb_El cls ik ic i1 b1, w ∈ bb_T) := h.2.2.2.2.2
theorem bb_eN : bb_E NSE 125 129 13 prog_13_method_4_code := ⟨by decide +kernel, by decide +kernel, by decide +kernel, by decide +kernel, by decide +kernel, bb_tX [116,7,117,158,159,160,161,162,125,126,127,129,131,133,170,136,135] _ (by decide +kernel) (by decide +kernel)⟩
theorem bb_eA : bb_E IAE 36 40 7 Jvm.Bundle.six := ⟨by decide +kernel, by decide +kernel, by decide +kernel, by decide +kernel, by decide +kernel, bb_tX [184,8,185,194,195,196,197,162,187,149,188,189,190,191,170,136,192] _ (by decide +kernel) (by decide +kernel)⟩
theorem bb_eI : bb_E ISE 48 52 7 Jvm.Bundle.six := ⟨by decide +kernel, by decide +kernel, by decide +kernel, by decide +kernel, by decide +kernel, bb_tX [220,9,221,230,231,232,233,162,223,150,224,225,226,227,170,136,228] _ (by decide +kernel) (by decide +kernel)⟩
section BbThrowS
variable {p : Program} {l : Launch} {e : Env} {R : Room} {s : State} {m : MethodId} {args : Array Value} {below : List Frame} {meth : Method} {c : Code} {pc : Nat} {ls : Array Slot} {rest : List Value} {cc : ByteArray} {B : Nat}
theorem bb_throwS {cls tx : String} {ik ic i1 k : Nat} {b1 : ByteArray} (E : bb_E cls ik ic i1 b1) (hexec : p.tables.exec = Jvm.exec) (hb : c.code = cc) (htr : l.stackTraces = false) (hown : s.vm.findClass RX0 = some m.cls) (hts : ∀ w ∈ bb_T, w.before args s = true) (hZ : bb_TS B s) (hk : (k, tx) ∈ bb_strs)
    (hsize : ls.size = c.maxLocals) (d0 : decode cc pc = .ok (.new ik, 3)) (d3 : decode cc (pc + 3) = .ok (.dup, 1)) (d4 : decode cc (pc + 4) = .ok (.ldc k, 2)) (d6 : decode cc (pc + 6) = .ok (.invokespecial ic, 3)) (d9 : decode cc (pc + 9) = .ok (.athrow, 1)) (hout : c.exceptionTable.toList = []) (hlocks : meth.locks = false)
    (hRf : 6 ≤ R.frames) (hRl : (rest.map fun v => v.category).sum + 82 ≤ R.locals) (hc : 1 ≤ R.cells) (hs : 6 ≤ R.slots) :
    W p l e R s m args below meth c s.heap [] 0 0 (bb_MQ below cls s) (F0 m pc ls rest) := by
  have hE := fun w hw => hts w (E.ws w hw)
  obtain ⟨c1, kX, hc1, hkX, -⟩ := Cond.instantiable_spec (hE (.instantiable cls 6) (by simp [bb_El]))
  refine W.newcK hexec hb hown (hE (.classLink RX0 ik cls) (by simp [bb_El])) (hE (.instantiable cls 6) (by simp [bb_El])) (hE (.initialized cls) (by simp [bb_El])) rfl d0 (by omega) (by omega) hc1 rfl fun H1 kC hkC e1 z1 o1 => ?_
  refine lv_dup hexec hb d3 rfl ?_
  obtain ⟨sa, hsa⟩ := hZ.st _ hk
  refine va_ldcS hexec hb hown hsa d4 ?_
  have hT : ∀ x ∈ Jvm.Bundle.throwableAtoms, x.before args s = true := by
    intro x hx
    by_cases h1 : x = .laysStatic Jvm.Bundle.tN "UNASSIGNED_STACK" Jvm.Bundle.steD
    · rw [h1]; exact hZ.z1.lays
    · by_cases h2 : x = .laysStatic Jvm.Bundle.tN "SUPPRESSED_SENTINEL" Jvm.Bundle.listD
      · rw [h2]; exact hZ.z2.lays
      · exact hts x (bb_thrT x (List.mem_filter.mpr ⟨hx, by simp [h1, h2]⟩))
  have hC : ∀ x ∈ Jvm.Bundle.chainSAtoms RTE [EXC], x.before args s = true := by
    intro x hx
    by_cases h1 : x = .declares (Jvm.Bundle.initS EXC)
    · rw [h1]; exact hZ.d2.use rfl
    · by_cases h2 : x = .declares (Jvm.Bundle.initS Jvm.Bundle.tN)
      · rw [h2]; exact hZ.d3.use rfl
      · exact hts x (bb_chT x (List.mem_filter.mpr ⟨hx, by simp [h1, h2]⟩))
  have hPs : ∀ x ∈ Jvm.Bundle.passSAtoms cls RTE i1 b1, x.before args s = true := by
    intro x hx
    simp only [Jvm.Bundle.passSAtoms, List.mem_cons, List.not_mem_nil, or_false] at hx
    rcases hx with rfl | rfl | rfl | rfl | rfl
    · exact hE _ (by simp [bb_El])
    · exact hE _ (by simp [bb_El])
    · exact hE _ (by simp [bb_El])
    · exact hE _ (by simp [bb_El])
    · exact hZ.d1.use rfl
  exact bb_ctor (own := RX0) (names := [EXC]) hexec hb htr hown E.fit (by decide +kernel) (by decide +kernel) E.k0 E.k1 E.k2 E.k5 hT (fun x hx => hts x (bb_thrS x hx)) hPs hC
    (hE _ (by simp [bb_El])) (hE _ (by simp [bb_El])) (hE _ (by simp [bb_El])) (hE _ (by simp [bb_El])) (hE _ (by simp [bb_El])) (hE _ (by simp [bb_El])) (hE _ (by simp [bb_El])) (hE _ (by simp [bb_El])) hZ.z1.ref hZ.z2.ref (hE _ (by simp [bb_El])) (hE _ (by simp [bb_El])) (hE _ (by simp [bb_El]))
    hc1 hkC (by exact e1) (Nat.le_refl _) hsize d6 d9 hout (by show 1 + 4 < R.frames; omega) (by show _ + (13 * (1 + 2) + 43) ≤ R.locals; omega) hlocks
end BbThrowS
