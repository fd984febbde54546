/-! rows for the law's own methods: tables of handlers, calls of methods that have one, long arrays -/
theorem bb_cellL_ext {cA : ClassId} {n : Nat} {f g : Nat → Int64} (h : ∀ j, j < n → f j = g j) : vp_cell cA (n, .inr (.inl f)) = vp_cell cA (n, .inr (.inl g)) := by
  rw [vp_cell_l, vp_cell_l]
  unfold arrV
  congr 2
  funext j
  show Value.long (f j.val) = Value.long (g j.val)
  rw [h j.val j.isLt]
theorem bb_P_extL {D : va_G} {cl : List vw_C} {wd : va_W} {H : Heap} {A : Nat → Prop} {q0 a : Nat} {cA : ClassId} {n : Nat} {f g : Nat → Int64} (hP : va_P D cl wd H) (hD : va_D A wd) (ha : wd[q0]? = some (a, .inl (cA, n, .inr (.inl f)))) (h : ∀ j, j < n → f j = g j) : va_P D cl (wd.set q0 (a, .inl (cA, n, .inr (.inl g)))) H := by
  refine hP.set hD ha ?_ (fun q _ => rfl)
  show H[a]? = some (vp_cell cA (n, .inr (.inl g)))
  rw [← bb_cellL_ext h]
  exact hP q0 _ ha
def bb_L (b : Bool) : Int64 := if b = true then 1 else 0
theorem bb_upL {f : Nat → Int64} {x : Int64} {j : Nat} (h : j < 1) : vp_updL f (nI 0).toNatClampNeg x j = x := by
  have e1 : j = 0 := by omega
  have e2 : (nI 0).toNatClampNeg = 0 := by decide
  rw [e2, e1]
  unfold vp_updL
  simp
def bb_Pw (av : List Value) (D : va_G) (cl : List vw_C) (wd : va_W) (tys : List (ClassId × FieldType)) (sz Bd : Nat) : Array Value → State → Prop := va_Pc av (fun U => U.heap.size = sz ∧ va_P D cl wd U.heap ∧ va_K D cl tys U ∧ va_D (fun _ => True) wd ∧ bb_TS Bd U)
theorem bb_Pwb {av : List Value} {D : va_G} {cl : List vw_C} {wd : va_W} {tys : List (ClassId × FieldType)} {sz Bd : Nat} : FrameBlind (bb_Pw av D cl wd tys sz Bd) :=
  fun a U g mk q => ⟨q.1, q.2.1, q.2.2.1, va_K.moved (u := U) (U := U.calling g mk a) (Vm.Alike.refl U.vm) q.2.2.2.1, q.2.2.2.2.1, bb_TS.same (u := U) (U := U.calling g mk a) rfl rfl q.2.2.2.2.2⟩
theorem bb_tab {t : List ExceptionTableEntry} {a b h d : Nat} {r : List (Nat × Nat × Nat × Nat)} (e : t.map (fun h => (h.startPc, h.endPc, h.handlerPc, h.catchType)) = (a, b, h, d) :: r) : ∃ x suf, t = x :: suf ∧ x.startPc = a ∧ x.endPc = b ∧ x.handlerPc = h ∧ x.catchType = d ∧ suf.map (fun h => (h.startPc, h.endPc, h.handlerPc, h.catchType)) = r := by
  cases t with
  | nil => cases e
  | cons x suf =>
    simp only [List.map_cons, List.cons.injEq, Prod.mk.injEq] at e
    exact ⟨x, suf, rfl, e.1.1, e.1.2.1, e.1.2.2.1, e.1.2.2.2, e.2⟩
theorem bb_table {y : MethodName} {cc : ByteArray} {maxL : Nat} {ret : Option FieldType} {hh : List (Nat × Nat × Nat × Nat)} {args : Array Value} {s : State} {m : MethodId} {meth : Method} {c : Code} (h : (Cond.codeWith y cc maxL ret hh).before args s = true) (hn : s.methodNamed? y = some m) (hm : s.vm.method? m = some meth) (hc : meth.code = some c) :
    c.exceptionTable.toList.map (fun h => (h.startPc, h.endPc, h.handlerPc, h.catchType)) = hh := by
  obtain ⟨m9, meth9, c9, h1, h2, h3, -, -, h4, -⟩ := Cond.codeWith_spec h
  cases h1.symm.trans hn
  cases h2.symm.trans hm
  cases h3.symm.trans hc
  exact h4
section BbLawRows
variable {p : Program} {l : Launch} {e : Env} {R : Room} {s : State} {m : MethodId} {args : Array Value} {below : List Frame} {meth : Method} {c : Code} {H H0 : Heap} {locs : List Loc} {cells slots : Nat} {Q : State → Prop} {pc : Nat} {ls : Array Slot} {st rest : List Value} {cc : ByteArray}
theorem bb_hand1 {own name E : String} {ce : Cell} {q : Addr} {a b h d : Nat} {r : List (Nat × Nat × Nat × Nat)} (hown : s.vm.findClass own = some m.cls) (ht : c.exceptionTable.toList.map (fun h => (h.startPc, h.endPc, h.handlerPc, h.catchType)) = (a, b, h, d) :: r) (hx : a ≤ pc ∧ pc < b) (h0 : d ≠ 0)
    (hlink : (Cond.classLink own d name).before args s = true) (hcast : (Cond.castable E name).before args s = true) (hce : H[q]? = some ce) (hv : ce.vm = .none) (hcl : s.vm.findClass E = some ce.cls)
    (kk : W p l e R s m args below meth c H [] cells slots Q (F0 m h ls [.ref q])) : bb_W p l e R s m args below meth c H cells slots Q (F0 m pc ls rest) q := by
  obtain ⟨x, suf, e1, e2, e3, e4, e5, -⟩ := bb_tab ht
  subst e2; subst e3; subst e4; subst e5
  exact bb_catch1 hown x suf e1 (by simp [covers, hx.1, hx.2]) h0 hlink hcast hce hv hcl kk
theorem bb_hand2 {own name name1 E : String} {ce : Cell} {q : Addr} {a b h d a1 b1 h1 d1 : Nat} {r : List (Nat × Nat × Nat × Nat)} (hown : s.vm.findClass own = some m.cls) (ht : c.exceptionTable.toList.map (fun h => (h.startPc, h.endPc, h.handlerPc, h.catchType)) = (a1, b1, h1, d1) :: (a, b, h, d) :: r) (hx1 : a1 ≤ pc ∧ pc < b1) (h01 : d1 ≠ 0) (hx : a ≤ pc ∧ pc < b) (h0 : d ≠ 0)
    (hlink1 : (Cond.classLink own d1 name1).before args s = true) (hno : va_Nc E name1 s) (hlink : (Cond.classLink own d name).before args s = true) (hcast : (Cond.castable E name).before args s = true) (hce : H[q]? = some ce) (hv : ce.vm = .none) (hcl : s.vm.findClass E = some ce.cls)
    (kk : W p l e R s m args below meth c H [] cells slots Q (F0 m h ls [.ref q])) : bb_W p l e R s m args below meth c H cells slots Q (F0 m pc ls rest) q := by
  obtain ⟨x1, suf1, e1, e2, e3, e4, e5, e6⟩ := bb_tab ht
  obtain ⟨x, suf, f1, f2, f3, f4, f5, -⟩ := bb_tab e6
  subst e2; subst e3; subst e5; subst f2; subst f3; subst f4; subst f5; subst f1
  exact bb_catch2 hown x1 x suf e1 (by simp [covers, hx1.1, hx1.2]) h01 (by simp [covers, hx.1, hx.2]) h0 hlink1 hno hlink hcast hce hv hcl kk
variable {Ts ws ws' : List Cond} {bytes : ByteArray} {nL maxL index n mc ms : Nat} {own C : String} {y : MethodName} {ret : Option FieldType} {rm : Room} {As : List Value} {r : Int32} {A : Nat → Prop} {D : va_G} {cl : List vw_C} {pre wc wc' post : va_W} {tyc : List (ClassId × FieldType)} {Pc : Array Value → State → Prop} {Qc : Array Value → State → Outcome → State → Prop} {free : Addr → Prop} {g : JFrame} {hh : List (Nat × Nat × Nat × Nat)}
/-- the words of a static call of a method with a table -/
abbrev bb_CW (R : Room) (s : State) (args : Array Value) (own : String) (index : Nat) (y : MethodName) (bytes : ByteArray) (maxL : Nat) (ret : Option FieldType) (hh : List (Nat × Nat × Nat × Nat)) (ws : List Cond) (rm : Room) (mc ms n : Nat) : Prop :=
  rm.cells = mc ∧ rm.slots = ms ∧ rm.frames + 1 ≤ R.frames ∧ 8 + (maxL + 11) + rm.locals ≤ R.locals ∧ (∀ w ∈ ws, ∀ (a' : Array Value) (U : State), s.WarmedH U.vm → w.before a' U = true) ∧ Cond.codeWith y bytes maxL ret hh ∈ ws ∧
  (Cond.methodLink own index y).before args s = true ∧ (Cond.static y).before args s = true ∧ (Cond.initialized y.cls).before args s = true ∧ (Cond.codeWith y bytes maxL ret hh).before args s = true ∧ (y.cls ≠ "java/lang/invoke/MethodHandle" ∧ y.cls ≠ "java/lang/invoke/VarHandle") ∧ (∀ sig, parseMethodDescriptor y.desc = some sig → n = sig.parameters.length)
theorem bb_cw (n : Nat) (ht : ∀ w ∈ Ts, w.before args s = true) (hG : GoodIn Ts ws) (hw : ws = Cond.codeWith y bytes maxL ret hh :: ws') (hrc : rm.cells = mc) (hrs : rm.slots = ms) (h1 : Cond.methodLink own index y ∈ Ts) (h2 : Cond.static y ∈ Ts) (h3 : Cond.initialized y.cls ∈ Ts)
    (hd : y.cls ≠ "java/lang/invoke/MethodHandle" ∧ y.cls ≠ "java/lang/invoke/VarHandle" ∧ (parseMethodDescriptor y.desc).map (fun d => d.parameters.length) = some n) (hR : rm.frames + 1 ≤ R.frames ∧ 8 + (maxL + 11) + rm.locals ≤ R.locals) : bb_CW R s args own index y bytes maxL ret hh ws rm mc ms n := by
  have hc : Cond.codeWith y bytes maxL ret hh ∈ ws := by rw [hw]; exact List.mem_cons_self
  refine ⟨hrc, hrs, hR.1, hR.2, pay_in ht hG, hc, ht _ h1, ht _ h2, ht _ h3, ht _ (hG _ hc).1, ⟨hd.1, hd.2.1⟩, fun sig h => ?_⟩
  have h2 := hd.2.2
  rw [h] at h2
  exact (Option.some.inj h2).symm
theorem bb_runSW (S : CallFix p m c cc nL s args Ts own) (hM : Met l y ws rm Pc Qc mc ms free) (cw : bb_CW R s args own index y bytes maxL ret hh ws rm mc ms n) (hp : PreS s H Pc As)
    (hg : g.method = m) (hn : As.length = n) (hsize : g.locals.size = nL) (hstack : g.stack = As.reverse ++ rest) (hW : 2 * g.monitorRoom + (rest.map fun v => v.category).sum ≤ 8) (hdg : decode cc g.pc = .ok (.invokestatic index, 3)) (hf : cells + mc ≤ R.cells ∧ slots + ms ≤ R.slots) :
    va_Run p l e R s m args below meth c H locs cells slots mc ms g rest (Qc As.toArray) free := by
  obtain ⟨hrc, hrs, hfr, hlo, hws, hcw, hl, hstat, hini, hcode, hy, hlen⟩ := cw
  have hK : Back l R p e below s args y 3 8 (PreOf R mc ms Pc) (PostOf Qc mc ms free) := va_backW (hh := hh) (bytes := bytes) (maxL := maxL) (ret := ret) hM hp.1 hrc hrs hfr hlo hws hcw (fun a' U hW => word_at hW (Or.inl (by first | rfl | simp [Cond.onTables, Cond.keeps, Cond.steady])) hini)
  obtain ⟨hx, hb, hml, ho, -⟩ := S
  intro T hT X
  obtain ⟨mk, methM, cM, hnamed, hmethM, -, -, -, -, -, -, hsigM⟩ := Cond.codeWith_spec hcode
  obtain ⟨kP, hkP, -⟩ := className_of_methodNamed hnamed
  obtain ⟨vm₁, X₁, hstep₁⟩ := X.invokestatic hx ho hl hnamed hmethM (Cond.static_spec hnamed hmethM hstat) hkP (Cond.initialized_spec (findClass_of_methodNamed hnamed) hkP hini) hy (g := g) hg (argsL := As) (rest := rest) (hn.trans (hlen _ hsigM)) hstack (by rw [hb]; exact hdg)
  obtain ⟨v, ⟨U', l2, c2, s2⟩, X', ⟨g', mk', t, L, e1, e2, hq, h1, hL, h2, h3⟩, hsteps⟩ := hK m meth c ⟨T.setVm vm₁, locs, cells, slots⟩ { g with stack := rest } (.invokestatic index) mk As.toArray X₁ hg (hsize.trans hml.symm) (by rw [hb]; exact hdg) hW (X₁.named hnamed) ⟨hf.1, hf.2, hp.2 (T.setVm vm₁) hT X₁.warmed⟩
  dsimp only [Pt.U, Pt.locs, Pt.cells, Pt.slots] at X' e1 e2 h1 h2 h3 hsteps
  subst h1; subst h2; subst h3
  exact ⟨v, (T.setVm vm₁).calling g' mk' As.toArray, t, U', L, hT, X', hL, e1, e2, hq, fun target h => hstep₁ _ fun acts => by rw [doInvoke_state]; exact hsteps.trans h⟩
/-- a static call of such a method, which hands an int back and changes a part; Px is what it asks beside -/
theorem bb_cWf {Px : State → Prop} (S : CallFix p m c cc nL s args Ts own) (hM : Met l y ws rm (va_Pc As (fun U => U.heap.size = H.size ∧ va_P D cl wc U.heap ∧ va_K D cl tyc U ∧ va_D (fun _ => True) wc ∧ Px U)) (bb_Qm r D cl wc' (va_A wc H.size)) mc ms (va_A wc H.size)) (cw : bb_CW R s args own index y bytes maxL ret hh ws rm mc ms n)
    (hx1 : ∀ (a : Array Value) (U : State) (g : JFrame) (mk : MethodId), Px U → Px (U.calling g mk a)) (hx2 : ∀ U : State, U.heap = H → s.WarmedH U.vm → Px U)
    (hP : va_P D cl (pre ++ wc ++ post) H) (hK : va_K D cl tyc s) (hD : va_D A (pre ++ wc ++ post)) (hS : va_S A H0 H locs) (hA : ∀ q : Nat, H0.size ≤ q → A q) (hadd : wc'.map Prod.fst = wc.map Prod.fst)
    (hn : As.length = n) (hsize : ls.size = nL) (hstack : st = As.reverse ++ rest) (hW : (rest.map fun v => v.category).sum ≤ 8) (hdg : decode cc pc = .ok (.invokestatic index, 3)) (hc : cells + mc ≤ R.cells) (hs : slots + ms ≤ R.slots)
    (kk : ∀ (H1 : Heap) (locs1 : List Loc), va_P D cl (pre ++ wc' ++ post) H1 → va_D A (pre ++ wc' ++ post) → va_S A H0 H1 locs1 → W p l e R s m args below meth c H1 locs1 (cells + mc) (slots + ms) Q (F0 m (pc + 3) ls (.int r :: rest))) : W p l e R s m args below meth c H locs cells slots Q (F0 m pc ls st) := by
  have hFc := bb_Amid (bb_Dmid hD) hS.1 hA
  refine va_calli (bb_runSW (As := As) (rest := rest) S hM cw ⟨fun a U g mk q => ⟨q.1, q.2.1, q.2.2.1, va_K.moved (u := U) (U := U.calling g mk a) (Vm.Alike.refl U.vm) q.2.2.2.1, q.2.2.2.2.1, hx1 a U g mk q.2.2.2.2.2⟩, fun U hU hW' => ⟨rfl, by rw [hU], by rw [hU]; exact bb_Pmid hP, va_K.moved hW'.alike hK, (bb_Dmid hD).weaken (fun _ _ _ _ => trivial), hx2 U hU hW'⟩⟩ rfl hn hsize hstack (lv_room hW) hdg ⟨hc, hs⟩) hS (fun q _ h => hFc q h) hFc (fun r' u t H1 locs1 ht _ hpost hB _ hk hS1 => ?_)
  subst hpost
  rw [ht] at hB
  exact kk H1 locs1 (bb_frame hP hD hk hB) (bb_D_addr hD (by simp [hadd])) hS1
end BbLawRows
