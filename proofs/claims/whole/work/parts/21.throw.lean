/-! methods that throw (launches that keep no traces): a contract of their own, its rows, and the catch -/
/-- q was thrown: one new object of the class E, nothing old changed -/
def bb_X (E : String) (s : State) (q : Addr) (t : State) : Prop :=
  (∃ ce : Cell, t.heap[q]? = some ce ∧ ce.vm = .none ∧ s.vm.findClass E = some ce.cls) ∧ s.WarmedH t.vm ∧ s.sameButNew ({ t with vm := s.vm } : State) [] 1 6
def bb_MQ (below : List Frame) (E : String) (s : State) : State → Prop := fun t => ∃ q, t.status = .running ∧ Ended t below (.threw q) ∧ bb_X E s q t
def bb_MT (l : Launch) (y : MethodName) (ws : List Cond) (rm : Room) (Pc : Array Value → State → Prop) (E : String) : Prop :=
  MetFree l y (headSpec ws rm) Pc (fun _ _ _ _ _ => True) (fun _ st o t => ∃ q, o = .threw q ∧ bb_X E st q t)
theorem bb_same {s t : State} {k n : Nat} (h : s.sameButNew t [] k n) : ∀ a : Nat, a < s.heap.size → t.heap[a]? = s.heap[a]? := by
  intro a ha
  obtain ⟨-, -, -, -, -, h6⟩ := h
  have hc : s.heap[a]? = some s.heap[a] := Array.getElem?_eq_getElem ha
  obtain ⟨c', h1, h2, h3, h4⟩ := h6 a _ hc
  have e1 : c'.slots = (s.heap[a]).slots := Array.ext_getElem? (fun i => h4 i (by simp))
  rw [h1, hc, h2, e1]
theorem bb_MT_of {l : Launch} {y : MethodName} {ws ws' : List Cond} {rm : Room} {Pc : Array Value → State → Prop} {E : String} {cc : ByteArray} {maxL : Nat} {ret : Option FieldType} (hy : plainName y.cls = true) (hw : ws = Cond.code y cc maxL ret :: ws')
    (body : ∀ p e s m args below meth c s₁, BodyLoose p l y (headSpec ws rm) cc maxL ret e s m args below meth c s₁ → c.maxLocals = maxL → Pc args s →
      W p l e (headSpec ws rm).room s m args below meth c s.heap [] 0 0 (bb_MQ below E s) (entryFrame m args maxL)) : bb_MT l y ws rm Pc E := by
  refine MetFree.of_bodyS (code := cc) (maxLocals := maxL) (ret := ret) hy ?_ ?_
  · intro args s m h hn
    obtain ⟨meth, c, h1, h2, h3, h4, h5, h6, -, -⟩ := Cond.code_spec hn (atoms_spec (ws := ws) h _ (by rw [hw]; exact List.mem_cons_self))
    exact ⟨meth, c, h1, h2, h3, h4, h5, h6⟩
  · intro p e s m args below meth c s₁ B hml hP _
    have hh0 : s₁.heap = s.heap := by rw [B.state]; rfl
    obtain ⟨t, a1, q, b1, b2, b3⟩ := body p e s m args below meth c s₁ B hml hP s₁ hh0 (Stand.of_body B)
    exact ⟨t, .threw q, a1, b1, b2, q, rfl, b3⟩
section BbThrow
variable {p : Program} {l : Launch} {e : Env} {R : Room} {s : State} {m : MethodId} {args : Array Value} {below : List Frame} {meth : Method} {c : Code} {H : Heap} {locs : List Loc} {cells slots : Nat} {Q : State → Prop} {pc : Nat} {ls : Array Slot} {st rest : List Value} {cc : ByteArray}
/-- a method called at a point of a walk, by whatever contract: how it ends -/
theorem bb_go {U : State} {y : MethodName} {S : Spec} {P : Array Value → State → Prop} {Q9 : Array Value → State → Outcome → State → Prop} (hM : MetFree l y S P (fun _ _ _ _ _ => True) Q9) (X : Stand p l e R s m args below meth c U locs cells slots) {g : JFrame} (hg : g.method = m) (hsize : g.locals.size = c.maxLocals) {ig : Instr} {len : Nat} (hdg : decode c.code g.pc = .ok (ig, len)) {mk : MethodId} {a : Array Value}
    (hnamed : U.methodNamed? y = some mk) {kY : Class} (hk : U.vm.classes[mk.cls]? = some kY) (hinit : kY.init = .initialized) {methY : Method} {cY : Code} (hmY : U.vm.method? mk = some methY) (hcY : methY.code = some cY)
    (hframes : S.room.frames + 1 ≤ R.frames) (hlocals : 2 * g.monitorRoom + (g.stack.map fun v => v.category).sum + (cY.maxLocals + 11) + S.room.locals ≤ R.locals) (hcells : cells + S.room.cells ≤ R.cells) (hslots : slots + S.room.slots ≤ R.slots)
    (hpre : S.pre.before a U = true) (hP : P a (U.calling g mk a)) :
    ∃ o s₂, Steps p.tables e below (doInvoke e (U.setTop g) [] mk a).1 s₂ ∧ Ended s₂ (.java g :: below) o ∧ Q9 a (U.calling g mk a) o s₂ := by
  have h : At U g.method c below := by rw [hg]; exact X.here
  have happ := Spec.appliesLoose_calling (g := g) h hdg hnamed hk hinit (X.room_calling (g := g) (R' := S.room) hsize hmY hcY hframes hlocals hcells hslots) hpre
  obtain ⟨mid, hmid⟩ := h.above
  have hfr : (U.setTop g).frames = (.java g :: mid) ++ below := by rw [State.frames_setTop' g h.top, hmid]; rfl
  obtain ⟨o, s₂, hsteps, -, hend, hq⟩ := Steps.callFree hM p X.admits X.cas X.clock (acts := []) hfr happ hP trivial
  rw [State.frames_setTop' g h.top, X.tail] at hend
  exact ⟨o, s₂, hsteps, hend, hq⟩
/-- the frame g with q thrown over it -/
def bb_W (p : Program) (l : Launch) (e : Env) (R : Room) (s : State) (m : MethodId) (args : Array Value) (below : List Frame) (meth : Method) (c : Code) (H : Heap) (cells slots : Nat) (Q : State → Prop) (g : JFrame) (q : Addr) : Prop :=
  ∀ T : State, T.heap = H → Stand p l e R s m args below meth c T [] cells slots → ∃ t, Steps p.tables e below ((T.setTop g).pushFrame (.throwing q)) t ∧ Q t
/-- it goes on to the caller: the method has no table -/
theorem bb_leave {E : String} {q : Addr} {ce : Cell} (hout : c.exceptionTable.toList = []) (hlocks : meth.locks = false) (hce : H[q]? = some ce) (hv : ce.vm = .none) (hcl : s.vm.findClass E = some ce.cls) (hc : cells ≤ 1) (hs : slots ≤ 6) :
    bb_W p l e R s m args below meth c H cells slots (bb_MQ below E s) (F0 m pc ls rest) q := by
  intro T hT X
  obtain ⟨h1, h2, h3, h4, h5⟩ := X.leaveThrown q (g := F0 m pc ls rest) rfl rfl rfl (fun x hx => by rw [hout] at hx; cases hx) hlocks
  refine ⟨_, h1, q, h2, h3, ⟨ce, ?_, hv, hcl⟩, h4, h5.mono hc hs⟩
  show T.heap[q]? = some ce
  rw [hT]; exact hce
variable {Ts ws ws' : List Cond} {bytes : ByteArray} {nL maxL index n : Nat} {own C : String} {y : MethodName} {ret : Option FieldType} {rm : Room} {As : List Value} {Pc : Array Value → State → Prop} {E : String}
/-- a call that throws, from a state in which nothing old has changed since H -/
theorem bb_thrown {U : State} {mk : MethodId} {g : JFrame} {ig : Instr} (hM : bb_MT l y ws rm Pc E) (X : Stand p l e R s m args below meth c U [] cells slots) (hU : U.heap = H) (hg : g.method = m) (hsize : g.locals.size = c.maxLocals) (hdg : decode c.code g.pc = .ok (ig, 3))
    (hnamed : s.methodNamed? y = some mk) (hini : (Cond.initialized y.cls).before args s = true) (hcode : (Cond.code y bytes maxL ret).before args s = true)
    (hfr : rm.frames + 1 ≤ R.frames) (hlo : 8 + (maxL + 11) + rm.locals ≤ R.locals) (hws : ∀ w ∈ ws, ∀ (a' : Array Value) (U : State), s.WarmedH U.vm → w.before a' U = true) (hrc : rm.cells = 1) (hrs : rm.slots = 6)
    (hW : 2 * g.monitorRoom + (g.stack.map fun v => v.category).sum ≤ 8) (hcc : cells + 1 ≤ R.cells) (hss : slots + 6 ≤ R.slots) {a : Array Value} (hP : Pc a (U.calling g mk a))
    (kk : ∀ (q : Addr) (H1 : Heap) (ce : Cell), H.size ≤ H1.size → (∀ x : Nat, x < H.size → H1[x]? = H[x]?) → H1[q]? = some ce → ce.vm = .none → s.vm.findClass E = some ce.cls → bb_W p l e R s m args below meth c H1 (cells + 1) (slots + 6) Q g q) :
    ∃ t, Steps p.tables e below (doInvoke e (U.setTop g) [] mk a).1 t ∧ Q t := by
  obtain ⟨methY, cY, hmY, hcY, -, hlY, -, -, -, -⟩ := Cond.code_spec hnamed hcode
  obtain ⟨kY, hkY, -⟩ := className_of_methodNamed hnamed
  have hiY : kY.init = .initialized := Cond.initialized_spec (findClass_of_methodNamed hnamed) hkY hini
  obtain ⟨kY', hkY', he'⟩ := X.warmed.alike.2.2 _ _ hkY
  obtain ⟨o, s₂, hsteps, hend, q, rfl, ⟨ce, h1, h2, h3⟩, hW2, hsame⟩ := bb_go hM X hg hsize hdg (a := a) (X.named hnamed) hkY' (by rw [he']; exact hiY) (by rw [X.warmed.alike.method?]; exact hmY) hcY hfr
    (by rw [hlY]; show _ + _ + rm.locals ≤ _; omega) (by rw [show (headSpec ws rm).room.cells = 1 from hrc]; exact hcc) (by rw [show (headSpec ws rm).room.slots = 6 from hrs]; exact hss)
    (atoms_intro fun w hw => hws w hw _ _ X.warmed) hP
  obtain ⟨T', X', -, hT', et⟩ := X.outOfThrown hg hend hW2 hsame
  have hh : s₂.heap = T'.heap := by rw [et]; exact Stand.throwing_heap T' g q
  have hsz : H.size ≤ T'.heap.size := by rw [← hU]; exact hT'.2.1
  have hold : ∀ x : Nat, x < H.size → T'.heap[x]? = H[x]? := fun x hx => by
    have := bb_same hT' x (by rw [hU]; exact hx)
    rw [hU] at this
    exact this
  have hcl : s.vm.findClass E = some ce.cls := by
    have h4 : U.vm.findClass E = some ce.cls := h3
    rw [X.warmed.alike.findClass] at h4
    exact h4
  obtain ⟨t, a1, b1⟩ := kk q T'.heap ce hsz hold (by rw [← hh]; exact h1) h2 hcl T' rfl X'
  rw [← et] at a1
  exact ⟨t, hsteps.trans a1, b1⟩
/-- a static call that throws -/
theorem bb_cSt (S : CallFix p m c cc nL s args Ts own) (hM : bb_MT l y ws rm Pc E) (cw : CallB R s args own index y bytes maxL ret ws rm 1 6 n ∧ (Cond.static y).before args s = true) (hp : PreS s H Pc As)
    (hn : As.length = n) (hsize : ls.size = nL) (hstack : st = As.reverse ++ rest) (hW : (rest.map fun v => v.category).sum ≤ 8) (hdg : decode cc pc = .ok (.invokestatic index, 3)) (hcc : cells + 1 ≤ R.cells) (hss : slots + 6 ≤ R.slots)
    (kk : ∀ (q : Addr) (H1 : Heap) (ce : Cell), H.size ≤ H1.size → (∀ x : Nat, x < H.size → H1[x]? = H[x]?) → H1[q]? = some ce → ce.vm = .none → s.vm.findClass E = some ce.cls → bb_W p l e R s m args below meth c H1 (cells + 1) (slots + 6) Q (F0 m pc ls rest) q) :
    W p l e R s m args below meth c H [] cells slots Q (F0 m pc ls st) := by
  obtain ⟨hexec, hb, hml, hown, -⟩ := S
  obtain ⟨⟨hrc, hrs, hfr, hlo, hws, -, hcode, hini, hy, hlen, hl⟩, hstat⟩ := cw
  intro T hT X
  obtain ⟨mk, hnamed⟩ := Cond.code_named hcode
  obtain ⟨methM, cM, hmethM, -, -, -, -, -, -, hsigM⟩ := Cond.code_spec hnamed hcode
  obtain ⟨kP, hkP, -⟩ := className_of_methodNamed hnamed
  obtain ⟨vm₁, X₁, hstep₁⟩ := X.invokestatic hexec hown hl hnamed hmethM (Cond.static_spec hnamed hmethM hstat) hkP (Cond.initialized_spec (findClass_of_methodNamed hnamed) hkP hini) hy (g := F0 m pc ls st) rfl (argsL := As) (rest := rest) (hn.trans (hlen _ hsigM)) hstack (by rw [hb]; exact hdg)
  obtain ⟨t, a1, b1⟩ := bb_thrown (g := F0 m pc ls rest) hM X₁ hT rfl (hsize.trans hml.symm) (by rw [hb]; exact hdg) hnamed hini hcode hfr hlo hws hrc hrs (lv_room hW) hcc hss (a := As.toArray) (hp.1 _ _ _ _ (hp.2 (T.setVm vm₁) hT X₁.warmed)) kk
  exact ⟨t, hstep₁ _ fun acts => by rw [doInvoke_state]; exact a1, b1⟩
/-- a virtual call that throws -/
theorem bb_cVt {b : Addr} (S : CallFix p m c cc nL s args Ts own) (hM : bb_MT l y ws rm Pc E) (cw : CallW R s args own C index y bytes maxL ret ws rm 1 6 n) (hp : PreV s H C b Pc As)
    (hn : As.length = n) (hsize : ls.size = nL) (hstack : st = As.reverse ++ .ref b :: rest) (hW : (rest.map fun v => v.category).sum ≤ 8) (hdg : decode cc pc = .ok (.invokevirtual index, 3)) (hcc : cells + 1 ≤ R.cells) (hss : slots + 6 ≤ R.slots)
    (kk : ∀ (q : Addr) (H1 : Heap) (ce : Cell), H.size ≤ H1.size → (∀ x : Nat, x < H.size → H1[x]? = H[x]?) → H1[q]? = some ce → ce.vm = .none → s.vm.findClass E = some ce.cls → bb_W p l e R s m args below meth c H1 (cells + 1) (slots + 6) Q (F0 m pc ls rest) q) :
    W p l e R s m args below meth c H [] cells slots Q (F0 m pc ls st) := by
  obtain ⟨hexec, hb, hml, hown, -⟩ := S
  obtain ⟨⟨hrc, hrs, hfr, hlo, hws, -, hcode, hini, hy, hlen, hl⟩, hinst, hsel⟩ := cw
  obtain ⟨hbl, ⟨cellB, hcB, hoB, hclB⟩, hPc⟩ := hp
  intro T hT X
  obtain ⟨mk, methM, hnamed, hmethM, hstM, habM⟩ := Cond.instanceMethod_spec hinst
  obtain ⟨methM', cM, hmethM', -, -, -, -, -, -, hsigM⟩ := Cond.code_spec hnamed hcode
  cases hmethM.symm.trans hmethM'
  obtain ⟨c2, r2, m2, q1, q2, q3, q4, kP, hkP, hkPi⟩ := Cond.selects_spec hsel
  cases hclB.symm.trans q1
  cases (State.methodFound?_of_named hnamed hy).symm.trans q2
  cases hnamed.symm.trans q3
  have hselP : selectMethod e.platform s.vm cellB.cls mk = .method mk := by rw [Launch.admits_selectMethod X.admits]; exact q4
  obtain ⟨vm₁, X₁, hstep₁⟩ := X.invokevirtual hexec hown hl hnamed hmethM hstM hkP hkPi hy (a := b) (cell := cellB) (by rw [hT]; exact hcB)
    (fun z h => by rw [h] at hoB; cases hoB) hselP hmethM habM hkP hkPi (g := F0 m pc ls st) rfl (argsL := As) (rest := rest) (hn.trans (hlen _ hsigM)) hstack (by rw [hb]; exact hdg)
  obtain ⟨t, a1, b1⟩ := bb_thrown (g := F0 m pc ls rest) hM X₁ hT rfl (hsize.trans hml.symm) (by rw [hb]; exact hdg) hnamed hini hcode hfr hlo hws hrc hrs (lv_room hW) hcc hss (a := (.ref b :: As).toArray) (hbl _ _ _ _ (hPc (T.setVm vm₁) hT X₁.warmed)) kk
  exact ⟨t, hstep₁ _ fun acts => by rw [doInvoke_state]; exact a1, b1⟩
end BbThrow
