/-! the constructors, and Arrays.fill -/
abbrev cX0_init : ByteArray := prog_1_method_1_code
def yX0_init : MethodName := ⟨RX0, "<init>", "()V"⟩
def wsX0_init : List Cond := .code yX0_init cX0_init 1 none :: bb_T
abbrev cX1_init : ByteArray := prog_3_method_1_code
def yX1_init : MethodName := ⟨RX1, "<init>", "()V"⟩
def wsX1_init : List Cond := .code yX1_init cX1_init 2 none :: bb_T
theorem dX0_init_0 : decode cX0_init 0 = .ok (.aload_n 0, 1) := by decide +kernel
theorem dX0_init_1 : decode cX0_init 1 = .ok (.invokespecial 1, 3) := by decide +kernel
theorem dX0_init_4 : decode cX0_init 4 = .ok (.aload_n 0, 1) := by decide +kernel
theorem dX0_init_5 : decode cX0_init 5 = .ok (.bipush 10, 2) := by decide +kernel
theorem dX0_init_7 : decode cX0_init 7 = .ok (.newarray .int, 2) := by decide +kernel
theorem dX0_init_9 : decode cX0_init 9 = .ok (.putfield 9, 3) := by decide +kernel
theorem dX0_init_12 : decode cX0_init 12 = .ok (.aload_n 0, 1) := by decide +kernel
theorem dX0_init_13 : decode cX0_init 13 = .ok (.bipush 10, 2) := by decide +kernel
theorem dX0_init_15 : decode cX0_init 15 = .ok (.newarray .int, 2) := by decide +kernel
theorem dX0_init_17 : decode cX0_init 17 = .ok (.putfield 13, 3) := by decide +kernel
theorem dX0_init_20 : decode cX0_init 20 = .ok (.aload_n 0, 1) := by decide +kernel
theorem dX0_init_21 : decode cX0_init 21 = .ok (.bipush 31, 2) := by decide +kernel
theorem dX0_init_23 : decode cX0_init 23 = .ok (.newarray .int, 2) := by decide +kernel
theorem dX0_init_25 : decode cX0_init 25 = .ok (.putfield 16, 3) := by decide +kernel
theorem dX0_init_28 : decode cX0_init 28 = .ok (.aload_n 0, 1) := by decide +kernel
theorem dX0_init_29 : decode cX0_init 29 = .ok (.bipush 31, 2) := by decide +kernel
theorem dX0_init_31 : decode cX0_init 31 = .ok (.newarray .int, 2) := by decide +kernel
theorem dX0_init_33 : decode cX0_init 33 = .ok (.putfield 19, 3) := by decide +kernel
theorem dX0_init_36 : decode cX0_init 36 = .ok (.aload_n 0, 1) := by decide +kernel
theorem dX0_init_37 : decode cX0_init 37 = .ok (.bipush 6, 2) := by decide +kernel
theorem dX0_init_39 : decode cX0_init 39 = .ok (.putfield 22, 3) := by decide +kernel
theorem dX0_init_42 : decode cX0_init 42 = .ok (.aload_n 0, 1) := by decide +kernel
theorem dX0_init_43 : decode cX0_init 43 = .ok (.getfield 9, 3) := by decide +kernel
theorem dX0_init_46 : decode cX0_init 46 = .ok (.iconst 1, 1) := by decide +kernel
theorem dX0_init_47 : decode cX0_init 47 = .ok (.invokestatic 26, 3) := by decide +kernel
theorem dX0_init_50 : decode cX0_init 50 = .ok (.aload_n 0, 1) := by decide +kernel
theorem dX0_init_51 : decode cX0_init 51 = .ok (.getfield 19, 3) := by decide +kernel
theorem dX0_init_54 : decode cX0_init 54 = .ok (.iconst (-1), 1) := by decide +kernel
theorem dX0_init_55 : decode cX0_init 55 = .ok (.invokestatic 26, 3) := by decide +kernel
theorem dX0_init_58 : decode cX0_init 58 = .ok (.return_, 1) := by decide +kernel
theorem dX1_init_0 : decode cX1_init 0 = .ok (.aload_n 0, 1) := by decide +kernel
theorem dX1_init_1 : decode cX1_init 1 = .ok (.invokespecial 1, 3) := by decide +kernel
theorem dX1_init_4 : decode cX1_init 4 = .ok (.aload_n 0, 1) := by decide +kernel
theorem dX1_init_5 : decode cX1_init 5 = .ok (.bipush 10, 2) := by decide +kernel
theorem dX1_init_7 : decode cX1_init 7 = .ok (.newarray .int, 2) := by decide +kernel
theorem dX1_init_9 : decode cX1_init 9 = .ok (.putfield 9, 3) := by decide +kernel
theorem dX1_init_12 : decode cX1_init 12 = .ok (.aload_n 0, 1) := by decide +kernel
theorem dX1_init_13 : decode cX1_init 13 = .ok (.bipush 10, 2) := by decide +kernel
theorem dX1_init_15 : decode cX1_init 15 = .ok (.newarray .int, 2) := by decide +kernel
theorem dX1_init_17 : decode cX1_init 17 = .ok (.putfield 13, 3) := by decide +kernel
theorem dX1_init_20 : decode cX1_init 20 = .ok (.aload_n 0, 1) := by decide +kernel
theorem dX1_init_21 : decode cX1_init 21 = .ok (.sipush 310, 3) := by decide +kernel
theorem dX1_init_24 : decode cX1_init 24 = .ok (.newarray .int, 2) := by decide +kernel
theorem dX1_init_26 : decode cX1_init 26 = .ok (.putfield 16, 3) := by decide +kernel
theorem dX1_init_29 : decode cX1_init 29 = .ok (.aload_n 0, 1) := by decide +kernel
theorem dX1_init_30 : decode cX1_init 30 = .ok (.bipush 6, 2) := by decide +kernel
theorem dX1_init_32 : decode cX1_init 32 = .ok (.putfield 19, 3) := by decide +kernel
theorem dX1_init_35 : decode cX1_init 35 = .ok (.iconst 0, 1) := by decide +kernel
theorem dX1_init_36 : decode cX1_init 36 = .ok (.istore_n 1, 1) := by decide +kernel
theorem dX1_init_37 : decode cX1_init 37 = .ok (.iload_n 1, 1) := by decide +kernel
theorem dX1_init_38 : decode cX1_init 38 = .ok (.bipush 10, 2) := by decide +kernel
theorem dX1_init_40 : decode cX1_init 40 = .ok (.if_icmp .ge 16, 3) := by decide +kernel
theorem dX1_init_43 : decode cX1_init 43 = .ok (.aload_n 0, 1) := by decide +kernel
theorem dX1_init_44 : decode cX1_init 44 = .ok (.getfield 9, 3) := by decide +kernel
theorem dX1_init_47 : decode cX1_init 47 = .ok (.iload_n 1, 1) := by decide +kernel
theorem dX1_init_48 : decode cX1_init 48 = .ok (.iconst 1, 1) := by decide +kernel
theorem dX1_init_49 : decode cX1_init 49 = .ok (.iastore, 1) := by decide +kernel
theorem dX1_init_50 : decode cX1_init 50 = .ok (.iinc 1 1, 3) := by decide +kernel
theorem dX1_init_53 : decode cX1_init 53 = .ok (.goto (-16), 3) := by decide +kernel
theorem dX1_init_56 : decode cX1_init 56 = .ok (.iconst 0, 1) := by decide +kernel
theorem dX1_init_57 : decode cX1_init 57 = .ok (.istore_n 1, 1) := by decide +kernel
theorem dX1_init_58 : decode cX1_init 58 = .ok (.iload_n 1, 1) := by decide +kernel
theorem dX1_init_59 : decode cX1_init 59 = .ok (.sipush 310, 3) := by decide +kernel
theorem dX1_init_62 : decode cX1_init 62 = .ok (.if_icmp .ge 16, 3) := by decide +kernel
theorem dX1_init_65 : decode cX1_init 65 = .ok (.aload_n 0, 1) := by decide +kernel
theorem dX1_init_66 : decode cX1_init 66 = .ok (.getfield 16, 3) := by decide +kernel
theorem dX1_init_69 : decode cX1_init 69 = .ok (.iload_n 1, 1) := by decide +kernel
theorem dX1_init_70 : decode cX1_init 70 = .ok (.iconst (-1), 1) := by decide +kernel
theorem dX1_init_71 : decode cX1_init 71 = .ok (.iastore, 1) := by decide +kernel
theorem dX1_init_72 : decode cX1_init 72 = .ok (.iinc 1 1, 3) := by decide +kernel
theorem dX1_init_75 : decode cX1_init 75 = .ok (.goto (-17), 3) := by decide +kernel
theorem dX1_init_78 : decode cX1_init 78 = .ok (.return_, 1) := by decide +kernel
theorem bb_u12 : Cond.classLink RL 8 RX0 ∈ bb_T := bb_tb 12 (by decide +kernel) (by decide +kernel)
theorem bb_u13 : Cond.instantiable RX0 5 ∈ bb_T := bb_tb 13 (by decide +kernel) (by decide +kernel)
theorem bb_u14 : Cond.methodLink RL 56 yX0_init ∈ bb_T := bb_tb 14 (by decide +kernel) (by decide +kernel)
theorem bb_u15 : Cond.instanceMethod yX0_init ∈ bb_T := bb_tb 15 (by decide +kernel) (by decide +kernel)
theorem bb_u16 : Cond.code yX0_init cX0_init 1 none ∈ bb_T := bb_tb 16 (by decide +kernel) (by decide +kernel)
theorem bb_u17 : Cond.methodLink RX0 1 Lib.objectInit ∈ bb_T := bb_tb 17 (by decide +kernel) (by decide +kernel)
theorem bb_u18 : Cond.instanceMethod Lib.objectInit ∈ bb_T := bb_tb 18 (by decide +kernel) (by decide +kernel)
theorem bb_u19 : Cond.code Lib.objectInit ⟨#[0xb1]⟩ 1 none ∈ bb_T := bb_tb 19 (by decide +kernel) (by decide +kernel)
theorem bb_u20 : Cond.methodLink RX0 26 yA_fill ∈ bb_T := bb_tb 20 (by decide +kernel) (by decide +kernel)
theorem bb_u21 : Cond.static yA_fill ∈ bb_T := bb_tb 21 (by decide +kernel) (by decide +kernel)
theorem bb_u22 : Cond.code yA_fill cA_fill 4 none ∈ bb_T := bb_tb 22 (by decide +kernel) (by decide +kernel)
theorem bb_u2 : Cond.initialized yA_fill.cls ∈ bb_T := bb_tb 2 (by decide +kernel) (by decide +kernel)
theorem bb_u39 : Cond.arrayClass .int ∈ bb_T := bb_tb 39 (by decide +kernel) (by decide +kernel)
theorem bb_u351 : Cond.classLink RL 57 RX1 ∈ bb_T := bb_tb 351 (by decide +kernel) (by decide +kernel)
theorem bb_u352 : Cond.instantiable RX1 5 ∈ bb_T := bb_tb 352 (by decide +kernel) (by decide +kernel)
theorem bb_u353 : Cond.methodLink RL 59 yX1_init ∈ bb_T := bb_tb 353 (by decide +kernel) (by decide +kernel)
theorem bb_u354 : Cond.instanceMethod yX1_init ∈ bb_T := bb_tb 354 (by decide +kernel) (by decide +kernel)
theorem bb_u355 : Cond.code yX1_init cX1_init 2 none ∈ bb_T := bb_tb 355 (by decide +kernel) (by decide +kernel)
theorem bb_u356 : Cond.methodLink RX1 1 Lib.objectInit ∈ bb_T := bb_tb 356 (by decide +kernel) (by decide +kernel)
theorem bb_u483 : Cond.arrayClass .long ∈ bb_T := bb_tb 483 (by decide +kernel) (by decide +kernel)
theorem gX0_init_A_fill : GoodIn wsX0_init (va_wsS RX0 26 yA_fill wsA_fill) := bb_gA bb_u20 bb_u21 bb_u2 bb_u22
/-- the first j places filled -/
def bb_fl (f : Nat → Int32) (x : Int32) : Nat → (Nat → Int32)
  | 0 => f
  | j + 1 => upd (bb_fl f x j) j x
theorem bb_fl_eq {f : Nat → Int32} {x : Int32} : ∀ {J i : Nat}, i < J → bb_fl f x J i = x
  | 0, i, h => absurd h (Nat.not_lt_zero i)
  | J + 1, i, h => by
    show upd (bb_fl f x J) J x i = x
    unfold upd
    by_cases e : i = J
    · simp [e]
    · have h2 := bb_fl_eq (f := f) (x := x) (J := J) (i := i) (by omega)
      simp [e, h2]
section BbNew
variable {p : Program} {l : Launch} {e : Env} {R : Room} {s : State} {m : MethodId} {args : Array Value} {below : List Frame} {meth : Method} {c : Code} {H H0 : Heap} {locs : List Loc} {cells slots : Nat} {Q : State → Prop} {pc : Nat} {ls : Array Slot} {st rest : List Value} {cc : ByteArray} {A : Nat → Prop} {D : va_G} {cl : List vw_C} {ws : va_W} {tys : List (ClassId × FieldType)}
theorem bb_objI (hexec : p.tables.exec = Jvm.exec) (hb : c.code = cc) {own : String} (hown : s.vm.findClass own = some m.cls) {idx : Nat} (hlink : (Cond.methodLink own idx Lib.objectInit).before args s = true) (hinst : (Cond.instanceMethod Lib.objectInit).before args s = true) (hcode : (Cond.code Lib.objectInit ⟨#[0xb1]⟩ 1 none).before args s = true)
    (hsize : ls.size = c.maxLocals) {a : Addr} (hd : decode cc pc = .ok (.invokespecial idx, 3)) (hframes : 1 ≤ R.frames) (hlocals : 12 ≤ R.locals)
    (kk : W p l e R s m args below meth c H locs cells slots Q (F0 m (pc + 3) ls [])) : W p l e R s m args below meth c H locs cells slots Q (F0 m pc ls [.ref a]) :=
  W.objInit hexec hb hown hlink hinst hcode (g := F0 m pc ls [.ref a]) (rest := []) rfl hsize rfl hd hframes hlocals kk
theorem bb_newi (hexec : p.tables.exec = Jvm.exec) (hb : c.code = cc) (harr : (Cond.arrayClass .int).before args s = true) (hK : va_K D cl tys s) (t0 : Nat) {cA : ClassId} (ht : tys[t0]? = some (cA, .int)) (hP : va_P D cl ws H) (hD : va_D A ws) (hS : va_S A H0 H locs) (hA : ∀ q, H0.size ≤ q → A q)
    {n : Int32} (N : Nat) (hn : ¬ n < 0) (hN : n.toNatClampNeg = N) (hbytes : N * 4 ≤ 536870912) (hcells : cells + 1 ≤ R.cells) (hslots : slots + N ≤ R.slots) (hdg : decode cc pc = .ok (.newarray .int, 2))
    (kk : ∀ (q : Nat) (H1 : Heap), va_P D cl (ws ++ [(q, .inl (cA, N, .inl (fun _ => 0)))]) H1 → va_D A (ws ++ [(q, .inl (cA, N, .inl (fun _ => 0)))]) → va_S A H0 H1 locs → W p l e R s m args below meth c H1 locs (cells + 1) (slots + N) Q (F0 m (pc + 2) ls (.ref q :: rest))) : W p l e R s m args below meth c H locs cells slots Q (F0 m pc ls (.int n :: rest)) := by
  refine va_newa hexec hb (atype := .int) harr (ty := .int) rfl hK hP hD hS hA (a0 := (N, .inl (fun _ => 0))) (fun cB => by rw [vp_cell_i]; rfl) hn hN hbytes hcells hslots hdg (fun q cB H1 hK1 hP1 hD1 hS1 => ?_)
  have h1 : s.vm.findClass ("[" ++ FieldType.int.toString) = some cB := (hK1.2 tys.length (cB, .int) (by simp)).2
  have h2 : s.vm.findClass ("[" ++ FieldType.int.toString) = some cA := (hK.2 t0 (cA, .int) ht).2
  cases Option.some.inj (h1.symm.trans h2)
  exact kk q H1 hP1 hD1 hS1
end BbNew

set_option maxHeartbeats 4000000 in
set_option maxRecDepth 100000 in
theorem q_fill (l : Launch) (dC : Nat → ClassId) (dI : Nat → Nat → Nat) (cA : ClassId) (a n : Nat) (f : Nat → Int32) (sz : Nat) (x : Int32) (hn : n < 2 ^ 31) : Met l yA_fill wsA_fill ({ frames := 0, cells := 0, slots := 0, locals := 0 }) (bb_Pm [.ref a, .int x] (dC, dI) vwCl [(a, .inl (cA, n, .inl f))] [(cA, .int)] sz) (bb_Qv (dC, dI) vwCl [(a, .inl (cA, n, .inl (bb_fl f x n)))] (va_A [(a, .inl (cA, n, .inl f))] sz)) 0 0 (va_A [(a, .inl (cA, n, .inl f))] sz) := by
  refine Met.ofW (cc := cA_fill) (maxL := 4) (ret := none) (by decide) rfl ?_
  intro p e s m args below meth c s₁ B hml hv
  obtain ⟨rfl, hsz, hP, hK, hD0⟩ := hv
  have hx := B.exec
  have hb := B.bytes
  have hr := B.returns
  have hts := atoms_spec (ws := wsA_fill) B.pre
  have hown : s.vm.findClass RA = some m.cls := findClass_of_methodNamed B.named
  have hlocks := B.notSynchronized
  subst hsz
  have hD := hD0.self (sz := s.heap.size)
  generalize hAe : va_A [(a, .inl (cA, n, .inl f))] s.heap.size = A at hD ⊢
  have hA : ∀ q : Nat, s.heap.size ≤ q → A q := fun q h => by rw [← hAe]; exact Or.inr h
  have hl := lv_entry ([.ref a, .int x]) (n := 4) (Nat.le_of_ble_eq_true rfl)
  rw [lg_entry_eq]
  generalize (lg_sl ([.ref a, .int x]) ++ List.replicate (4 - (lg_sl ([.ref a, .int x])).length) Slot.unset).toArray = ls at hl ⊢
  have hl : lv_has ls 4 [(0, .ref a), (1, .int x)] := hl
  refine bb_gen hP hD (fun H locs hP hD hS => ?_)
  refine lv_iconst (v := 0) hx hb dA_fill_0 (by decide) ?_
  refine lv_istore_n (lv' := [(2, .int 0), (0, .ref a), (1, .int x)]) hx hb dA_fill_1 rfl hl (by decide) rfl (fun ls hl => ?_)
  refine lv_aload_n hx hb dA_fill_2 rfl (lv_at hl 1 rfl) ?_
  refine va_alen hx hb hK hP 0 0 rfl rfl (v := nI n) rfl dA_fill_3 ?_
  refine lv_istore_n (lv' := [(3, .int (nI n)), (2, .int 0), (0, .ref a), (1, .int x)]) hx hb dA_fill_4 rfl hl (by decide) rfl (fun ls hl => ?_)
  have hl : lv_has ls 4 [(0, .ref a), (1, .int x), (2, .int 0), (3, .int (nI n))] := lv_sub hl [2, 3, 1, 0] rfl
  refine bb_forHW (pc := 5) (I := fun j9 ls H L => lv_has ls 4 [(0, .ref a), (1, .int x), (2, .int (nI j9)), (3, .int (nI n))] ∧ va_P (dC, dI) vwCl [(a, .inl (cA, n, .inl (bb_fl f x j9)))] H ∧ va_D A [(a, .inl (cA, n, .inl (bb_fl f x j9)))] ∧ va_S A s.heap H L) n ?_ ?_ 0 ls H locs (Nat.zero_le _) ⟨hl, hP, hD, hS⟩
  · skip
    intro j ls H locs hj hI ihj
    obtain ⟨hl, hP, hD, hS⟩ := hI
    refine lv_iload_n hx hb dA_fill_5 rfl (lv_at hl 2 rfl) ?_
    refine lv_iload_n hx hb dA_fill_6 rfl (lv_at hl 3 rfl) ?_
    refine lv_icmp_ge (tgt := 20) hx hb dA_fill_7 rfl (fun h7 => absurd h7 (nI_ge hj hn)) (fun h7 => ?_)
    have q7 := bb_lt h7
    refine lv_aload_n hx hb dA_fill_10 rfl (lv_at hl 0 rfl) ?_
    refine lv_iload_n hx hb dA_fill_11 rfl (lv_at hl 2 rfl) ?_
    refine lv_iload_n hx hb dA_fill_12 rfl (lv_at hl 1 rfl) ?_
    refine bb_ast hx hb hK hP hD hS 0 0 rfl rfl j (by omega) hn dA_fill_13 (fun H locs hP hD hS => ?_)
    have hP : va_P (dC, dI) vwCl [(a, .inl (cA, n, .inl (upd (bb_fl f x j) j x)))] H := hP
    have hD : va_D A [(a, .inl (cA, n, .inl (upd (bb_fl f x j) j x)))] := hD
    refine lv_iinc (v := nI (j + 1)) (lv' := [(2, .int (nI (j + 1))), (0, .ref a), (1, .int x), (3, .int (nI n))]) hx hb dA_fill_14 hl (k := 2) rfl (bb_inc _) (by decide) rfl (fun ls hl => ?_)
    refine lv_goto (tgt := 5) hx hb dA_fill_17 rfl ?_
    have hl : lv_has ls 4 [(0, .ref a), (1, .int x), (2, .int (nI (j + 1))), (3, .int (nI n))] := lv_sub hl [1, 2, 0, 3] rfl
    have e1 : upd (bb_fl f x j) j x = bb_fl f x (j + 1) := by simp [bb_fl, h7, q7]
    have hP : va_P (dC, dI) vwCl [(a, .inl (cA, n, .inl (bb_fl f x (j + 1))))] H := by rw [← e1]; exact hP
    have hD : va_D A [(a, .inl (cA, n, .inl (bb_fl f x (j + 1))))] := by rw [← e1]; exact hD
    exact ihj ls H locs ⟨hl, hP, hD, hS⟩
  · skip
    intro ls H locs hI
    obtain ⟨hl, hP, hD, hS⟩ := hI
    refine lv_iload_n hx hb dA_fill_5 rfl (lv_at hl 2 rfl) ?_
    refine lv_iload_n hx hb dA_fill_6 rfl (lv_at hl 3 rfl) ?_
    refine lv_icmp_ge (tgt := 20) hx hb dA_fill_7 rfl (fun h7 => ?_) (fun h7 => absurd (nI_le (Nat.le_refl _) hn) h7)
    have q7 := bb_nlt h7
    exact W.vret hx hb hr (fun t ht _ => ⟨⟨(), rfl, trivial, by show va_P _ _ _ t.heap; rw [ht]; exact hP⟩, hS.F ht⟩) hS.2.2 dA_fill_20

set_option maxHeartbeats 4000000 in
set_option maxRecDepth 100000 in
theorem q_X0 (l : Launch) (dC : Nat → ClassId) (dI : Nat → Nat → Nat) (cA : ClassId) (h0 sz : Nat) : Met l yX0_init wsX0_init ({ frames := 1, cells := 4, slots := 82, locals := 24 }) (bb_Pm [.ref h0] (dC, dI) vwCl [(h0, .inr (0, [.null, .null, .null, .null, .int 0]))] [(cA, .int)] sz) (va_Qv (S := Nat × Nat × Nat × Nat) (fun _ => True) (fun u t => va_P (dC, dI) vwCl (bb_C h0 u.1 u.2.1 u.2.2.1 u.2.2.2 cA (fun _ => 1) (fun _ => 0) (fun _ => 0) (fun _ => (-1)) 6) t.heap ∧ va_D (va_A [(h0, .inr (0, [.null, .null, .null, .null, .int 0]))] sz) (bb_C h0 u.1 u.2.1 u.2.2.1 u.2.2.2 cA (fun _ => 1) (fun _ => 0) (fun _ => 0) (fun _ => (-1)) 6)) (va_A [(h0, .inr (0, [.null, .null, .null, .null, .int 0]))] sz)) 4 82 (va_A [(h0, .inr (0, [.null, .null, .null, .null, .int 0]))] sz) := by
  refine Met.ofW (cc := cX0_init) (maxL := 1) (ret := none) (by decide) rfl ?_
  intro p e s m args below meth c s₁ B hml hv
  obtain ⟨rfl, hsz, hP, hK, hD0⟩ := hv
  have hx := B.exec
  have hb := B.bytes
  have hr := B.returns
  have hts := atoms_spec (ws := wsX0_init) B.pre
  have hin0 : meth.name = "<init>" := (name_of_methodNamed B.named B.method).1
  have hown : s.vm.findClass RX0 = some m.cls := findClass_of_methodNamed B.named
  have hlocks := B.notSynchronized
  subst hsz
  have hD := hD0.self (sz := s.heap.size)
  generalize hAe : va_A [(h0, .inr (0, [.null, .null, .null, .null, .int 0]))] s.heap.size = A at hD ⊢
  have hA : ∀ q : Nat, s.heap.size ≤ q → A q := fun q h => by rw [← hAe]; exact Or.inr h
  have hin : ∀ w9 ∈ u_ws RX0 TX0 5, w9 ∈ wsX0_init := fun w9 h9 => List.mem_cons_of_mem _ (bb_inX0 w9 h9)
  have hf9 := hts _ (List.mem_cons_of_mem _ bb_fX0_9)
  have hf13 := hts _ (List.mem_cons_of_mem _ bb_fX0_13)
  have hf16 := hts _ (List.mem_cons_of_mem _ bb_fX0_16)
  have hf19 := hts _ (List.mem_cons_of_mem _ bb_fX0_19)
  have hf22 := hts _ (List.mem_cons_of_mem _ bb_fX0_22)
  have hl := lv_entry ([.ref h0]) (n := 1) (Nat.le_of_ble_eq_true rfl)
  rw [lg_entry_eq]
  generalize (lg_sl ([.ref h0]) ++ List.replicate (1 - (lg_sl ([.ref h0])).length) Slot.unset).toArray = ls at hl ⊢
  have hl : lv_has ls 1 [(0, .ref h0)] := hl
  refine bb_gen hP hD (fun H locs hP hD hS => ?_)
  refine lv_aload_n hx hb dX0_init_0 rfl (lv_at hl 0 rfl) ?_
  refine bb_objI hx hb hown (hts _ (List.mem_cons_of_mem _ bb_u17)) (hts _ (List.mem_cons_of_mem _ bb_u18)) (hts _ (List.mem_cons_of_mem _ bb_u19)) (hl.1.trans hml.symm) dX0_init_1 (Nat.le_of_ble_eq_true rfl) (Nat.le_of_ble_eq_true rfl) ?_
  refine lv_aload_n hx hb dX0_init_4 rfl (lv_at hl 0 rfl) ?_
  refine lv_bipush (v := 10) hx hb dX0_init_5 (by decide) ?_
  refine bb_newi hx hb (hts _ (List.mem_cons_of_mem _ bb_u39)) hK 0 rfl hP hD hS hA 10 (by decide) (by decide) (by decide) (Nat.le_of_ble_eq_true rfl) (Nat.le_of_ble_eq_true rfl) dX0_init_7 (fun a0 H hP hD hS => ?_)
  have hP : va_P (dC, dI) vwCl [(h0, .inr (0, [.null, .null, .null, .null, .int 0])), (a0, .inl (cA, 10, .inl (fun _ => 0)))] H := hP
  have hD : va_D A [(h0, .inr (0, [.null, .null, .null, .null, .int 0])), (a0, .inl (cA, 10, .inl (fun _ => 0)))] := hD
  refine va_putF (D := (dC, dI)) (ci := 0) (v := .ref a0) (ty := .array .int) (C := RX0) (T := TX0) (N := 5) hx hb hts hin tyX0 tyX0_ok nX0 hown hK hP hD hS 0 rfl rfl 0 (by decide) hf9 (fun _ h9 => h9) rfl hin0 rfl (by decide +kernel) rfl rfl (Nat.le_of_ble_eq_true rfl) dX0_init_9 (fun H locs hP hD hS => ?_)
  have hP : va_P (dC, dI) vwCl [(h0, .inr (0, [.ref a0, .null, .null, .null, .int 0])), (a0, .inl (cA, 10, .inl (fun _ => 0)))] H := hP
  have hD : va_D A [(h0, .inr (0, [.ref a0, .null, .null, .null, .int 0])), (a0, .inl (cA, 10, .inl (fun _ => 0)))] := hD
  refine lv_aload_n hx hb dX0_init_12 rfl (lv_at hl 0 rfl) ?_
  refine lv_bipush (v := 10) hx hb dX0_init_13 (by decide) ?_
  refine bb_newi hx hb (hts _ (List.mem_cons_of_mem _ bb_u39)) hK 0 rfl hP hD hS hA 10 (by decide) (by decide) (by decide) (Nat.le_of_ble_eq_true rfl) (Nat.le_of_ble_eq_true rfl) dX0_init_15 (fun a1 H hP hD hS => ?_)
  have hP : va_P (dC, dI) vwCl [(h0, .inr (0, [.ref a0, .null, .null, .null, .int 0])), (a0, .inl (cA, 10, .inl (fun _ => 0))), (a1, .inl (cA, 10, .inl (fun _ => 0)))] H := hP
  have hD : va_D A [(h0, .inr (0, [.ref a0, .null, .null, .null, .int 0])), (a0, .inl (cA, 10, .inl (fun _ => 0))), (a1, .inl (cA, 10, .inl (fun _ => 0)))] := hD
  refine va_putF (D := (dC, dI)) (ci := 0) (v := .ref a1) (ty := .array .int) (C := RX0) (T := TX0) (N := 5) hx hb hts hin tyX0 tyX0_ok nX0 hown hK hP hD hS 0 rfl rfl 1 (by decide) hf13 (fun _ h9 => h9) rfl hin0 rfl (by decide +kernel) rfl rfl (Nat.le_of_ble_eq_true rfl) dX0_init_17 (fun H locs hP hD hS => ?_)
  have hP : va_P (dC, dI) vwCl [(h0, .inr (0, [.ref a0, .ref a1, .null, .null, .int 0])), (a0, .inl (cA, 10, .inl (fun _ => 0))), (a1, .inl (cA, 10, .inl (fun _ => 0)))] H := hP
  have hD : va_D A [(h0, .inr (0, [.ref a0, .ref a1, .null, .null, .int 0])), (a0, .inl (cA, 10, .inl (fun _ => 0))), (a1, .inl (cA, 10, .inl (fun _ => 0)))] := hD
  refine lv_aload_n hx hb dX0_init_20 rfl (lv_at hl 0 rfl) ?_
  refine lv_bipush (v := 31) hx hb dX0_init_21 (by decide) ?_
  refine bb_newi hx hb (hts _ (List.mem_cons_of_mem _ bb_u39)) hK 0 rfl hP hD hS hA 31 (by decide) (by decide) (by decide) (Nat.le_of_ble_eq_true rfl) (Nat.le_of_ble_eq_true rfl) dX0_init_23 (fun a2 H hP hD hS => ?_)
  have hP : va_P (dC, dI) vwCl [(h0, .inr (0, [.ref a0, .ref a1, .null, .null, .int 0])), (a0, .inl (cA, 10, .inl (fun _ => 0))), (a1, .inl (cA, 10, .inl (fun _ => 0))), (a2, .inl (cA, 31, .inl (fun _ => 0)))] H := hP
  have hD : va_D A [(h0, .inr (0, [.ref a0, .ref a1, .null, .null, .int 0])), (a0, .inl (cA, 10, .inl (fun _ => 0))), (a1, .inl (cA, 10, .inl (fun _ => 0))), (a2, .inl (cA, 31, .inl (fun _ => 0)))] := hD
  refine va_putF (D := (dC, dI)) (ci := 0) (v := .ref a2) (ty := .array .int) (C := RX0) (T := TX0) (N := 5) hx hb hts hin tyX0 tyX0_ok nX0 hown hK hP hD hS 0 rfl rfl 2 (by decide) hf16 (fun _ h9 => h9) rfl hin0 rfl (by decide +kernel) rfl rfl (Nat.le_of_ble_eq_true rfl) dX0_init_25 (fun H locs hP hD hS => ?_)
  have hP : va_P (dC, dI) vwCl [(h0, .inr (0, [.ref a0, .ref a1, .ref a2, .null, .int 0])), (a0, .inl (cA, 10, .inl (fun _ => 0))), (a1, .inl (cA, 10, .inl (fun _ => 0))), (a2, .inl (cA, 31, .inl (fun _ => 0)))] H := hP
  have hD : va_D A [(h0, .inr (0, [.ref a0, .ref a1, .ref a2, .null, .int 0])), (a0, .inl (cA, 10, .inl (fun _ => 0))), (a1, .inl (cA, 10, .inl (fun _ => 0))), (a2, .inl (cA, 31, .inl (fun _ => 0)))] := hD
  refine lv_aload_n hx hb dX0_init_28 rfl (lv_at hl 0 rfl) ?_
  refine lv_bipush (v := 31) hx hb dX0_init_29 (by decide) ?_
  refine bb_newi hx hb (hts _ (List.mem_cons_of_mem _ bb_u39)) hK 0 rfl hP hD hS hA 31 (by decide) (by decide) (by decide) (Nat.le_of_ble_eq_true rfl) (Nat.le_of_ble_eq_true rfl) dX0_init_31 (fun a3 H hP hD hS => ?_)
  have hP : va_P (dC, dI) vwCl [(h0, .inr (0, [.ref a0, .ref a1, .ref a2, .null, .int 0])), (a0, .inl (cA, 10, .inl (fun _ => 0))), (a1, .inl (cA, 10, .inl (fun _ => 0))), (a2, .inl (cA, 31, .inl (fun _ => 0))), (a3, .inl (cA, 31, .inl (fun _ => 0)))] H := hP
  have hD : va_D A [(h0, .inr (0, [.ref a0, .ref a1, .ref a2, .null, .int 0])), (a0, .inl (cA, 10, .inl (fun _ => 0))), (a1, .inl (cA, 10, .inl (fun _ => 0))), (a2, .inl (cA, 31, .inl (fun _ => 0))), (a3, .inl (cA, 31, .inl (fun _ => 0)))] := hD
  refine va_putF (D := (dC, dI)) (ci := 0) (v := .ref a3) (ty := .array .int) (C := RX0) (T := TX0) (N := 5) hx hb hts hin tyX0 tyX0_ok nX0 hown hK hP hD hS 0 rfl rfl 3 (by decide) hf19 (fun _ h9 => h9) rfl hin0 rfl (by decide +kernel) rfl rfl (Nat.le_of_ble_eq_true rfl) dX0_init_33 (fun H locs hP hD hS => ?_)
  have hP : va_P (dC, dI) vwCl [(h0, .inr (0, [.ref a0, .ref a1, .ref a2, .ref a3, .int 0])), (a0, .inl (cA, 10, .inl (fun _ => 0))), (a1, .inl (cA, 10, .inl (fun _ => 0))), (a2, .inl (cA, 31, .inl (fun _ => 0))), (a3, .inl (cA, 31, .inl (fun _ => 0)))] H := hP
  have hD : va_D A [(h0, .inr (0, [.ref a0, .ref a1, .ref a2, .ref a3, .int 0])), (a0, .inl (cA, 10, .inl (fun _ => 0))), (a1, .inl (cA, 10, .inl (fun _ => 0))), (a2, .inl (cA, 31, .inl (fun _ => 0))), (a3, .inl (cA, 31, .inl (fun _ => 0)))] := hD
  refine lv_aload_n hx hb dX0_init_36 rfl (lv_at hl 0 rfl) ?_
  refine lv_bipush (v := 6) hx hb dX0_init_37 (by decide) ?_
  refine va_put (D := (dC, dI)) (ci := 0) (v := .int 6) (ty := .int) (C := RX0) (T := TX0) (N := 5) hx hb hts hin tyX0 tyX0_ok nX0 hown hK hP hD hS 0 rfl rfl 4 (by decide) hf22 (fun _ h9 => h9) rfl (by decide +kernel) rfl rfl (Nat.le_of_ble_eq_true rfl) dX0_init_39 (fun H locs hP hD hS => ?_)
  have hP : va_P (dC, dI) vwCl [(h0, .inr (0, [.ref a0, .ref a1, .ref a2, .ref a3, .int 6])), (a0, .inl (cA, 10, .inl (fun _ => 0))), (a1, .inl (cA, 10, .inl (fun _ => 0))), (a2, .inl (cA, 31, .inl (fun _ => 0))), (a3, .inl (cA, 31, .inl (fun _ => 0)))] H := hP
  have hD : va_D A [(h0, .inr (0, [.ref a0, .ref a1, .ref a2, .ref a3, .int 6])), (a0, .inl (cA, 10, .inl (fun _ => 0))), (a1, .inl (cA, 10, .inl (fun _ => 0))), (a2, .inl (cA, 31, .inl (fun _ => 0))), (a3, .inl (cA, 31, .inl (fun _ => 0)))] := hD
  refine lv_aload_n hx hb dX0_init_42 rfl (lv_at hl 0 rfl) ?_
  refine va_get (D := (dC, dI)) (ci := 0) (v := .ref a0) (C := RX0) (T := TX0) (N := 5) hx hb hts hin hown hK hP 0 rfl rfl 0 (by decide) hf9 (fun _ h9 => h9) rfl dX0_init_43 ?_
  refine lv_iconst (v := 1) hx hb dX0_init_46 (by decide) ?_
  refine bb_cSf (As := [.ref a0, .int 1]) (rest := []) (pre := [(h0, .inr (0, [.ref a0, .ref a1, .ref a2, .ref a3, .int 6]))]) (wc := [(a0, .inl (cA, 10, .inl (fun _ => 0)))]) (post := [(a1, .inl (cA, 10, .inl (fun _ => 0))), (a2, .inl (cA, 31, .inl (fun _ => 0))), (a3, .inl (cA, 31, .inl (fun _ => 0)))]) (wc' := [(a0, .inl (cA, 10, .inl (bb_fl (fun _ => 0) 1 10)))]) ⟨hx, hb, hml, hown, hts⟩ (q_fill l dC dI cA a0 10 (fun _ => 0) H.size 1 (by decide)) (va_cwS 2 hts gX0_init_A_fill rfl rfl rfl (by decide +kernel) ⟨Nat.le_of_ble_eq_true rfl, Nat.le_of_ble_eq_true rfl⟩) hP hK hD hS hA rfl rfl hl.1 rfl (Nat.le_of_ble_eq_true rfl) dX0_init_47 (Nat.le_of_ble_eq_true rfl) (Nat.le_of_ble_eq_true rfl) (fun H locs hP hD hS => ?_)
  have hP : va_P (dC, dI) vwCl [(h0, .inr (0, [.ref a0, .ref a1, .ref a2, .ref a3, .int 6])), (a0, .inl (cA, 10, .inl (bb_fl (fun _ => 0) 1 10))), (a1, .inl (cA, 10, .inl (fun _ => 0))), (a2, .inl (cA, 31, .inl (fun _ => 0))), (a3, .inl (cA, 31, .inl (fun _ => 0)))] H := hP
  have hD : va_D A [(h0, .inr (0, [.ref a0, .ref a1, .ref a2, .ref a3, .int 6])), (a0, .inl (cA, 10, .inl (bb_fl (fun _ => 0) 1 10))), (a1, .inl (cA, 10, .inl (fun _ => 0))), (a2, .inl (cA, 31, .inl (fun _ => 0))), (a3, .inl (cA, 31, .inl (fun _ => 0)))] := hD
  refine lv_aload_n hx hb dX0_init_50 rfl (lv_at hl 0 rfl) ?_
  refine va_get (D := (dC, dI)) (ci := 0) (v := .ref a3) (C := RX0) (T := TX0) (N := 5) hx hb hts hin hown hK hP 0 rfl rfl 3 (by decide) hf19 (fun _ h9 => h9) rfl dX0_init_51 ?_
  refine lv_iconst (v := (-1)) hx hb dX0_init_54 (by decide) ?_
  refine bb_cSf (As := [.ref a3, .int (-1)]) (rest := []) (pre := [(h0, .inr (0, [.ref a0, .ref a1, .ref a2, .ref a3, .int 6])), (a0, .inl (cA, 10, .inl (bb_fl (fun _ => 0) 1 10))), (a1, .inl (cA, 10, .inl (fun _ => 0))), (a2, .inl (cA, 31, .inl (fun _ => 0)))]) (wc := [(a3, .inl (cA, 31, .inl (fun _ => 0)))]) (post := []) (wc' := [(a3, .inl (cA, 31, .inl (bb_fl (fun _ => 0) (-1) 31)))]) ⟨hx, hb, hml, hown, hts⟩ (q_fill l dC dI cA a3 31 (fun _ => 0) H.size (-1) (by decide)) (va_cwS 2 hts gX0_init_A_fill rfl rfl rfl (by decide +kernel) ⟨Nat.le_of_ble_eq_true rfl, Nat.le_of_ble_eq_true rfl⟩) hP hK hD hS hA rfl rfl hl.1 rfl (Nat.le_of_ble_eq_true rfl) dX0_init_55 (Nat.le_of_ble_eq_true rfl) (Nat.le_of_ble_eq_true rfl) (fun H locs hP hD hS => ?_)
  have hP : va_P (dC, dI) vwCl [(h0, .inr (0, [.ref a0, .ref a1, .ref a2, .ref a3, .int 6])), (a0, .inl (cA, 10, .inl (bb_fl (fun _ => 0) 1 10))), (a1, .inl (cA, 10, .inl (fun _ => 0))), (a2, .inl (cA, 31, .inl (fun _ => 0))), (a3, .inl (cA, 31, .inl (bb_fl (fun _ => 0) (-1) 31)))] H := hP
  have hD : va_D A [(h0, .inr (0, [.ref a0, .ref a1, .ref a2, .ref a3, .int 6])), (a0, .inl (cA, 10, .inl (bb_fl (fun _ => 0) 1 10))), (a1, .inl (cA, 10, .inl (fun _ => 0))), (a2, .inl (cA, 31, .inl (fun _ => 0))), (a3, .inl (cA, 31, .inl (bb_fl (fun _ => 0) (-1) 31)))] := hD
  have hP := bb_P_ext (g := fun _ => 1) hP hD (q0 := 1) rfl (fun j9 h9 => bb_fl_eq h9)
  have hD := bb_D_addr (wd' := [(h0, .inr (0, [.ref a0, .ref a1, .ref a2, .ref a3, .int 6])), (a0, .inl (cA, 10, .inl (fun _ => 1))), (a1, .inl (cA, 10, .inl (fun _ => 0))), (a2, .inl (cA, 31, .inl (fun _ => 0))), (a3, .inl (cA, 31, .inl (bb_fl (fun _ => 0) (-1) 31)))]) hD rfl
  have hP : va_P (dC, dI) vwCl [(h0, .inr (0, [.ref a0, .ref a1, .ref a2, .ref a3, .int 6])), (a0, .inl (cA, 10, .inl (fun _ => 1))), (a1, .inl (cA, 10, .inl (fun _ => 0))), (a2, .inl (cA, 31, .inl (fun _ => 0))), (a3, .inl (cA, 31, .inl (bb_fl (fun _ => 0) (-1) 31)))] H := hP
  have hD : va_D A [(h0, .inr (0, [.ref a0, .ref a1, .ref a2, .ref a3, .int 6])), (a0, .inl (cA, 10, .inl (fun _ => 1))), (a1, .inl (cA, 10, .inl (fun _ => 0))), (a2, .inl (cA, 31, .inl (fun _ => 0))), (a3, .inl (cA, 31, .inl (bb_fl (fun _ => 0) (-1) 31)))] := hD
  have hP := bb_P_ext (g := fun _ => (-1)) hP hD (q0 := 4) rfl (fun j9 h9 => bb_fl_eq h9)
  have hD := bb_D_addr (wd' := [(h0, .inr (0, [.ref a0, .ref a1, .ref a2, .ref a3, .int 6])), (a0, .inl (cA, 10, .inl (fun _ => 1))), (a1, .inl (cA, 10, .inl (fun _ => 0))), (a2, .inl (cA, 31, .inl (fun _ => 0))), (a3, .inl (cA, 31, .inl (fun _ => (-1))))]) hD rfl
  have hP : va_P (dC, dI) vwCl [(h0, .inr (0, [.ref a0, .ref a1, .ref a2, .ref a3, .int 6])), (a0, .inl (cA, 10, .inl (fun _ => 1))), (a1, .inl (cA, 10, .inl (fun _ => 0))), (a2, .inl (cA, 31, .inl (fun _ => 0))), (a3, .inl (cA, 31, .inl (fun _ => (-1))))] H := hP
  have hD : va_D A [(h0, .inr (0, [.ref a0, .ref a1, .ref a2, .ref a3, .int 6])), (a0, .inl (cA, 10, .inl (fun _ => 1))), (a1, .inl (cA, 10, .inl (fun _ => 0))), (a2, .inl (cA, 31, .inl (fun _ => 0))), (a3, .inl (cA, 31, .inl (fun _ => (-1))))] := hD
  exact W.vret hx hb hr (fun t ht _ => ⟨⟨(a0, a1, a2, a3), rfl, trivial, by show va_P _ _ _ t.heap; rw [ht]; exact hP, hD⟩, hS.F ht⟩) hS.2.2 dX0_init_58

set_option maxHeartbeats 4000000 in
set_option maxRecDepth 100000 in
theorem q_X1 (l : Launch) (dC : Nat → ClassId) (dI : Nat → Nat → Nat) (cA : ClassId) (g0 sz : Nat) : Met l yX1_init wsX1_init ({ frames := 1, cells := 3, slots := 330, locals := 24 }) (bb_Pm [.ref g0] (dC, dI) vwCl [(g0, .inr (1, [.null, .null, .null, .int 0, .int 0]))] [(cA, .int)] sz) (va_Qv (S := Nat × Nat × Nat) (fun _ => True) (fun u t => va_P (dC, dI) vwCl (bb_M g0 u.1 u.2.1 u.2.2 cA (fun _ => 1) (fun _ => 0) (fun _ => (-1)) 6 0) t.heap ∧ va_D (va_A [(g0, .inr (1, [.null, .null, .null, .int 0, .int 0]))] sz) (bb_M g0 u.1 u.2.1 u.2.2 cA (fun _ => 1) (fun _ => 0) (fun _ => (-1)) 6 0)) (va_A [(g0, .inr (1, [.null, .null, .null, .int 0, .int 0]))] sz)) 3 330 (va_A [(g0, .inr (1, [.null, .null, .null, .int 0, .int 0]))] sz) := by
  refine Met.ofW (cc := cX1_init) (maxL := 2) (ret := none) (by decide) rfl ?_
  intro p e s m args below meth c s₁ B hml hv
  obtain ⟨rfl, hsz, hP, hK, hD0⟩ := hv
  have hx := B.exec
  have hb := B.bytes
  have hr := B.returns
  have hts := atoms_spec (ws := wsX1_init) B.pre
  have hin0 : meth.name = "<init>" := (name_of_methodNamed B.named B.method).1
  have hown : s.vm.findClass RX1 = some m.cls := findClass_of_methodNamed B.named
  have hlocks := B.notSynchronized
  subst hsz
  have hD := hD0.self (sz := s.heap.size)
  generalize hAe : va_A [(g0, .inr (1, [.null, .null, .null, .int 0, .int 0]))] s.heap.size = A at hD ⊢
  have hA : ∀ q : Nat, s.heap.size ≤ q → A q := fun q h => by rw [← hAe]; exact Or.inr h
  have hin : ∀ w9 ∈ u_ws RX1 TX1 5, w9 ∈ wsX1_init := fun w9 h9 => List.mem_cons_of_mem _ (bb_inX1 w9 h9)
  have hf9 := hts _ (List.mem_cons_of_mem _ bb_fX1_9)
  have hf13 := hts _ (List.mem_cons_of_mem _ bb_fX1_13)
  have hf16 := hts _ (List.mem_cons_of_mem _ bb_fX1_16)
  have hf19 := hts _ (List.mem_cons_of_mem _ bb_fX1_19)
  have hl := lv_entry ([.ref g0]) (n := 2) (Nat.le_of_ble_eq_true rfl)
  rw [lg_entry_eq]
  generalize (lg_sl ([.ref g0]) ++ List.replicate (2 - (lg_sl ([.ref g0])).length) Slot.unset).toArray = ls at hl ⊢
  have hl : lv_has ls 2 [(0, .ref g0)] := hl
  refine bb_gen hP hD (fun H locs hP hD hS => ?_)
  refine lv_aload_n hx hb dX1_init_0 rfl (lv_at hl 0 rfl) ?_
  refine bb_objI hx hb hown (hts _ (List.mem_cons_of_mem _ bb_u356)) (hts _ (List.mem_cons_of_mem _ bb_u18)) (hts _ (List.mem_cons_of_mem _ bb_u19)) (hl.1.trans hml.symm) dX1_init_1 (Nat.le_of_ble_eq_true rfl) (Nat.le_of_ble_eq_true rfl) ?_
  refine lv_aload_n hx hb dX1_init_4 rfl (lv_at hl 0 rfl) ?_
  refine lv_bipush (v := 10) hx hb dX1_init_5 (by decide) ?_
  refine bb_newi hx hb (hts _ (List.mem_cons_of_mem _ bb_u39)) hK 0 rfl hP hD hS hA 10 (by decide) (by decide) (by decide) (Nat.le_of_ble_eq_true rfl) (Nat.le_of_ble_eq_true rfl) dX1_init_7 (fun b0 H hP hD hS => ?_)
  have hP : va_P (dC, dI) vwCl [(g0, .inr (1, [.null, .null, .null, .int 0, .int 0])), (b0, .inl (cA, 10, .inl (fun _ => 0)))] H := hP
  have hD : va_D A [(g0, .inr (1, [.null, .null, .null, .int 0, .int 0])), (b0, .inl (cA, 10, .inl (fun _ => 0)))] := hD
  refine va_putF (D := (dC, dI)) (ci := 1) (v := .ref b0) (ty := .array .int) (C := RX1) (T := TX1) (N := 5) hx hb hts hin tyX1 tyX1_ok nX1 hown hK hP hD hS 0 rfl rfl 0 (by decide) hf9 (fun _ h9 => h9) rfl hin0 rfl (by decide +kernel) rfl rfl (Nat.le_of_ble_eq_true rfl) dX1_init_9 (fun H locs hP hD hS => ?_)
  have hP : va_P (dC, dI) vwCl [(g0, .inr (1, [.ref b0, .null, .null, .int 0, .int 0])), (b0, .inl (cA, 10, .inl (fun _ => 0)))] H := hP
  have hD : va_D A [(g0, .inr (1, [.ref b0, .null, .null, .int 0, .int 0])), (b0, .inl (cA, 10, .inl (fun _ => 0)))] := hD
  refine lv_aload_n hx hb dX1_init_12 rfl (lv_at hl 0 rfl) ?_
  refine lv_bipush (v := 10) hx hb dX1_init_13 (by decide) ?_
  refine bb_newi hx hb (hts _ (List.mem_cons_of_mem _ bb_u39)) hK 0 rfl hP hD hS hA 10 (by decide) (by decide) (by decide) (Nat.le_of_ble_eq_true rfl) (Nat.le_of_ble_eq_true rfl) dX1_init_15 (fun b1 H hP hD hS => ?_)
  have hP : va_P (dC, dI) vwCl [(g0, .inr (1, [.ref b0, .null, .null, .int 0, .int 0])), (b0, .inl (cA, 10, .inl (fun _ => 0))), (b1, .inl (cA, 10, .inl (fun _ => 0)))] H := hP
  have hD : va_D A [(g0, .inr (1, [.ref b0, .null, .null, .int 0, .int 0])), (b0, .inl (cA, 10, .inl (fun _ => 0))), (b1, .inl (cA, 10, .inl (fun _ => 0)))] := hD
  refine va_putF (D := (dC, dI)) (ci := 1) (v := .ref b1) (ty := .array .int) (C := RX1) (T := TX1) (N := 5) hx hb hts hin tyX1 tyX1_ok nX1 hown hK hP hD hS 0 rfl rfl 1 (by decide) hf13 (fun _ h9 => h9) rfl hin0 rfl (by decide +kernel) rfl rfl (Nat.le_of_ble_eq_true rfl) dX1_init_17 (fun H locs hP hD hS => ?_)
  have hP : va_P (dC, dI) vwCl [(g0, .inr (1, [.ref b0, .ref b1, .null, .int 0, .int 0])), (b0, .inl (cA, 10, .inl (fun _ => 0))), (b1, .inl (cA, 10, .inl (fun _ => 0)))] H := hP
  have hD : va_D A [(g0, .inr (1, [.ref b0, .ref b1, .null, .int 0, .int 0])), (b0, .inl (cA, 10, .inl (fun _ => 0))), (b1, .inl (cA, 10, .inl (fun _ => 0)))] := hD
  refine lv_aload_n hx hb dX1_init_20 rfl (lv_at hl 0 rfl) ?_
  refine lv_sipush (v := 310) hx hb dX1_init_21 (by decide) ?_
  refine bb_newi hx hb (hts _ (List.mem_cons_of_mem _ bb_u39)) hK 0 rfl hP hD hS hA 310 (by decide) (by decide) (by decide) (Nat.le_of_ble_eq_true rfl) (Nat.le_of_ble_eq_true rfl) dX1_init_24 (fun b2 H hP hD hS => ?_)
  have hP : va_P (dC, dI) vwCl [(g0, .inr (1, [.ref b0, .ref b1, .null, .int 0, .int 0])), (b0, .inl (cA, 10, .inl (fun _ => 0))), (b1, .inl (cA, 10, .inl (fun _ => 0))), (b2, .inl (cA, 310, .inl (fun _ => 0)))] H := hP
  have hD : va_D A [(g0, .inr (1, [.ref b0, .ref b1, .null, .int 0, .int 0])), (b0, .inl (cA, 10, .inl (fun _ => 0))), (b1, .inl (cA, 10, .inl (fun _ => 0))), (b2, .inl (cA, 310, .inl (fun _ => 0)))] := hD
  refine va_putF (D := (dC, dI)) (ci := 1) (v := .ref b2) (ty := .array .int) (C := RX1) (T := TX1) (N := 5) hx hb hts hin tyX1 tyX1_ok nX1 hown hK hP hD hS 0 rfl rfl 2 (by decide) hf16 (fun _ h9 => h9) rfl hin0 rfl (by decide +kernel) rfl rfl (Nat.le_of_ble_eq_true rfl) dX1_init_26 (fun H locs hP hD hS => ?_)
  have hP : va_P (dC, dI) vwCl [(g0, .inr (1, [.ref b0, .ref b1, .ref b2, .int 0, .int 0])), (b0, .inl (cA, 10, .inl (fun _ => 0))), (b1, .inl (cA, 10, .inl (fun _ => 0))), (b2, .inl (cA, 310, .inl (fun _ => 0)))] H := hP
  have hD : va_D A [(g0, .inr (1, [.ref b0, .ref b1, .ref b2, .int 0, .int 0])), (b0, .inl (cA, 10, .inl (fun _ => 0))), (b1, .inl (cA, 10, .inl (fun _ => 0))), (b2, .inl (cA, 310, .inl (fun _ => 0)))] := hD
  refine lv_aload_n hx hb dX1_init_29 rfl (lv_at hl 0 rfl) ?_
  refine lv_bipush (v := 6) hx hb dX1_init_30 (by decide) ?_
  refine va_put (D := (dC, dI)) (ci := 1) (v := .int 6) (ty := .int) (C := RX1) (T := TX1) (N := 5) hx hb hts hin tyX1 tyX1_ok nX1 hown hK hP hD hS 0 rfl rfl 3 (by decide) hf19 (fun _ h9 => h9) rfl (by decide +kernel) rfl rfl (Nat.le_of_ble_eq_true rfl) dX1_init_32 (fun H locs hP hD hS => ?_)
  have hP : va_P (dC, dI) vwCl [(g0, .inr (1, [.ref b0, .ref b1, .ref b2, .int 6, .int 0])), (b0, .inl (cA, 10, .inl (fun _ => 0))), (b1, .inl (cA, 10, .inl (fun _ => 0))), (b2, .inl (cA, 310, .inl (fun _ => 0)))] H := hP
  have hD : va_D A [(g0, .inr (1, [.ref b0, .ref b1, .ref b2, .int 6, .int 0])), (b0, .inl (cA, 10, .inl (fun _ => 0))), (b1, .inl (cA, 10, .inl (fun _ => 0))), (b2, .inl (cA, 310, .inl (fun _ => 0)))] := hD
  refine lv_iconst (v := 0) hx hb dX1_init_35 (by decide) ?_
  refine lv_istore_n (lv' := [(1, .int 0), (0, .ref g0)]) hx hb dX1_init_36 rfl hl (by decide) rfl (fun ls hl => ?_)
  have hl : lv_has ls 2 [(0, .ref g0), (1, .int 0)] := lv_sub hl [1, 0] rfl
  refine bb_forHW (pc := 37) (I := fun j9 ls H L => lv_has ls 2 [(0, .ref g0), (1, .int (nI j9))] ∧ va_P (dC, dI) vwCl [(g0, .inr (1, [.ref b0, .ref b1, .ref b2, .int 6, .int 0])), (b0, .inl (cA, 10, .inl (bb_fl (fun _ => 0) 1 j9))), (b1, .inl (cA, 10, .inl (fun _ => 0))), (b2, .inl (cA, 310, .inl (fun _ => 0)))] H ∧ va_D A [(g0, .inr (1, [.ref b0, .ref b1, .ref b2, .int 6, .int 0])), (b0, .inl (cA, 10, .inl (bb_fl (fun _ => 0) 1 j9))), (b1, .inl (cA, 10, .inl (fun _ => 0))), (b2, .inl (cA, 310, .inl (fun _ => 0)))] ∧ va_S A s.heap H L) 10 ?_ ?_ 0 ls H locs (Nat.zero_le _) ⟨hl, hP, hD, hS⟩
  · skip
    intro j ls H locs hj hI ihj
    obtain ⟨hl, hP, hD, hS⟩ := hI
    refine lv_iload_n hx hb dX1_init_37 rfl (lv_at hl 1 rfl) ?_
    refine lv_bipush (v := nI 10) hx hb dX1_init_38 (by decide) ?_
    refine lv_icmp_ge (tgt := 56) hx hb dX1_init_40 rfl (fun h40 => absurd h40 (nI_ge hj (by decide))) (fun h40 => ?_)
    have q40 := bb_lt h40
    refine lv_aload_n hx hb dX1_init_43 rfl (lv_at hl 0 rfl) ?_
    refine va_get (D := (dC, dI)) (ci := 1) (v := .ref b0) (C := RX1) (T := TX1) (N := 5) hx hb hts hin hown hK hP 0 rfl rfl 0 (by decide) hf9 (fun _ h9 => h9) rfl dX1_init_44 ?_
    refine lv_iload_n hx hb dX1_init_47 rfl (lv_at hl 1 rfl) ?_
    refine lv_iconst (v := 1) hx hb dX1_init_48 (by decide) ?_
    refine bb_ast hx hb hK hP hD hS 1 0 rfl rfl j (by omega) (by decide) dX1_init_49 (fun H locs hP hD hS => ?_)
    have hP : va_P (dC, dI) vwCl [(g0, .inr (1, [.ref b0, .ref b1, .ref b2, .int 6, .int 0])), (b0, .inl (cA, 10, .inl (upd (bb_fl (fun _ => 0) 1 j) j 1))), (b1, .inl (cA, 10, .inl (fun _ => 0))), (b2, .inl (cA, 310, .inl (fun _ => 0)))] H := hP
    have hD : va_D A [(g0, .inr (1, [.ref b0, .ref b1, .ref b2, .int 6, .int 0])), (b0, .inl (cA, 10, .inl (upd (bb_fl (fun _ => 0) 1 j) j 1))), (b1, .inl (cA, 10, .inl (fun _ => 0))), (b2, .inl (cA, 310, .inl (fun _ => 0)))] := hD
    refine lv_iinc (v := nI (j + 1)) (lv' := [(1, .int (nI (j + 1))), (0, .ref g0)]) hx hb dX1_init_50 hl (k := 1) rfl (bb_inc _) (by decide) rfl (fun ls hl => ?_)
    refine lv_goto (tgt := 37) hx hb dX1_init_53 rfl ?_
    have hl : lv_has ls 2 [(0, .ref g0), (1, .int (nI (j + 1)))] := lv_sub hl [1, 0] rfl
    have e1 : upd (bb_fl (fun _ => 0) 1 j) j 1 = bb_fl (fun _ => 0) 1 (j + 1) := by simp [bb_fl, h40, q40]
    have hP : va_P (dC, dI) vwCl [(g0, .inr (1, [.ref b0, .ref b1, .ref b2, .int 6, .int 0])), (b0, .inl (cA, 10, .inl (bb_fl (fun _ => 0) 1 (j + 1)))), (b1, .inl (cA, 10, .inl (fun _ => 0))), (b2, .inl (cA, 310, .inl (fun _ => 0)))] H := by rw [← e1]; exact hP
    have hD : va_D A [(g0, .inr (1, [.ref b0, .ref b1, .ref b2, .int 6, .int 0])), (b0, .inl (cA, 10, .inl (bb_fl (fun _ => 0) 1 (j + 1)))), (b1, .inl (cA, 10, .inl (fun _ => 0))), (b2, .inl (cA, 310, .inl (fun _ => 0)))] := by rw [← e1]; exact hD
    exact ihj ls H locs ⟨hl, hP, hD, hS⟩
  · skip
    intro ls H locs hI
    obtain ⟨hl, hP, hD, hS⟩ := hI
    refine lv_iload_n hx hb dX1_init_37 rfl (lv_at hl 1 rfl) ?_
    refine lv_bipush (v := nI 10) hx hb dX1_init_38 (by decide) ?_
    refine lv_icmp_ge (tgt := 56) hx hb dX1_init_40 rfl (fun h40 => ?_) (fun h40 => absurd (nI_le (Nat.le_refl _) (by decide)) h40)
    have q40 := bb_nlt h40
    refine lv_iconst (v := 0) hx hb dX1_init_56 (by decide) ?_
    refine lv_istore_n (lv' := [(1, .int 0), (0, .ref g0)]) hx hb dX1_init_57 rfl hl (by decide) rfl (fun ls hl => ?_)
    have hl : lv_has ls 2 [(0, .ref g0), (1, .int 0)] := lv_sub hl [1, 0] rfl
    refine bb_forHW (pc := 58) (I := fun j9 ls H L => lv_has ls 2 [(0, .ref g0), (1, .int (nI j9))] ∧ va_P (dC, dI) vwCl [(g0, .inr (1, [.ref b0, .ref b1, .ref b2, .int 6, .int 0])), (b0, .inl (cA, 10, .inl (bb_fl (fun _ => 0) 1 10))), (b1, .inl (cA, 10, .inl (fun _ => 0))), (b2, .inl (cA, 310, .inl (bb_fl (fun _ => 0) (-1) j9)))] H ∧ va_D A [(g0, .inr (1, [.ref b0, .ref b1, .ref b2, .int 6, .int 0])), (b0, .inl (cA, 10, .inl (bb_fl (fun _ => 0) 1 10))), (b1, .inl (cA, 10, .inl (fun _ => 0))), (b2, .inl (cA, 310, .inl (bb_fl (fun _ => 0) (-1) j9)))] ∧ va_S A s.heap H L) 310 ?_ ?_ 0 ls H locs (Nat.zero_le _) ⟨hl, hP, hD, hS⟩
    · skip
      intro j ls H locs hj hI ihj
      obtain ⟨hl, hP, hD, hS⟩ := hI
      refine lv_iload_n hx hb dX1_init_58 rfl (lv_at hl 1 rfl) ?_
      refine lv_sipush (v := nI 310) hx hb dX1_init_59 (by decide) ?_
      refine lv_icmp_ge (tgt := 78) hx hb dX1_init_62 rfl (fun h62 => absurd h62 (nI_ge hj (by decide))) (fun h62 => ?_)
      have q62 := bb_lt h62
      refine lv_aload_n hx hb dX1_init_65 rfl (lv_at hl 0 rfl) ?_
      refine va_get (D := (dC, dI)) (ci := 1) (v := .ref b2) (C := RX1) (T := TX1) (N := 5) hx hb hts hin hown hK hP 0 rfl rfl 2 (by decide) hf16 (fun _ h9 => h9) rfl dX1_init_66 ?_
      refine lv_iload_n hx hb dX1_init_69 rfl (lv_at hl 1 rfl) ?_
      refine lv_iconst (v := (-1)) hx hb dX1_init_70 (by decide) ?_
      refine bb_ast hx hb hK hP hD hS 3 0 rfl rfl j (by omega) (by decide) dX1_init_71 (fun H locs hP hD hS => ?_)
      have hP : va_P (dC, dI) vwCl [(g0, .inr (1, [.ref b0, .ref b1, .ref b2, .int 6, .int 0])), (b0, .inl (cA, 10, .inl (bb_fl (fun _ => 0) 1 10))), (b1, .inl (cA, 10, .inl (fun _ => 0))), (b2, .inl (cA, 310, .inl (upd (bb_fl (fun _ => 0) (-1) j) j (-1))))] H := hP
      have hD : va_D A [(g0, .inr (1, [.ref b0, .ref b1, .ref b2, .int 6, .int 0])), (b0, .inl (cA, 10, .inl (bb_fl (fun _ => 0) 1 10))), (b1, .inl (cA, 10, .inl (fun _ => 0))), (b2, .inl (cA, 310, .inl (upd (bb_fl (fun _ => 0) (-1) j) j (-1))))] := hD
      refine lv_iinc (v := nI (j + 1)) (lv' := [(1, .int (nI (j + 1))), (0, .ref g0)]) hx hb dX1_init_72 hl (k := 1) rfl (bb_inc _) (by decide) rfl (fun ls hl => ?_)
      refine lv_goto (tgt := 58) hx hb dX1_init_75 rfl ?_
      have hl : lv_has ls 2 [(0, .ref g0), (1, .int (nI (j + 1)))] := lv_sub hl [1, 0] rfl
      have e2 : upd (bb_fl (fun _ => 0) (-1) j) j (-1) = bb_fl (fun _ => 0) (-1) (j + 1) := by simp [bb_fl, h40, q40, h62, q62]
      have hP : va_P (dC, dI) vwCl [(g0, .inr (1, [.ref b0, .ref b1, .ref b2, .int 6, .int 0])), (b0, .inl (cA, 10, .inl (bb_fl (fun _ => 0) 1 10))), (b1, .inl (cA, 10, .inl (fun _ => 0))), (b2, .inl (cA, 310, .inl (bb_fl (fun _ => 0) (-1) (j + 1))))] H := by rw [← e2]; exact hP
      have hD : va_D A [(g0, .inr (1, [.ref b0, .ref b1, .ref b2, .int 6, .int 0])), (b0, .inl (cA, 10, .inl (bb_fl (fun _ => 0) 1 10))), (b1, .inl (cA, 10, .inl (fun _ => 0))), (b2, .inl (cA, 310, .inl (bb_fl (fun _ => 0) (-1) (j + 1))))] := by rw [← e2]; exact hD
      exact ihj ls H locs ⟨hl, hP, hD, hS⟩
    · skip
      intro ls H locs hI
      obtain ⟨hl, hP, hD, hS⟩ := hI
      refine lv_iload_n hx hb dX1_init_58 rfl (lv_at hl 1 rfl) ?_
      refine lv_sipush (v := nI 310) hx hb dX1_init_59 (by decide) ?_
      refine lv_icmp_ge (tgt := 78) hx hb dX1_init_62 rfl (fun h62 => ?_) (fun h62 => absurd (nI_le (Nat.le_refl _) (by decide)) h62)
      have q62 := bb_nlt h62
      have hP := bb_P_ext (g := fun _ => 1) hP hD (q0 := 1) rfl (fun j9 h9 => bb_fl_eq h9)
      have hD := bb_D_addr (wd' := [(g0, .inr (1, [.ref b0, .ref b1, .ref b2, .int 6, .int 0])), (b0, .inl (cA, 10, .inl (fun _ => 1))), (b1, .inl (cA, 10, .inl (fun _ => 0))), (b2, .inl (cA, 310, .inl (bb_fl (fun _ => 0) (-1) 310)))]) hD rfl
      have hP : va_P (dC, dI) vwCl [(g0, .inr (1, [.ref b0, .ref b1, .ref b2, .int 6, .int 0])), (b0, .inl (cA, 10, .inl (fun _ => 1))), (b1, .inl (cA, 10, .inl (fun _ => 0))), (b2, .inl (cA, 310, .inl (bb_fl (fun _ => 0) (-1) 310)))] H := hP
      have hD : va_D A [(g0, .inr (1, [.ref b0, .ref b1, .ref b2, .int 6, .int 0])), (b0, .inl (cA, 10, .inl (fun _ => 1))), (b1, .inl (cA, 10, .inl (fun _ => 0))), (b2, .inl (cA, 310, .inl (bb_fl (fun _ => 0) (-1) 310)))] := hD
      have hP := bb_P_ext (g := fun _ => (-1)) hP hD (q0 := 3) rfl (fun j9 h9 => bb_fl_eq h9)
      have hD := bb_D_addr (wd' := [(g0, .inr (1, [.ref b0, .ref b1, .ref b2, .int 6, .int 0])), (b0, .inl (cA, 10, .inl (fun _ => 1))), (b1, .inl (cA, 10, .inl (fun _ => 0))), (b2, .inl (cA, 310, .inl (fun _ => (-1))))]) hD rfl
      have hP : va_P (dC, dI) vwCl [(g0, .inr (1, [.ref b0, .ref b1, .ref b2, .int 6, .int 0])), (b0, .inl (cA, 10, .inl (fun _ => 1))), (b1, .inl (cA, 10, .inl (fun _ => 0))), (b2, .inl (cA, 310, .inl (fun _ => (-1))))] H := hP
      have hD : va_D A [(g0, .inr (1, [.ref b0, .ref b1, .ref b2, .int 6, .int 0])), (b0, .inl (cA, 10, .inl (fun _ => 1))), (b1, .inl (cA, 10, .inl (fun _ => 0))), (b2, .inl (cA, 310, .inl (fun _ => (-1))))] := hD
      exact W.vret hx hb hr (fun t ht _ => ⟨⟨(b0, b1, b2), rfl, trivial, by show va_P _ _ _ t.heap; rw [ht]; exact hP, hD⟩, hS.F ht⟩) hS.2.2 dX1_init_78
