-- NoSuchElementException: its constructor links index 13, so it has rows of its own; methods that write and then throw
abbrev RTE : String := "java/lang/RuntimeException"
abbrev nsB : ByteArray := prog_14_method_4_code
theorem nsB_0 : decode nsB 0 = .ok (.aload_n 0, 1) := by decide +kernel
theorem nsB_1 : decode nsB 1 = .ok (.aload_n 1, 1) := by decide +kernel
theorem nsB_2 : decode nsB 2 = .ok (.invokespecial 13, 3) := by decide +kernel
theorem nsB_5 : decode nsB 5 = .ok (.return_, 1) := by decide +kernel
/-- the words of 'new NoSuchElementException(text)' thrown at once -/
def nsAt (own : String) (ic : Nat) : List Cond :=
  Bundle.throwableAtoms ++ Bundle.throwableSAtoms ++ Bundle.passSAtoms NSE RTE 13 nsB ++ Bundle.chainSAtoms RTE ["java/lang/Exception"] ++
  [.methodLink own ic (Bundle.initS NSE), .instantiable NSE 6, .selects NSE Bundle.tFill0 Bundle.tFill0, .selects NSE Bundle.tFill Bundle.tFill,
   .lays NSE Bundle.tN "cause" "Ljava/lang/Throwable;", .lays NSE Bundle.tN "stackTrace" Bundle.steD, .lays NSE Bundle.tN "suppressedExceptions" Bundle.listD, .lays NSE Bundle.tN "detailMessage" "Ljava/lang/String;",
   .isRef (.static Bundle.tN "UNASSIGNED_STACK" Bundle.steD), .isRef (.static Bundle.tN "SUPPRESSED_SENTINEL" Bundle.listD),
   .fieldLink Bundle.tN 198 Bundle.tN "backtrace" "Ljava/lang/Object;", .lays Bundle.tN Bundle.tN "backtrace" "Ljava/lang/Object;", .lays NSE Bundle.tN "backtrace" "Ljava/lang/Object;"]
def nsAf (own : String) (ic : Nat) : List Cond := (nsAt own ic).filter vx_no
set_option maxHeartbeats 1000000 in
theorem ns_ctor {p : Program} {l : Launch} {e : Env} {R : Room} {s : State} {m₀ : MethodId} {args : Array Value} {below : List Frame} {meth : Method} {c : Code} {Wx : State} {locs : List Loc} {cells slots : Nat} (X : Stand p l e R s m₀ args below meth c Wx locs cells slots) (hexec : p.tables.exec = Jvm.exec) (htr : e.platform.stackTraces = false) {own : String} {ic : Nat}
    (hown : s.vm.findClass own = some m₀.cls) (h : ∀ a ∈ nsAt own ic, a.before args s = true) (hlocs : ∀ x ∈ locs, ∀ cell, s.heap[x.base]? = some cell → cell.vm.isStatics = false)
    {a : Addr} {cX : ClassId} {kX : Class} (hfoundX : s.vm.findClass NSE = some cX) (hkX : s.vm.classes[cX]? = some kX) (hcell : Wx.heap[a]? = some (freshCell cX kX)) (hnew : s.heap.size ≤ a) {msg : Value} (hmsg : msg.isRef = true)
    {g : JFrame} (hg : g.method = m₀) (hsize : g.locals.size = c.maxLocals) (hlocked : g.locked = none) (hentered : g.entered = []) {rest : List Value} (hstack : g.stack = msg :: .ref a :: .ref a :: rest)
    (hd6 : decode c.code g.pc = .ok (.invokespecial ic, 3)) (hd9 : decode c.code (g.pc + 3) = .ok (.athrow, 1)) (hout : ∀ x ∈ c.exceptionTable.toList, covers x (g.pc + 3) = false)
    (hRframes : 5 < R.frames) (hRlocals : 2 * g.monitorRoom + ((Value.ref a :: rest).map fun v => v.category).sum + 81 ≤ R.locals) (hlocks : meth.locks = false) :
    ∃ U : State, Steps p.tables e below (Wx.setTop g) U ∧ U.status = .running ∧ Ended U below (.threw a) ∧ s.WarmedH U.vm ∧ s.sameButNew ({ U with vm := s.vm } : State) locs cells slots ∧
      ∃ ce, U.heap[a]? = some ce ∧ ce.vm = .none ∧ s.vm.findClass NSE = some ce.cls := by
  have howns : e.platform.frameOwnsMonitors = true := by rw [X.admits.platform]
  have hfin : e.platform.finalization = false := by rw [X.admits.platform]
  have hpl : e.platform.magicAccessors = ({} : Platform).magicAccessors := by rw [X.admits.platform]
  have a' : ∀ x, x ∈ nsAt own ic → x.holds args s none s [] = true := fun x hx => h x hx
  have m1 : ∀ x, x ∈ Bundle.throwableAtoms → x ∈ nsAt own ic := fun x hx => List.mem_append_left _ (List.mem_append_left _ (List.mem_append_left _ (List.mem_append_left _ hx)))
  have m2 : ∀ x, x ∈ Bundle.throwableSAtoms → x ∈ nsAt own ic := fun x hx => List.mem_append_left _ (List.mem_append_left _ (List.mem_append_left _ (List.mem_append_right _ hx)))
  have m3 : ∀ x, x ∈ Bundle.passSAtoms NSE RTE 13 nsB → x ∈ nsAt own ic := fun x hx => List.mem_append_left _ (List.mem_append_left _ (List.mem_append_right _ hx))
  have m4 : ∀ x, x ∈ Bundle.chainSAtoms RTE ["java/lang/Exception"] → x ∈ nsAt own ic := fun x hx => List.mem_append_left _ (List.mem_append_right _ hx)
  obtain ⟨T, Z0, L, -, Y⟩ := ThrowableC.of_atoms (args := args) howns hfin hpl (fun x hx => h x (m1 x hx))
  obtain ⟨Z, M, LZ, LM, hnZ⟩ := Init0T.ofS_atoms (args := args) hpl L Y (fun x hx => h x (m2 x hx))
  obtain ⟨P1, L1, hP1m, hs1⟩ := PassC.ofS_atoms (args := args) (s := s) hpl (X := NSE) (Y := RTE) (by decide) (by decide) nsB_0 nsB_1 nsB_2 nsB_5 (fun x hx => h x (m3 x hx))
  obtain ⟨P2, Ps, hlen, L2, hL, hP2m, hlink2, hlink⟩ := Bundle.chainS (args := args) hpl hnZ ["java/lang/Exception"] RTE (by decide +kernel) (by decide +kernel) (fun x hx => h x (m4 x hx))
  have hfound : s.vm.findClass NSE = some P1.m.cls := findClass_of_methodNamed hP1m
  cases Option.some.inj (hfoundX.symm.trans hfound)
  obtain ⟨c1, kX', hc1, hk, hord, -, -, hn6⟩ := Cond.instantiable_spec (a' (.instantiable NSE 6) (by simp [nsAt]))
  cases Option.some.inj (hc1.symm.trans hfound)
  cases Option.some.inj (hkX.symm.trans hk)
  have hsel0 : selectMethod e.platform s.vm P1.m.cls T.fill0 = .method T.fill0 := by
    obtain ⟨c2, r2, m2, q1, q2, q3, q4, -⟩ := Cond.selects_spec (a' (.selects NSE Bundle.tFill0 Bundle.tFill0) (by simp [nsAt]))
    cases Option.some.inj (q1.symm.trans hfound)
    cases Option.some.inj (q2.symm.trans (State.methodFound?_of_named Y.fill0 (by decide)))
    cases Option.some.inj (q3.symm.trans Y.fill0)
    rw [Launch.admits_selectMethod X.admits]; exact q4
  have hselF : selectMethod e.platform s.vm P1.m.cls T.fill = .method T.fill := by
    obtain ⟨c2, r2, m2, q1, q2, q3, q4, -⟩ := Cond.selects_spec (a' (.selects NSE Bundle.tFill Bundle.tFill) (by simp [nsAt]))
    cases Option.some.inj (q1.symm.trans hfound)
    cases Option.some.inj (q2.symm.trans (State.methodFound?_of_named Y.fill (by decide)))
    cases Option.some.inj (q3.symm.trans Y.fill)
    rw [Launch.admits_selectMethod X.admits]; exact q4
  obtain ⟨cellS0, hcS0, hiss⟩ := Y.statics
  obtain ⟨u0, hu0⟩ := Cond.staticRefV Y.unassigned L.unassignedStatic L.statics hcS0 hiss (a' (.isRef (.static Bundle.tN "UNASSIGNED_STACK" Bundle.steD)) (by simp [nsAt]))
  obtain ⟨sen, hsen⟩ := Cond.staticRefV Y.sentinel L.sentinelStatic L.statics hcS0 hiss (a' (.isRef (.static Bundle.tN "SUPPRESSED_SENTINEL" Bundle.listD)) (by simp [nsAt]))
  obtain ⟨ci198, i198, fB, hk198, hg198, ha198, hsB, -, hnB, htB, hffB⟩ := Cond.ownField (t := .object "java/lang/Object") Y.found L.cls (by decide +kernel) (a' (.fieldLink Bundle.tN 198 Bundle.tN "backtrace" "Ljava/lang/Object;") (by simp [nsAt])) (a' (.lays Bundle.tN Bundle.tN "backtrace" "Ljava/lang/Object;") (by simp [nsAt])) e.platform hpl
  obtain ⟨cellS, hcS', heS, -, hkeep⟩ := X.same.2.2.2.2.2 T.aS cellS0 hcS0
  have hcellS : Wx.heap[T.aS]? = some cellS := hcS'
  have hout' : ∀ i, (⟨T.aS, i⟩ : Loc) ∉ locs := fun i hmem => by
    have := hlocs _ hmem cellS0 hcS0
    rw [hiss] at this; cases this
  have hknownS : cellS.vm ≠ .unknown := by
    rw [heS]; intro hu
    rw [show cellS0.vm = .unknown from hu] at hiss
    cases hiss
  have hneS : T.aS ≠ a := Nat.ne_of_lt (Nat.lt_of_lt_of_le (Array.getElem?_eq_some_iff.mp hcS0).1 hnew)
  obtain ⟨iM, hffM⟩ := Y.msg
  obtain ⟨tyC, dC, hdC, hdnC⟩ := Cond.laysAt hfound hk Y.cause (a' (.lays NSE Bundle.tN "cause" "Ljava/lang/Throwable;") (by simp [nsAt]))
  obtain ⟨tyS, dS, hdS, hdnS⟩ := Cond.laysAt hfound hk Y.stack (a' (.lays NSE Bundle.tN "stackTrace" Bundle.steD) (by simp [nsAt]))
  obtain ⟨tyP, dP, hdP, hdnP⟩ := Cond.laysAt hfound hk Y.supp (a' (.lays NSE Bundle.tN "suppressedExceptions" Bundle.listD) (by simp [nsAt]))
  obtain ⟨tyM, dM, hdM, hdnM⟩ := Cond.laysAt hfound hk hffM (a' (.lays NSE Bundle.tN "detailMessage" "Ljava/lang/String;") (by simp [nsAt]))
  obtain ⟨tyB, dB, hdB, hdnB⟩ := Cond.laysAt hfound hk hffB (a' (.lays NSE Bundle.tN "backtrace" "Ljava/lang/Object;") (by simp [nsAt]))
  have bC := Cond.laysApart hdB hdC hdnB hdnC (by rw [hnB, Y.causeName]; decide)
  have bS := Cond.laysApart hdB hdS hdnB hdnS (by rw [hnB, Y.stackName]; decide)
  have bP := Cond.laysApart hdB hdP hdnB hdnP (by rw [hnB, Y.suppName]; decide)
  have hskip : SkipFacts T e.platform s (fun u => u) u0 ((preparedCellV T.toThrowableT (freshCell P1.m.cls kX) a u0 sen).withEntry Wx.cur) :=
    ⟨{ ci198 := ci198, i198 := i198, fBack := fB }, ⟨hk198, hg198, ha198, hsB⟩, by
      have := fresh_default (c := P1.m.cls) tyB
      rw [htB] at this
      simpa [preparedCellV, Cell.setSlot, Cell.withEntry, Array.getElem?_setIfInBounds, bC, bS, bP, bC.symm, bS.symm, bP.symm, defaultValue] using this, fun _ _ => rfl⟩
  obtain ⟨tm, methC, cdC, kC, vm₁, hnC, -, -, -, -, -, -, -, hW₁, st1⟩ := Steps.initColdS (tb := p.tables) (e := e) (below := below) (s := s) (U := Wx) X.here hexec X.warmed hpl hown (t := Bundle.initS NSE) rfl rfl (by decide)
    (a' (.methodLink own ic (Bundle.initS NSE)) (by simp [nsAt])) (h (.instanceMethod (Bundle.initS NSE)) (m3 _ (by simp [Bundle.passSAtoms]))) (bytes := nsB) (maxL := 2) (h (.code (Bundle.initS NSE) nsB 2 none) (m3 _ (by simp [Bundle.passSAtoms])))
    (f := g) hg (a := a) (msg := msg) (rest := .ref a :: rest) hstack hd6
  cases Option.some.inj (hnC.symm.trans hP1m)
  have X₁ := X.noted hW₁
  obtain ⟨vm₂, X₂, st2⟩ := X₁.ctorMessageOffV hexec (g := { g with stack := .ref a :: rest }) hg hsize T L Z LZ M LM (P1 :: P2 :: Ps)
    (fun P hP => by
      rcases List.mem_cons.mp hP with rfl | hP
      · exact L1
      · rcases List.mem_cons.mp hP with rfl | hP
        · exact L2
        · exact hL P hP) ⟨Option.some.inj (hs1.symm.trans hP2m), hlink2, hlink⟩ (u0 := u0) (sen := sen) (self := a) hmsg (cell := freshCell P1.m.cls kX) (cellS := cellS)
    hcell (fun _ => by simp) (by simp) rfl rfl hsel0 hselF hcellS hneS hknownS (by rw [hkeep _ (hout' _)]; exact hu0) (by rw [hkeep _ (hout' _)]; exact hsen)
    (Takes.of_laid hk hord tyC (by rw [Y.causeType]; rfl)) (Takes.of_laid hk hord tyS (by rw [Y.stackType]; exact fits_refV_array _ u0)) (Takes.of_laid hk hord tyP (by rw [Y.suppType]; exact fits_refV_object _ sen))
    (Takes.of_laid hk hord tyM (by rw [Y.msgType]; exact fits_refV_object _ ⟨msg, hmsg⟩)) Y.objLocals hskip htr [] hd6
    (by simp only [List.length_cons, hlen, List.length_nil]; omega) (by simp only [List.length_cons, hlen, List.length_nil]; exact hRlocals)
  obtain ⟨hwalk, hrun, hended, hWU, hsame⟩ := X₂.athrowLeaves hexec (g := { g with stack := .ref a :: rest, pc := g.pc + 3 }) hg hlocked hentered hout (a := a) (rest := rest) rfl hd9
  have hlt : a < ((Wx.setVm vm₁).setVm vm₂).heap.size := (Array.getElem?_eq_some_iff.mp hcell).1
  have hU := heapAt_setCell_self (s := (Wx.setVm vm₁).setVm vm₂) (plainBareV T.toThrowableT (freshCell P1.m.cls kX) a u0 sen msg) hlt
  refine ⟨_, st1 _ (fun acts => ?_), hrun, hended, hWU, hsame.weaken (fun y hy hlt' => ?_) (Nat.le_refl _) (Nat.le_refl _), _, hU, rfl, hfound⟩
  · rw [doInvoke_state]
    exact st2 _ hwalk
  · rcases List.mem_append.mp hy with h1 | h1
    · exact h1
    · exfalso
      have hb : y.base = a := by
        simp only [List.mem_cons, List.not_mem_nil, or_false] at h1
        rcases h1 with rfl | rfl | rfl | rfl | rfl <;> rfl
      rw [hb] at hlt'
      exact Nat.not_lt.mpr hnew hlt'
theorem ns_g : ∀ w ∈ Cond.classLink "DiagramBench" 102 NSE :: Cond.initialized NSE :: nsAf "DiagramBench" 106, vx_ot w = true := by decide +kernel
theorem ns_2 : ∀ w ∈ (nsAf "DiagramBench" 106).filter (fun w => !goodWord w), w ∈ nws := by decide +kernel
theorem ns_1 : ∀ w ∈ (nsAf "DiagramBench" 106).filter goodWord, w ∈ TT := by decide +kernel
/-- a contract of a method that throws an E and leaves the world ws' -/
def Tw (l : Launch) (y : MethodName) (w : List Cond) (rm : Room) (G : gG) (As : List Value) (ws : va_W) (E : String) (ws' : va_W) : Prop :=
  ∀ sz : Nat, vx_Met l y w rm (va_Pc As (Pu G (va_A ws sz) ws sz)) QN (XE G (va_A ws sz) E ws') 1 6 (va_A ws sz)
theorem Tw.frame {l : Launch} {y : MethodName} {w : List Cond} {rm : Room} {G : gG} {As : List Value} {ws ws' : va_W} {E : String} (h : Tw l y w rm G As ws E ws') (wr : va_W) : Tw l y w rm G As (ws ++ wr) E (ws' ++ wr) := by
  intro sz p e ha hc hk s m args below hf9 happ hP9 hK
  obtain ⟨n, o, h1, h2, h3, h4⟩ := h sz p e ha hc hk s m args below hf9 happ ⟨hP9.1, hP9.2.left⟩ hK
  refine ⟨n, o, h1, h2, h3, ?_⟩
  rcases h4 with h4 | ⟨q, e1, E', ce, L, ⟨x1, x2, x3⟩, x4, x5, x6, x7, x8, x9⟩
  · exact h4.1.elim
  · exact Or.inr ⟨q, e1, E', ce, L, ⟨x1, fr_rest hP9.2 x2 x3⟩, x4, x5, x6, x7, x8, fun z hz => va_Aapp (x9 z hz)⟩
section RN
variable {p : Program} {l : Launch} {e : Env} {R : Room} {s : State} {m : MethodId} {args : Array Value} {below : List Frame} {meth : Method} {c : Code} {cells slots : Nat} {Q : State → Prop} {G : gG} {A : Nat → Prop} {nL : Nat} {cc : ByteArray} {own : String} {wd : Cond} {ws ws' : va_W} {pc : Nat} {lv : List (Nat × Value)} {st : List Value}
theorem tw_intro {y : MethodName} {rm : Room} {As : List Value} {E : String} {ret : Option FieldType} {w' : List Cond} (hy : plainName y.cls = true) (lv0 : List (Nat × Value)) (hlv : lv_args 0 As = lv0) (hlen : (lg_sl As).length ≤ nL)
    (body : ∀ (p : Program) (e : Env) (s : State) (m : MethodId) (below : List Frame) (meth : Method) (c : Code) (A : Nat → Prop), Fx p m c s As.toArray meth y.cls cc nL (.code y cc nL ret :: w') G A → meth.sig.returnType = ret → (∀ x ∈ c.exceptionTable.toList, False) → Wv p l e rm s m As.toArray below meth c G A nL 0 0 (vx_MQ below QN (XE G A E ws') As.toArray s 1 6 A) ws 0 lv0 []) : Tw l y (.code y cc nL ret :: w') rm G As ws E ws' := by
  intro sz
  refine vx_ofW (cc := cc) (maxL := nL) (ret := ret) hy rfl ?_
  intro p e s m args below meth c s₁ B hml hex hv
  obtain ⟨rfl, rfl, hP, hK, hD, hSt⟩ := hv
  rw [lg_entry_eq]
  exact body p e s m below meth c _ ⟨⟨B.exec, B.bytes, hml, findClass_of_methodNamed B.named, atoms_spec (ws := .code y cc nL ret :: w') B.pre⟩, hK, hSt, fun q hq => Or.inr hq, B.notSynchronized⟩ B.returns hex s.heap [] _ hP hD va_S.rf (hlv ▸ lv_entry As hlen)
theorem r_throwN (h : Fx p m c s args meth "DiagramBench" cc nL (wd :: TT) G A) (hl : l.stackTraces = false) (hex : ∀ x ∈ c.exceptionTable.toList, False) {text : String} {is : Nat} {Qc : Array Value → State → Outcome → State → Prop}
    (hk : Cond.classLink "DiagramBench" 102 NSE ∈ TT) (hini : Cond.initialized NSE ∈ TT) (hstr : ("DiagramBench", is, text) ∈ strs)
    (d0 : decode cc pc = .ok (.new 102, 3)) (d3 : decode cc (pc + 3) = .ok (.dup, 1)) (d4 : decode cc (pc + 4) = .ok (.ldc is, 2)) (d6 : decode cc (pc + 6) = .ok (.invokespecial 106, 3)) (d9 : decode cc (pc + 9) = .ok (.athrow, 1))
    (hRframes : 5 < R.frames) (hRlocals : (st.map fun v => v.category).sum + 82 ≤ R.locals) (hRcells : 0 + 1 ≤ R.cells) (hRslots : 0 + 6 ≤ R.slots) : Wv p l e R s m args below meth c G A nL 0 0 (vx_MQ below Qc (XE G A NSE ws) args s 1 6 A) ws pc lv st := by
  intro H locs ls hP hD hS hl9 T hT X
  obtain ⟨sa, hsa⟩ := h.2.2.1.2.2.2.1 _ hstr
  have hTT : ∀ w ∈ TT, w.before args s = true := fun w hw => h.1.2.2.2.2 _ (List.mem_cons_of_mem _ hw)
  have hexec := h.1.1
  have hb := h.1.2.1
  have hat : ∀ w ∈ nsAf "DiagramBench" 106, w.before args s = true := vx_hat (B := nws) (fun w hw => hTT w (ns_1 w hw)) ns_2 (fun w hw => va_Nw.use (by
    simp only [nws, List.mem_cons, List.not_mem_nil, or_false] at hw
    rcases hw with rfl | rfl | rfl | rfl | rfl | rfl | rfl | rfl | rfl | rfl | rfl | rfl | rfl <;> rfl) (h.nw hw))
  have htr : e.platform.stackTraces = false := (show e.platform.stackTraces = l.stackTraces by rw [X.admits.platform]).trans hl
  have Y := vx_rebase X (R' := { frames := R.frames, locals := R.locals, cells := 1, slots := 6 }) (Nat.le_refl _) (Nat.le_refl _) hRcells hRslots
  obtain ⟨s', hA⟩ : ∃ z, z = (T.setVm s.vm).setFrames (.invoking m args :: below) := ⟨_, rfl⟩
  rw [← hA] at Y
  have hvm : s'.vm = s.vm := by rw [hA]; rfl
  have hhp : s'.heap = H := by rw [hA]; exact hT
  have hW0 : s.WarmedH s'.vm := by rw [hvm]; exact State.WarmedH.refl s
  have hat' : ∀ w ∈ nsAf "DiagramBench" 106, w.before args s' = true := fun w hw => vx_ot_at hW0 hvm.symm (ns_g w (List.mem_cons_of_mem _ (List.mem_cons_of_mem _ hw))) (hat w hw)
  have hk' : (Cond.classLink "DiagramBench" 102 NSE).before args s' = true := vx_ot_at hW0 hvm.symm (ns_g _ List.mem_cons_self) (hTT _ hk)
  have hini' : (Cond.initialized NSE).before args s' = true := vx_ot_at hW0 hvm.symm (ns_g _ (List.mem_cons_of_mem _ List.mem_cons_self)) (hTT _ hini)
  have hU' : vx_Zq Bundle.tN "UNASSIGNED_STACK" Bundle.steD A s' s'.heap := by rw [hhp]; exact vx_Zq.moved hW0.alike (h.2.2.1.2.1.kept hS.2.1)
  have hN' : vx_Zq Bundle.tN "SUPPRESSED_SENTINEL" Bundle.listD A s' s'.heap := by rw [hhp]; exact vx_Zq.moved hW0.alike (h.2.2.1.2.2.1.kept hS.2.1)
  have hall : ∀ w ∈ nsAt "DiagramBench" 106, w.before args s' = true := vx_own hat' (vx_isRefq hU'.1) (vx_isRefq hN'.1) hU'.2.word hN'.2.word
  have hown' : s'.vm.findClass "DiagramBench" = some m.cls := by rw [hvm]; exact h.1.2.2.2.1
  have hins : (Cond.instantiable NSE 6).before args s' = true := hall _ (by simp [nsAt])
  obtain ⟨vm₁, cX, kX, hfX, hkX, -, -, X₁, st1⟩ := Y.newCold hexec (own := "DiagramBench") (C := NSE) (index := 102) (n := 6) hown' hk' hins hini'
    (g := F0 m pc ls st) rfl (by rw [hb]; exact d0) (Nat.le_refl _) (Nat.le_refl _)
  generalize hT1 : (T.setVm vm₁).pushCell { cls := cX, slots := kX.instanceTypes.map defaultValue, vm := .none } = T1 at X₁ st1
  have hcat : (Value.ref T.heap.size).category = 1 := rfl
  have hcellA : T1.heap[T.heap.size]? = some (freshCell cX kX) := by rw [← hT1]; exact State.heap_pushCell_size _ _
  have d3' : decode c.code (pc + 3) = .ok (.dup, 1) := by rw [hb]; exact d3
  have d4' : decode c.code (pc + 4) = .ok (.ldc is, 2) := by rw [hb]; exact d4
  have hstr' : vk_R "DiagramBench" is text sa s' := vk_R.warm hW0 hsa
  obtain ⟨U, hsteps, hrun, hend, hW, hsame, ce, hce, hO, hOc⟩ := ns_ctor X₁ hexec htr (own := "DiagramBench") (ic := 106) hown' hall (fun x hx => nomatch hx) hfX hkX hcellA (by rw [hhp, hT]; exact Nat.le_refl _) (msg := .ref sa) rfl
    (g := { method := m, pc := pc + 6, locals := ls, stack := .ref sa :: .ref T.heap.size :: .ref T.heap.size :: st, locked := none }) rfl (hl9.1.trans h.1.2.2.1.symm) rfl rfl (rest := st) rfl
    (by rw [hb]; exact d6) (by rw [hb]; exact d9) (fun x hx => (hex x hx).elim) hRframes (by simp only [List.map_cons, List.sum_cons, hcat]; show 2 * 0 + _ + 81 ≤ _; omega) h.2.2.2.2
  obtain ⟨f1, f2⟩ := vx_frame hsame
  rw [hhp] at f1 f2
  have hWs : s.WarmedH U.vm := State.WarmedH.trans hW0 hW
  have hcl : s.vm.findClass NSE = some ce.cls := by
    rw [hvm] at hOc
    exact hOc
  have hsm : s.sameButNew ({ U with vm := s.vm } : State) locs 1 6 := by
    subst hA
    obtain ⟨e1, e2⟩ := hsame
    rw [State.setFrames_setFrames] at e1
    have h2 : (T.setVm s.vm).sameButNew ({ U with vm := s.vm } : State) [] (0 + 1) (0 + 6) := ⟨e1, e2⟩
    have h3 := X.same.trans h2
    rw [List.append_nil] at h3
    exact h3.mono (Nat.le_refl _) (Nat.le_refl _)
  have hold : ∀ q : Nat, q < H.size → U.heap[q]? = H[q]? := fun q hq => f2 q hq (fun z hz => nomatch hz)
  refine ⟨U, ?_, .threw T.heap.size, hrun, hend, Or.inr ⟨T.heap.size, rfl, NSE, ce, locs, ⟨rfl, hP.kept (fun k q hk => hold q.1 (hP k q hk).lt), Nat.le_trans hS.1 f1, fun q h1 h2 => by rw [hold q (Nat.lt_of_lt_of_le h1 hS.1)]; exact hS.2.1 q h1 h2⟩, hce, hO, hcl, hWs, hsm, hS.2.2⟩⟩
  refine st1 _ ?_
  show Steps p.tables e below (T1.setTop { method := m, pc := pc + 3, locals := ls, stack := .ref T.heap.size :: st, locked := none }) _
  jvm_step X₁.here [X₁.here.top, hexec, d3', Value.category]
  exact X₁.ldcString hexec (own := "DiagramBench") (text := text) (index := is) (a := sa) hown' hstr'.1 hstr'.2
    (g := { method := m, pc := pc + 4, locals := ls, stack := .ref T.heap.size :: .ref T.heap.size :: st, locked := none }) rfl d4' U hsteps
/-- a virtual call that throws behind its writing, caught here -/
theorem r_catchVw (h : Fx p m c s args meth own cc nL (wd :: TT) G A) (q0 : Nat) {b ci : Nat} {fs : List Value} {q : vw_C} {y : MethodName} {w : List Cond} {rm : Room} {As st0 : List Value} {E name : String} {idx maxL n : Nat} {bytes : ByteArray} {ret : Option FieldType} (d : decode cc pc = .ok (.invokevirtual idx, 3)) (hC : Tw l y w rm G (.ref b :: As) ws E ws') (cw : CallW R s args own q.1 idx y bytes maxL ret w rm 1 6 n) (he : ws[q0]? = some (b, .inr (ci, fs))) (hc : cls[ci]? = some q) (hn : As.length = n) (hst : st0 = As.reverse ++ .ref b :: st) (hcat : (st.map fun v => v.category).sum ≤ 8) (hcs : cells + 1 ≤ R.cells ∧ slots + 6 ≤ R.slots)
    (pre : List ExceptionTableEntry) (x : ExceptionTableEntry) (suf : List ExceptionTableEntry) (hsplit : c.exceptionTable.toList = pre ++ x :: suf) (hpass : ∀ z ∈ pre, covers z pc = false ∨ (z.catchType ≠ 0 ∧ ∃ nm : String, Cond.classLink own z.catchType nm ∈ TT ∧ va_Nc E nm s)) (hx : covers x pc = true) (h0 : x.catchType ≠ 0) (hlink : Cond.classLink own x.catchType name ∈ TT) (hcast : Cond.castable E name ∈ nws) (hadr : ws'.map Prod.fst = ws.map Prod.fst)
    (k : ∀ q9 : Nat, Wv p l e R s m args below meth c G A nL (cells + 1) (slots + 6) Q ws' x.handlerPc lv [.ref q9]) : Wv p l e R s m args below meth c G A nL cells slots Q ws pc lv st0 := by
  intro H locs ls hP hD hS hl T hT X
  have hA := h.adr hD hS
  have hT9 : ∀ w ∈ TT, w.before args s = true := fun w hw => h.1.2.2.2.2 _ (List.mem_cons_of_mem _ hw)
  rcases vx_runV (As := As) (rest := st) (g := F0 m pc ls st0) h.1 (hC H.size) cw ⟨Pu.blind, h.recv hP hc he, h.pre hP hD hS⟩ rfl hn hl.1 hst (lv_room hcat) d hcs T hT X with ⟨v, st₀, t, T', L, h0, X', hL, e1, e2, hq, hst9⟩ | ⟨q9, st₀, t, T', L, E', ce, h09, X', hL, e1, e2, ⟨hE, hp, hz, hk⟩, hce, hcv, hcl, hst9⟩
  · exact hq.elim
  · subst hE
    rw [h09] at hz hk
    obtain ⟨t2, a1, b1⟩ := vx_catch (H := T'.heap) (locs := locs ++ L) (ls := ls) (rest := st) (pc := pc) h.1.2.2.2.1 pre x suf hsplit (fun z hz => (hpass z hz).imp id (fun ⟨z0, nm, h1, h2⟩ => ⟨z0, nm, hT9 _ h1, h2⟩)) hx h0 (hT9 _ hlink) (va_Nw.use rfl (h.nw hcast)) (by rw [e1]; exact hce) hcv hcl
      (k q9 T'.heap (locs ++ L) ls (by rw [e1]; exact hp) (va_Dsame hadr hD) ⟨Nat.le_trans hS.1 (by rw [e1]; exact hz), fun q h1 h2 => by rw [e1, hk q (Nat.lt_of_lt_of_le h1 hS.1) (fun z => h2 (hA q z))]; exact hS.2.1 q h1 h2, fun q hq => by
        rcases List.mem_append.mp hq with h9 | h9
        · exact hS.2.2 q h9
        · exact hA _ (hL q h9)⟩ hl) T' rfl X'
    exact ⟨t2, hst9.trans a1, b1⟩
end RN
section NF
variable {l : Launch} {G : gG} {a : Nat → Nat} {o : Nat} {of : Nat → Int64} {hd : Nat → Nat → Int64} {wk sp : Nat → Int64} {ct : Int32} {ky nm : Nat → Int32}
theorem t_first_n (hl : l.stackTraces = false) (r1 : Nat) (h1 : r1 < 16) (hn : ∀ y, y < 1024 → sv (hd r1) y = false) : Tw l y_D_first (.code y_D_first b_D_first 4 (some .int) :: TT) (rmX 7 102) G [.ref (a 0), .int (nI r1)] (cw G a hd wk sp ct ky nm) NSE (cw G a hd (mix 16 (hd r1) wk) sp ct ky nm) := by
  refine tw_intro (cc := b_D_first) (nL := 4) (by decide) [(0, .ref (a 0)), (1, .int (nI r1))] rfl (Nat.le_of_ble_eq_true rfl) ?_
  intro p e s m below meth c A h hr hex
  have hz : ∀ i, i < 16 → (mix 16 (hd r1) wk) i = 0 := row_0.mpr (fun y hy => (sv_mix hy).trans (hn y hy))
  refine r_iload_n (pc := 0) h 1 d_D_first_0 rfl rfl ?_
  refine r_invSv (pc := 1) h (st := []) d_D_first_1 (c_checkRegister r1 h1) (r_cS h wc_D_checkRegister w_63 w_1 w_64 hd_D_checkRegister ⟨(Nat.le_of_ble_eq_true rfl), (Nat.le_of_ble_eq_true rfl)⟩ rfl rfl) rfl rfl (Nat.le_of_ble_eq_true rfl) ⟨(Nat.le_of_ble_eq_true rfl), (Nat.le_of_ble_eq_true rfl)⟩ rfl ?_
  refine r_aload_n (pc := 4) h 0 d_D_first_4 rfl rfl ?_
  refine r_get (pc := 5) h 0 0 d_D_first_5 cw_0 rfl (by decide) in_D (List.mem_cons_of_mem _ w_42) rfl ?_
  refine r_iload_n (pc := 8) h 1 d_D_first_8 rfl rfl ?_
  refine r_aaload (pc := 9) h 1 3 r1 d_D_first_9 cw_1 rfl rfl rfl h1 (by decide) (cw_o h1) ?_
  refine r_iconst (pc := 10) h (v := 0) d_D_first_10 (by decide) ?_
  refine r_aload_n (pc := 11) h 0 d_D_first_11 rfl rfl ?_
  refine r_get (pc := 12) h 0 1 d_D_first_12 cw_0 rfl (by decide) in_D (List.mem_cons_of_mem _ w_43) rfl ?_
  refine r_iconst (pc := 15) h (v := 0) d_D_first_15 (by decide) ?_
  refine r_bipush (pc := 16) h (v := nI 16) d_D_first_16 (by decide) ?_
  refine r_copyl (pc := 18) h (7 + r1) 2 (ws' := (cw G a hd (mix 16 (hd r1) wk) sp ct ky nm)) 16 d_D_first_18 (List.mem_cons_of_mem _ w_201) (List.mem_cons_of_mem _ w_203) (List.mem_cons_of_mem _ w_202) (List.mem_cons_of_mem _ w_9) (cw_r h1) cw_2 rfl rfl rfl (by decide) (by decide) (by decide) (Nat.le_of_ble_eq_true rfl) (Nat.le_of_ble_eq_true rfl) (by rw [cpy_row]; exact cw_s2) ?_
  refine r_aload_n (pc := 21) h 0 d_D_first_21 rfl rfl ?_
  refine r_invVa (pc := 22) h 0 (st := []) d_D_first_22 (c_isEmptyWork_t hz) (r_cV h wc_D_isEmptyWork w_264 w_1 w_266 (TT_se (q := (y_D_isEmptyWork, 4)) 3 rfl) hd_D_isEmptyWork ⟨(Nat.le_of_ble_eq_true rfl), (Nat.le_of_ble_eq_true rfl)⟩ rfl rfl) cw_0 rfl rfl rfl (Nat.le_of_ble_eq_true rfl) ⟨(Nat.le_of_ble_eq_true rfl), (Nat.le_of_ble_eq_true rfl)⟩ cw_adr ?_
  refine r_if_eq_f (pc := 25) h (tgt := 38) d_D_first_25 (by decide) (by decide) ?_
  exact r_throwN (pc := 28) h hl hex (text := "true for no assignment") w_268 w_11 (by decide +kernel) d_D_first_28 d_D_first_31 d_D_first_32 d_D_first_34 d_D_first_37 (Nat.le_of_ble_eq_true rfl) (Nat.le_of_ble_eq_true rfl) (Nat.le_of_ble_eq_true rfl) (Nat.le_of_ble_eq_true rfl)
theorem hx_first_n (hl : l.stackTraces = false) (r1 : Nat) (h1 : r1 < 16) (hn : ∀ y, y < 1024 → sv (hd r1) y = false) : Hp l y_L_first (.codeWith y_L_first b_L_first 4 (some .int) [(0, 9, 12, 13), (0, 9, 15, 49)] :: TT) (rmX 8 140) G [.ref (a 0), .int (nI r1), .ref o] ((cw G a hd wk sp ct ky nm) ++ oc G o of) (fun v9 ws' => v9 = some (.int (nI 2)) ∧ ws' = ((cw G a hd (mix 16 (hd r1) wk) sp ct ky nm) ++ oc G o of)) := by
  refine hp_intro (cc := b_L_first) (nL := 4) (by decide) [(0, .ref (a 0)), (1, .int (nI r1)), (2, .ref o)] rfl (Nat.le_of_ble_eq_true rfl) ?_
  intro p e s m below meth c A h hr htab
  refine r_aload_n (pc := 0) h 2 d_L_first_0 rfl rfl ?_
  refine r_iconst (pc := 1) h (v := nI 0) d_L_first_1 (by decide) ?_
  refine r_aload_n (pc := 2) h 0 d_L_first_2 rfl rfl ?_
  refine r_iload_n (pc := 3) h 1 d_L_first_3 rfl rfl ?_
  refine r_catchVw (pc := 4) h 0 (st := [.int (nI 0), .ref o]) d_L_first_4 ((t_first_n hl r1 h1 hn).frame (oc G o of)) (r_cV h wc_D_first w_260 w_1 w_261 w_262 hd_D_first ⟨(Nat.le_of_ble_eq_true rfl), (Nat.le_of_ble_eq_true rfl)⟩ rfl rfl) (ap_l cw_0) rfl rfl rfl (Nat.le_of_ble_eq_true rfl) ⟨(Nat.le_of_ble_eq_true rfl), (Nat.le_of_ble_eq_true rfl)⟩ [{ startPc := 0, endPc := 9, handlerPc := 12, catchType := 13 }] { startPc := 0, endPc := 9, handlerPc := 15, catchType := 49 } [] htab (fun z hz => by rw [List.mem_singleton.mp hz]; exact Or.inr ⟨by decide, IAE, w_58, h.2.2.1.2.2.2.2.2.2.2⟩) (by decide) (by decide) w_259 (List.mem_of_getElem? (i := 9) rfl) rfl (fun q9 => ?_)
  show Wv p l e _ s m _ below meth c G A _ _ _ _ ((cw G a hd (mix 16 (hd r1) wk) sp ct ky nm) ++ oc G o of) 15 [(0, .ref (a 0)), (1, .int (nI r1)), (2, .ref o)] [.ref q9]
  refine r_astore_n (pc := 15) h (lv' := [(3, .ref q9), (0, .ref (a 0)), (1, .int (nI r1)), (2, .ref o)]) d_L_first_15 rfl (by decide) rfl ?_
  refine r_iconst (pc := 16) h (v := nI 2) d_L_first_16 (by decide) ?_
  exact r_iretP (pc := 17) h hr ⟨rfl, rfl⟩ d_L_first_17
end NF
