-- the judgement Wv (a world, a pc, known locals, a stack) and a row an instruction
abbrev gG : Type := va_G × (Nat → ClassId)
abbrev gT (G : gG) : List (ClassId × FieldType) := [(G.2 0, .int), (G.2 1, .long), (G.2 2, .boolean), (G.2 3, .array .long), (G.2 4, .array .boolean)]
/-- what nobody writes: the table of the class, two fields of Throwable, the texts, words that calls don't hand on -/
def StA (A : Nat → Prop) (U : State) (H : Heap) : Prop :=
  (∃ t : Nat, va_Z "DiagramBench" "TRUE_PLACES" "[J" (.ref t) A U H ∧ va_T .long t 6 tpV A U H) ∧ vx_Zq Bundle.tN "UNASSIGNED_STACK" Bundle.steD A U H ∧ vx_Zq Bundle.tN "SUPPRESSED_SENTINEL" Bundle.listD A U H ∧
  (∀ q ∈ strs, ∃ a : Nat, vk_R q.1 q.2.1 q.2.2 a U) ∧ (∀ w ∈ nws, va_Nw w U) ∧ va_AOA .long U ∧ va_AOA .boolean U ∧ va_Nc "java/util/NoSuchElementException" "java/lang/IllegalArgumentException" U
theorem StA.narrow {A B : Nat → Prop} {U : State} {H : Heap} (h : StA A U H) (hAB : ∀ q, B q → A q) : StA B U H := by
  obtain ⟨⟨t, h1, h2⟩, h3, h4, h5⟩ := h
  exact ⟨⟨t, h1.narrow hAB, h2.narrow hAB⟩, h3.narrow hAB, h4.narrow hAB, h5⟩
theorem StA.kept {A : Nat → Prop} {U : State} {H H1 : Heap} (h : StA A U H) (hq : ∀ a : Nat, a < H.size → ¬ A a → H1[a]? = H[a]?) : StA A U H1 := by
  obtain ⟨⟨t, h1, h2⟩, h3, h4, h5⟩ := h
  exact ⟨⟨t, h1.kept hq, h2.kept hq⟩, h3.kept hq, h4.kept hq, h5⟩
theorem StA.warm {A : Nat → Prop} {s U : State} {H : Heap} (hW : s.WarmedH U.vm) (h : StA A s H) : StA A U H := by
  obtain ⟨⟨t, h1, h2⟩, h3, h4, h5, h6, h7, h8, h9⟩ := h
  refine ⟨⟨t, va_Z.moved hW.alike h1, va_T.moved hW.alike h2⟩, vx_Zq.moved hW.alike h3, vx_Zq.moved hW.alike h4, fun q hq => ?_, nws_warm hW h6, va_AOA.moved hW.alike h7, va_AOA.moved hW.alike h8, va_Nc.moved hW.alike h9⟩
  obtain ⟨a, ha⟩ := h5 q hq
  exact ⟨a, vk_R.warm hW ha⟩
theorem StA.same {A : Nat → Prop} {u U : State} {H : Heap} (hv : U.vm = u.vm) (h : StA A u H) : StA A U H := by
  obtain ⟨⟨t, h1, h2⟩, h3, h4, h5, h6, h7, h8, h9⟩ := h
  have hA : u.vm.Alike U.vm := by rw [hv]; exact Vm.Alike.refl u.vm
  refine ⟨⟨t, va_Z.moved hA h1, va_T.moved hA h2⟩, vx_Zq.moved hA h3, vx_Zq.moved hA h4, fun q hq => ?_, nws_same hv.symm h6, va_AOA.moved hA h7, va_AOA.moved hA h8, va_Nc.moved hA h9⟩
  obtain ⟨a, ha⟩ := h5 q hq
  exact ⟨a, vk_R.same hv ha⟩
/-- the start of every method -/
def Pu (G : gG) (A : Nat → Prop) (ws : va_W) (sz : Nat) (U : State) : Prop :=
  U.heap.size = sz ∧ va_P G.1 cls ws U.heap ∧ va_K G.1 cls (gT G) U ∧ va_D A ws ∧ StA A U U.heap
theorem Pu.blind {G : gG} {A : Nat → Prop} {ws : va_W} {sz : Nat} {As : List Value} : FrameBlind (va_Pc As (Pu G A ws sz)) :=
  fun a U g mk q => ⟨q.1, q.2.1, q.2.2.1, va_K.moved (u := U) (U := U.calling g mk a) (Vm.Alike.refl U.vm) q.2.2.2.1, q.2.2.2.2.1, StA.same (u := U) (U := U.calling g mk a) rfl q.2.2.2.2.2⟩
/-- the end of a method that returns v and leaves the world ws -/
def QC (G : gG) (A : Nat → Prop) (v : Option Value) (ws : va_W) : Array Value → State → Outcome → State → Prop := fun _ st o t =>
  o = .returned v ∧ va_P G.1 cls ws t.heap ∧ va_F A st t
/-- the end of a method that throws an E and leaves the world ws -/
def XE (G : gG) (A : Nat → Prop) (E : String) (ws : va_W) : String → State → State → Prop := fun E' st t =>
  E' = E ∧ va_P G.1 cls ws t.heap ∧ va_F A st t
def QN : Array Value → State → Outcome → State → Prop := fun _ _ _ _ => False
/-- a contract: with these arguments, in this world, the method returns v and leaves the world ws' -/
def Ct (l : Launch) (y : MethodName) (w : List Cond) (rm : Room) (G : gG) (As : List Value) (ws : va_W) (v : Option Value) (ws' : va_W) : Prop :=
  ∀ sz : Nat, Met l y w rm (va_Pc As (Pu G (va_A ws sz) ws sz)) (QC G (va_A ws sz) v ws') 0 0 (va_A ws sz)
/-- .. and the method throws an E and leaves the world as it was -/
def Tt (l : Launch) (y : MethodName) (w : List Cond) (rm : Room) (G : gG) (As : List Value) (ws : va_W) (E : String) : Prop :=
  ∀ sz : Nat, vx_Met l y w rm (va_Pc As (Pu G (va_A ws sz) ws sz)) QN (XE G (va_A ws sz) E ws) 1 6 (va_A ws sz)
/-- what holds all along a method's body -/
def Fx (p : Program) (m : MethodId) (c : Code) (s : State) (args : Array Value) (meth : Method) (own : String) (cc : ByteArray) (nL : Nat) (Ts : List Cond) (G : gG) (A : Nat → Prop) : Prop :=
  CallFix p m c cc nL s args Ts own ∧ va_K G.1 cls (gT G) s ∧ StA A s s.heap ∧ (∀ q : Nat, s.heap.size ≤ q → A q) ∧ meth.locks = false
def Wv (p : Program) (l : Launch) (e : Env) (R : Room) (s : State) (m : MethodId) (args : Array Value) (below : List Frame) (meth : Method) (c : Code) (G : gG) (A : Nat → Prop) (nL cells slots : Nat) (Q : State → Prop) (ws : va_W) (pc : Nat) (lv : List (Nat × Value)) (st : List Value) : Prop :=
  ∀ (H : Heap) (locs : List Loc) (ls : Array Slot), va_P G.1 cls ws H → va_D A ws → va_S A s.heap H locs → lv_has ls nL lv → W p l e R s m args below meth c H locs cells slots Q (F0 m pc ls st)
theorem va_fst {ws ws' : va_W} (e : ws'.map Prod.fst = ws.map Prod.fst) {i : Nat} {q : Nat × va_E} (hq : ws'[i]? = some q) : ∃ q0, ws[i]? = some q0 ∧ q0.1 = q.1 := by
  have h1 : (ws'.map Prod.fst)[i]? = some q.1 := by rw [List.getElem?_map, hq]; rfl
  rw [e, List.getElem?_map] at h1
  cases h : ws[i]? with
  | none => rw [h] at h1; cases h1
  | some q0 => rw [h] at h1; exact ⟨q0, rfl, Option.some.inj h1⟩
theorem va_Dsame {A : Nat → Prop} {ws ws' : va_W} (e : ws'.map Prod.fst = ws.map Prod.fst) (h : va_D A ws) : va_D A ws' := by
  refine ⟨fun i j a b ha hb hab => ?_, fun k q hq => ?_⟩
  · obtain ⟨a0, h1, h2⟩ := va_fst e ha
    obtain ⟨b0, h3, h4⟩ := va_fst e hb
    exact h.1 i j a0 b0 h1 h3 (by rw [h2, h4]; exact hab)
  · obtain ⟨q0, h1, h2⟩ := va_fst e hq
    rw [← h2]
    exact h.2 k q0 h1
section RW
variable {p : Program} {l : Launch} {e : Env} {R : Room} {s : State} {m : MethodId} {args : Array Value} {below : List Frame} {meth : Method} {c : Code} {cells slots : Nat} {Q : State → Prop} {G : gG} {A : Nat → Prop} {nL : Nat} {cc : ByteArray} {own : String} {Ts : List Cond} {ws ws' : va_W} {pc : Nat} {lv : List (Nat × Value)} {st : List Value}
theorem Wv.sub {lv' : List (Nat × Value)} (ks : List Nat) (hk : lv_pick lv ks = lv') (k : Wv p l e R s m args below meth c G A nL cells slots Q ws pc lv' st) : Wv p l e R s m args below meth c G A nL cells slots Q ws pc lv st :=
  fun H locs ls hP hD hS hl => k H locs ls hP hD hS (lv_sub hl ks hk)
theorem Wv.top {v v' : Value} (e1 : v = v') (k : Wv p l e R s m args below meth c G A nL cells slots Q ws pc lv (v' :: st)) : Wv p l e R s m args below meth c G A nL cells slots Q ws pc lv (v :: st) := e1 ▸ k
theorem Wv.wld (e1 : ws = ws') (k : Wv p l e R s m args below meth c G A nL cells slots Q ws' pc lv st) : Wv p l e R s m args below meth c G A nL cells slots Q ws pc lv st := e1 ▸ k
theorem Wv.lcl {lv' : List (Nat × Value)} (e1 : lv = lv') (k : Wv p l e R s m args below meth c G A nL cells slots Q ws pc lv' st) : Wv p l e R s m args below meth c G A nL cells slots Q ws pc lv st := e1 ▸ k
theorem r_iconst (h : Fx p m c s args meth own cc nL Ts G A) {n : Int} {v : Int32} (d : decode cc pc = .ok (.iconst n, 1)) (e0 : Int32.ofInt n = v) (k : Wv p l e R s m args below meth c G A nL cells slots Q ws (pc + 1) lv (.int v :: st)) : Wv p l e R s m args below meth c G A nL cells slots Q ws (pc) lv (st) :=
  fun H locs ls hP hD hS hl => lv_iconst h.1.1 h.1.2.1 d e0 (k H locs ls hP hD hS hl)
theorem r_bipush (h : Fx p m c s args meth own cc nL Ts G A) {n : Int} {v : Int32} (d : decode cc pc = .ok (.bipush n, 2)) (e0 : (Int8.ofInt n).toInt32 = v) (k : Wv p l e R s m args below meth c G A nL cells slots Q ws (pc + 2) lv (.int v :: st)) : Wv p l e R s m args below meth c G A nL cells slots Q ws (pc) lv (st) :=
  fun H locs ls hP hD hS hl => lv_bipush h.1.1 h.1.2.1 d e0 (k H locs ls hP hD hS hl)
theorem r_sipush (h : Fx p m c s args meth own cc nL Ts G A) {n : Int} {v : Int32} (d : decode cc pc = .ok (.sipush n, 3)) (e0 : (Int16.ofInt n).toInt32 = v) (k : Wv p l e R s m args below meth c G A nL cells slots Q ws (pc + 3) lv (.int v :: st)) : Wv p l e R s m args below meth c G A nL cells slots Q ws (pc) lv (st) :=
  fun H locs ls hP hD hS hl => lv_sipush h.1.1 h.1.2.1 d e0 (k H locs ls hP hD hS hl)
theorem r_lconst (h : Fx p m c s args meth own cc nL Ts G A) {n : Fin 2} {v : Int64} (d : decode cc pc = .ok (.lconst n, 1)) (e0 : Int64.ofNat (n : Nat) = v) (k : Wv p l e R s m args below meth c G A nL cells slots Q ws (pc + 1) lv (.long v :: st)) : Wv p l e R s m args below meth c G A nL cells slots Q ws (pc) lv (st) :=
  fun H locs ls hP hD hS hl => lv_lconst h.1.1 h.1.2.1 d e0 (k H locs ls hP hD hS hl)
theorem r_ldc (h : Fx p m c s args meth own cc nL Ts G A) {idx : Nat} {v : Int32} (d : decode cc pc = .ok (.ldc idx, 2)) (hw : Cond.constant own idx v ∈ Ts) (k : Wv p l e R s m args below meth c G A nL cells slots Q ws (pc + 2) lv (.int v :: st)) : Wv p l e R s m args below meth c G A nL cells slots Q ws (pc) lv (st) :=
  fun H locs ls hP hD hS hl => lv_ldc h.1.1 h.1.2.1 h.1.2.2.2.1 (h.1.2.2.2.2 _ hw) d (k H locs ls hP hD hS hl)
theorem r_ldc2 (h : Fx p m c s args meth own cc nL Ts G A) {idx : Nat} {v : Int64} (d : decode cc pc = .ok (.ldc2_w idx, 3)) (hw : Cond.constantLong own idx v ∈ Ts) (k : Wv p l e R s m args below meth c G A nL cells slots Q ws (pc + 3) lv (.long v :: st)) : Wv p l e R s m args below meth c G A nL cells slots Q ws (pc) lv (st) :=
  fun H locs ls hP hD hS hl => lv_ldc2 h.1.1 h.1.2.1 h.1.2.2.2.1 (h.1.2.2.2.2 _ hw) d (k H locs ls hP hD hS hl)
theorem r_iload_n (h : Fx p m c s args meth own cc nL Ts G A) {kf : Fin 4} {i : Nat} {x : Int32} (j : Nat) (d : decode cc pc = .ok (.iload_n kf, 1)) (hi : (kf : Nat) = i) (hj : lv[j]? = some (i, .int x)) (k : Wv p l e R s m args below meth c G A nL cells slots Q ws (pc + 1) lv (.int x :: st)) : Wv p l e R s m args below meth c G A nL cells slots Q ws (pc) lv (st) :=
  fun H locs ls hP hD hS hl => lv_iload_n h.1.1 h.1.2.1 d hi (lv_at hl j hj) (k H locs ls hP hD hS hl)
theorem r_iload (h : Fx p m c s args meth own cc nL Ts G A) {i : Nat} {x : Int32} (j : Nat) (d : decode cc pc = .ok (.iload i, 2)) (hj : lv[j]? = some (i, .int x)) (k : Wv p l e R s m args below meth c G A nL cells slots Q ws (pc + 2) lv (.int x :: st)) : Wv p l e R s m args below meth c G A nL cells slots Q ws (pc) lv (st) :=
  fun H locs ls hP hD hS hl => lv_iload h.1.1 h.1.2.1 d (lv_at hl j hj) (k H locs ls hP hD hS hl)
theorem r_lload_n (h : Fx p m c s args meth own cc nL Ts G A) {kf : Fin 4} {i : Nat} {x : Int64} (j : Nat) (d : decode cc pc = .ok (.lload_n kf, 1)) (hi : (kf : Nat) = i) (hj : lv[j]? = some (i, .long x)) (k : Wv p l e R s m args below meth c G A nL cells slots Q ws (pc + 1) lv (.long x :: st)) : Wv p l e R s m args below meth c G A nL cells slots Q ws (pc) lv (st) :=
  fun H locs ls hP hD hS hl => lv_lload_n h.1.1 h.1.2.1 d hi (lv_at hl j hj) (k H locs ls hP hD hS hl)
theorem r_lload (h : Fx p m c s args meth own cc nL Ts G A) {i : Nat} {x : Int64} (j : Nat) (d : decode cc pc = .ok (.lload i, 2)) (hj : lv[j]? = some (i, .long x)) (k : Wv p l e R s m args below meth c G A nL cells slots Q ws (pc + 2) lv (.long x :: st)) : Wv p l e R s m args below meth c G A nL cells slots Q ws (pc) lv (st) :=
  fun H locs ls hP hD hS hl => lv_lload h.1.1 h.1.2.1 d (lv_at hl j hj) (k H locs ls hP hD hS hl)
theorem r_aload_n (h : Fx p m c s args meth own cc nL Ts G A) {kf : Fin 4} {i : Nat} {x : Nat} (j : Nat) (d : decode cc pc = .ok (.aload_n kf, 1)) (hi : (kf : Nat) = i) (hj : lv[j]? = some (i, .ref x)) (k : Wv p l e R s m args below meth c G A nL cells slots Q ws (pc + 1) lv (.ref x :: st)) : Wv p l e R s m args below meth c G A nL cells slots Q ws (pc) lv (st) :=
  fun H locs ls hP hD hS hl => lv_aload_n h.1.1 h.1.2.1 d hi (lv_at hl j hj) (k H locs ls hP hD hS hl)
theorem r_aload (h : Fx p m c s args meth own cc nL Ts G A) {i : Nat} {x : Nat} (j : Nat) (d : decode cc pc = .ok (.aload i, 2)) (hj : lv[j]? = some (i, .ref x)) (k : Wv p l e R s m args below meth c G A nL cells slots Q ws (pc + 2) lv (.ref x :: st)) : Wv p l e R s m args below meth c G A nL cells slots Q ws (pc) lv (st) :=
  fun H locs ls hP hD hS hl => lv_aload h.1.1 h.1.2.1 d (lv_at hl j hj) (k H locs ls hP hD hS hl)
theorem r_istore_n (h : Fx p m c s args meth own cc nL Ts G A) {kf : Fin 4} {i : Nat} {x : Int32} {lv' : List (Nat × Value)} (d : decode cc pc = .ok (.istore_n kf, 1)) (hi : (kf : Nat) = i) (hn : i < nL) (hf : (i, Value.int x) :: lv.filter (fun q => !(q.1 == i) && !(q.1 + 1 == i && q.2.category == 2)) = lv') (k : Wv p l e R s m args below meth c G A nL cells slots Q ws (pc + 1) lv' (st)) : Wv p l e R s m args below meth c G A nL cells slots Q ws (pc) lv (.int x :: st) :=
  fun H locs ls hP hD hS hl => lv_istore_n h.1.1 h.1.2.1 d hi hl hn hf (fun ls' hl' => k H locs ls' hP hD hS hl')
theorem r_istore (h : Fx p m c s args meth own cc nL Ts G A) {i : Nat} {x : Int32} {lv' : List (Nat × Value)} (d : decode cc pc = .ok (.istore i, 2)) (hn : i < nL) (hf : (i, Value.int x) :: lv.filter (fun q => !(q.1 == i) && !(q.1 + 1 == i && q.2.category == 2)) = lv') (k : Wv p l e R s m args below meth c G A nL cells slots Q ws (pc + 2) lv' (st)) : Wv p l e R s m args below meth c G A nL cells slots Q ws (pc) lv (.int x :: st) :=
  fun H locs ls hP hD hS hl => lv_istore h.1.1 h.1.2.1 d hl hn hf (fun ls' hl' => k H locs ls' hP hD hS hl')
theorem r_lstore_n (h : Fx p m c s args meth own cc nL Ts G A) {kf : Fin 4} {i : Nat} {x : Int64} {lv' : List (Nat × Value)} (d : decode cc pc = .ok (.lstore_n kf, 1)) (hi : (kf : Nat) = i) (hn : i + 1 < nL) (hf : (i, Value.long x) :: lv.filter (fun q => !(q.1 == i) && (!(q.1 == i + 1) && !(q.1 + 1 == i && q.2.category == 2))) = lv') (k : Wv p l e R s m args below meth c G A nL cells slots Q ws (pc + 1) lv' (st)) : Wv p l e R s m args below meth c G A nL cells slots Q ws (pc) lv (.long x :: st) :=
  fun H locs ls hP hD hS hl => lv_lstore_n h.1.1 h.1.2.1 d hi hl hn hf (fun ls' hl' => k H locs ls' hP hD hS hl')
theorem r_lstore (h : Fx p m c s args meth own cc nL Ts G A) {i : Nat} {x : Int64} {lv' : List (Nat × Value)} (d : decode cc pc = .ok (.lstore i, 2)) (hn : i + 1 < nL) (hf : (i, Value.long x) :: lv.filter (fun q => !(q.1 == i) && (!(q.1 == i + 1) && !(q.1 + 1 == i && q.2.category == 2))) = lv') (k : Wv p l e R s m args below meth c G A nL cells slots Q ws (pc + 2) lv' (st)) : Wv p l e R s m args below meth c G A nL cells slots Q ws (pc) lv (.long x :: st) :=
  fun H locs ls hP hD hS hl => lv_lstore h.1.1 h.1.2.1 d hl hn hf (fun ls' hl' => k H locs ls' hP hD hS hl')
theorem r_astore_n (h : Fx p m c s args meth own cc nL Ts G A) {kf : Fin 4} {i : Nat} {x : Nat} {lv' : List (Nat × Value)} (d : decode cc pc = .ok (.astore_n kf, 1)) (hi : (kf : Nat) = i) (hn : i < nL) (hf : (i, Value.ref x) :: lv.filter (fun q => !(q.1 == i) && !(q.1 + 1 == i && q.2.category == 2)) = lv') (k : Wv p l e R s m args below meth c G A nL cells slots Q ws (pc + 1) lv' (st)) : Wv p l e R s m args below meth c G A nL cells slots Q ws (pc) lv (.ref x :: st) :=
  fun H locs ls hP hD hS hl => lv_astore_n h.1.1 h.1.2.1 d hi hl hn hf (fun ls' hl' => k H locs ls' hP hD hS hl')
theorem r_astore (h : Fx p m c s args meth own cc nL Ts G A) {i : Nat} {x : Nat} {lv' : List (Nat × Value)} (d : decode cc pc = .ok (.astore i, 2)) (hn : i < nL) (hf : (i, Value.ref x) :: lv.filter (fun q => !(q.1 == i) && !(q.1 + 1 == i && q.2.category == 2)) = lv') (k : Wv p l e R s m args below meth c G A nL cells slots Q ws (pc + 2) lv' (st)) : Wv p l e R s m args below meth c G A nL cells slots Q ws (pc) lv (.ref x :: st) :=
  fun H locs ls hP hD hS hl => lv_astore h.1.1 h.1.2.1 d hl hn hf (fun ls' hl' => k H locs ls' hP hD hS hl')
theorem r_iinc (h : Fx p m c s args meth own cc nL Ts G A) {i : Nat} {n : Int} {x v : Int32} {lv' : List (Nat × Value)} (j : Nat) (d : decode cc pc = .ok (.iinc i n, 3)) (hj : lv[j]? = some (i, .int x)) (e0 : x + Int32.ofInt n = v) (hn : i < nL) (hf : (i, Value.int v) :: lv.filter (fun q => !(q.1 == i) && !(q.1 + 1 == i && q.2.category == 2)) = lv') (k : Wv p l e R s m args below meth c G A nL cells slots Q ws (pc + 3) lv' (st)) : Wv p l e R s m args below meth c G A nL cells slots Q ws (pc) lv (st) :=
  fun H locs ls hP hD hS hl => lv_iinc (k := j) h.1.1 h.1.2.1 d hl hj e0 hn hf (fun ls' hl' => k H locs ls' hP hD hS hl')
theorem r_iadd (h : Fx p m c s args meth own cc nL Ts G A) {x z : Int32} {y : Int32} (d : decode cc pc = .ok (.iadd, 1)) (e0 : x + y = z) (k : Wv p l e R s m args below meth c G A nL cells slots Q ws (pc + 1) lv (.int z :: st)) : Wv p l e R s m args below meth c G A nL cells slots Q ws (pc) lv (.int y :: .int x :: st) :=
  fun H locs ls hP hD hS hl => lv_iadd h.1.1 h.1.2.1 d (by rw [e0]; exact k H locs ls hP hD hS hl)
theorem r_isub (h : Fx p m c s args meth own cc nL Ts G A) {x z : Int32} {y : Int32} (d : decode cc pc = .ok (.isub, 1)) (e0 : x - y = z) (k : Wv p l e R s m args below meth c G A nL cells slots Q ws (pc + 1) lv (.int z :: st)) : Wv p l e R s m args below meth c G A nL cells slots Q ws (pc) lv (.int y :: .int x :: st) :=
  fun H locs ls hP hD hS hl => lv_isub h.1.1 h.1.2.1 d (by rw [e0]; exact k H locs ls hP hD hS hl)
theorem r_imul (h : Fx p m c s args meth own cc nL Ts G A) {x z : Int32} {y : Int32} (d : decode cc pc = .ok (.imul, 1)) (e0 : x * y = z) (k : Wv p l e R s m args below meth c G A nL cells slots Q ws (pc + 1) lv (.int z :: st)) : Wv p l e R s m args below meth c G A nL cells slots Q ws (pc) lv (.int y :: .int x :: st) :=
  fun H locs ls hP hD hS hl => lv_imul h.1.1 h.1.2.1 d (by rw [e0]; exact k H locs ls hP hD hS hl)
theorem r_iand (h : Fx p m c s args meth own cc nL Ts G A) {x z : Int32} {y : Int32} (d : decode cc pc = .ok (.iand, 1)) (e0 : x &&& y = z) (k : Wv p l e R s m args below meth c G A nL cells slots Q ws (pc + 1) lv (.int z :: st)) : Wv p l e R s m args below meth c G A nL cells slots Q ws (pc) lv (.int y :: .int x :: st) :=
  fun H locs ls hP hD hS hl => lv_iand h.1.1 h.1.2.1 d (by rw [e0]; exact k H locs ls hP hD hS hl)
theorem r_ior (h : Fx p m c s args meth own cc nL Ts G A) {x z : Int32} {y : Int32} (d : decode cc pc = .ok (.ior, 1)) (e0 : x ||| y = z) (k : Wv p l e R s m args below meth c G A nL cells slots Q ws (pc + 1) lv (.int z :: st)) : Wv p l e R s m args below meth c G A nL cells slots Q ws (pc) lv (.int y :: .int x :: st) :=
  fun H locs ls hP hD hS hl => lv_ior h.1.1 h.1.2.1 d (by rw [e0]; exact k H locs ls hP hD hS hl)
theorem r_ixor (h : Fx p m c s args meth own cc nL Ts G A) {x z : Int32} {y : Int32} (d : decode cc pc = .ok (.ixor, 1)) (e0 : x ^^^ y = z) (k : Wv p l e R s m args below meth c G A nL cells slots Q ws (pc + 1) lv (.int z :: st)) : Wv p l e R s m args below meth c G A nL cells slots Q ws (pc) lv (.int y :: .int x :: st) :=
  fun H locs ls hP hD hS hl => lv_ixor h.1.1 h.1.2.1 d (by rw [e0]; exact k H locs ls hP hD hS hl)
theorem r_ladd (h : Fx p m c s args meth own cc nL Ts G A) {x z : Int64} {y : Int64} (d : decode cc pc = .ok (.ladd, 1)) (e0 : x + y = z) (k : Wv p l e R s m args below meth c G A nL cells slots Q ws (pc + 1) lv (.long z :: st)) : Wv p l e R s m args below meth c G A nL cells slots Q ws (pc) lv (.long y :: .long x :: st) :=
  fun H locs ls hP hD hS hl => lv_ladd h.1.1 h.1.2.1 d (by rw [e0]; exact k H locs ls hP hD hS hl)
theorem r_land (h : Fx p m c s args meth own cc nL Ts G A) {x z : Int64} {y : Int64} (d : decode cc pc = .ok (.land, 1)) (e0 : x &&& y = z) (k : Wv p l e R s m args below meth c G A nL cells slots Q ws (pc + 1) lv (.long z :: st)) : Wv p l e R s m args below meth c G A nL cells slots Q ws (pc) lv (.long y :: .long x :: st) :=
  fun H locs ls hP hD hS hl => lv_land h.1.1 h.1.2.1 d (by rw [e0]; exact k H locs ls hP hD hS hl)
theorem r_lor (h : Fx p m c s args meth own cc nL Ts G A) {x z : Int64} {y : Int64} (d : decode cc pc = .ok (.lor, 1)) (e0 : x ||| y = z) (k : Wv p l e R s m args below meth c G A nL cells slots Q ws (pc + 1) lv (.long z :: st)) : Wv p l e R s m args below meth c G A nL cells slots Q ws (pc) lv (.long y :: .long x :: st) :=
  fun H locs ls hP hD hS hl => lv_lor h.1.1 h.1.2.1 d (by rw [e0]; exact k H locs ls hP hD hS hl)
theorem r_lxor (h : Fx p m c s args meth own cc nL Ts G A) {x z : Int64} {y : Int64} (d : decode cc pc = .ok (.lxor, 1)) (e0 : x ^^^ y = z) (k : Wv p l e R s m args below meth c G A nL cells slots Q ws (pc + 1) lv (.long z :: st)) : Wv p l e R s m args below meth c G A nL cells slots Q ws (pc) lv (.long y :: .long x :: st) :=
  fun H locs ls hP hD hS hl => lv_lxor h.1.1 h.1.2.1 d (by rw [e0]; exact k H locs ls hP hD hS hl)
theorem r_lsub (h : Fx p m c s args meth own cc nL Ts G A) {x z : Int64} {y : Int64} (d : decode cc pc = .ok (.lsub, 1)) (e0 : x - y = z) (k : Wv p l e R s m args below meth c G A nL cells slots Q ws (pc + 1) lv (.long z :: st)) : Wv p l e R s m args below meth c G A nL cells slots Q ws (pc) lv (.long y :: .long x :: st) :=
  fun H locs ls hP hD hS hl => lv_lsub h.1.1 h.1.2.1 d (by rw [e0]; exact k H locs ls hP hD hS hl)
theorem r_ishl (h : Fx p m c s args meth own cc nL Ts G A) {x z : Int32} {y : Int32} (d : decode cc pc = .ok (.ishl, 1)) (e0 : x <<< (y &&& 31) = z) (k : Wv p l e R s m args below meth c G A nL cells slots Q ws (pc + 1) lv (.int z :: st)) : Wv p l e R s m args below meth c G A nL cells slots Q ws (pc) lv (.int y :: .int x :: st) :=
  fun H locs ls hP hD hS hl => lv_ishl h.1.1 h.1.2.1 d (by rw [e0]; exact k H locs ls hP hD hS hl)
theorem r_ishr (h : Fx p m c s args meth own cc nL Ts G A) {x z : Int32} {y : Int32} (d : decode cc pc = .ok (.ishr, 1)) (e0 : x >>> (y &&& 31) = z) (k : Wv p l e R s m args below meth c G A nL cells slots Q ws (pc + 1) lv (.int z :: st)) : Wv p l e R s m args below meth c G A nL cells slots Q ws (pc) lv (.int y :: .int x :: st) :=
  fun H locs ls hP hD hS hl => lv_ishr h.1.1 h.1.2.1 d (by rw [e0]; exact k H locs ls hP hD hS hl)
theorem r_iushr (h : Fx p m c s args meth own cc nL Ts G A) {x z : Int32} {y : Int32} (d : decode cc pc = .ok (.iushr, 1)) (e0 : (x.toUInt32 >>> (y.toUInt32 &&& Int32.toUInt32 31)).toInt32 = z) (k : Wv p l e R s m args below meth c G A nL cells slots Q ws (pc + 1) lv (.int z :: st)) : Wv p l e R s m args below meth c G A nL cells slots Q ws (pc) lv (.int y :: .int x :: st) :=
  fun H locs ls hP hD hS hl => lv_iushr h.1.1 h.1.2.1 d e0 (k H locs ls hP hD hS hl)
theorem r_lushr (h : Fx p m c s args meth own cc nL Ts G A) {x z : Int64} {y : Int32} (d : decode cc pc = .ok (.lushr, 1)) (e0 : (x.toUInt64 >>> (y.toInt64.toUInt64 &&& Int64.toUInt64 63)).toInt64 = z) (k : Wv p l e R s m args below meth c G A nL cells slots Q ws (pc + 1) lv (.long z :: st)) : Wv p l e R s m args below meth c G A nL cells slots Q ws (pc) lv (.int y :: .long x :: st) :=
  fun H locs ls hP hD hS hl => lv_lushr h.1.1 h.1.2.1 d e0 (k H locs ls hP hD hS hl)
theorem r_lshl (h : Fx p m c s args meth own cc nL Ts G A) {x z : Int64} {y : Int32} (d : decode cc pc = .ok (.lshl, 1)) (e0 : x <<< (y.toInt64 &&& 63) = z) (k : Wv p l e R s m args below meth c G A nL cells slots Q ws (pc + 1) lv (.long z :: st)) : Wv p l e R s m args below meth c G A nL cells slots Q ws (pc) lv (.int y :: .long x :: st) :=
  fun H locs ls hP hD hS hl => lv_lshl h.1.1 h.1.2.1 d e0 (k H locs ls hP hD hS hl)
theorem r_lcmp (h : Fx p m c s args meth own cc nL Ts G A) {x y : Int64} {z : Int32} (d : decode cc pc = .ok (.lcmp, 1)) (e0 : lg_cmp x y = z) (k : Wv p l e R s m args below meth c G A nL cells slots Q ws (pc + 1) lv (.int z :: st)) : Wv p l e R s m args below meth c G A nL cells slots Q ws (pc) lv (.long y :: .long x :: st) :=
  fun H locs ls hP hD hS hl => W.lcmp h.1.1 h.1.2.1 d (by rw [e0]; exact k H locs ls hP hD hS hl)
theorem r_i2l (h : Fx p m c s args meth own cc nL Ts G A) {x : Int32} {z : Int64} (d : decode cc pc = .ok (.i2l, 1)) (e0 : x.toInt64 = z) (k : Wv p l e R s m args below meth c G A nL cells slots Q ws (pc + 1) lv (.long z :: st)) : Wv p l e R s m args below meth c G A nL cells slots Q ws (pc) lv (.int x :: st) :=
  fun H locs ls hP hD hS hl => lv_i2l h.1.1 h.1.2.1 d e0 (k H locs ls hP hD hS hl)
theorem r_l2i (h : Fx p m c s args meth own cc nL Ts G A) {x : Int64} {z : Int32} (d : decode cc pc = .ok (.l2i, 1)) (e0 : x.toInt32 = z) (k : Wv p l e R s m args below meth c G A nL cells slots Q ws (pc + 1) lv (.int z :: st)) : Wv p l e R s m args below meth c G A nL cells slots Q ws (pc) lv (.long x :: st) :=
  fun H locs ls hP hD hS hl => lv_l2i h.1.1 h.1.2.1 d e0 (k H locs ls hP hD hS hl)
theorem r_dup (h : Fx p m c s args meth own cc nL Ts G A) {v : Value} (d : decode cc pc = .ok (.dup, 1)) (hv : v.category = 1) (k : Wv p l e R s m args below meth c G A nL cells slots Q ws (pc + 1) lv (v :: v :: st)) : Wv p l e R s m args below meth c G A nL cells slots Q ws (pc) lv (v :: st) :=
  fun H locs ls hP hD hS hl => lv_dup h.1.1 h.1.2.1 d hv (k H locs ls hP hD hS hl)
theorem r_pop (h : Fx p m c s args meth own cc nL Ts G A) {v : Value} (d : decode cc pc = .ok (.pop, 1)) (hv : v.category = 1) (k : Wv p l e R s m args below meth c G A nL cells slots Q ws (pc + 1) lv (st)) : Wv p l e R s m args below meth c G A nL cells slots Q ws (pc) lv (v :: st) :=
  fun H locs ls hP hD hS hl => lv_pop h.1.1 h.1.2.1 d hv (k H locs ls hP hD hS hl)
theorem r_dup_x1 (h : Fx p m c s args meth own cc nL Ts G A) {v w : Value} (d : decode cc pc = .ok (.dup_x1, 1)) (hv : v.category = 1) (hw : w.category = 1) (k : Wv p l e R s m args below meth c G A nL cells slots Q ws (pc + 1) lv (v :: w :: v :: st)) : Wv p l e R s m args below meth c G A nL cells slots Q ws (pc) lv (v :: w :: st) :=
  fun H locs ls hP hD hS hl => lv_dup_x1 h.1.1 h.1.2.1 d hv hw (k H locs ls hP hD hS hl)
theorem r_if_eq (h : Fx p m c s args meth own cc nL Ts G A) {x : Int32} {off : Int} {tgt : Nat} (d : decode cc pc = .ok (.ifCond .eq off, 3)) (ht : (pc : Int) + off = (tgt : Int)) (kt : x = 0 → Wv p l e R s m args below meth c G A nL cells slots Q ws (tgt) lv (st)) (kf : ¬ x = 0 → Wv p l e R s m args below meth c G A nL cells slots Q ws (pc + 3) lv (st)) : Wv p l e R s m args below meth c G A nL cells slots Q ws (pc) lv (.int x :: st) :=
  fun H locs ls hP hD hS hl => lv_if_eq h.1.1 h.1.2.1 d ht (fun q => kt q H locs ls hP hD hS hl) (fun q => kf q H locs ls hP hD hS hl)
theorem r_if_eq_t (h : Fx p m c s args meth own cc nL Ts G A) {x : Int32} {off : Int} {tgt : Nat} (d : decode cc pc = .ok (.ifCond .eq off, 3)) (ht : (pc : Int) + off = (tgt : Int)) (hc : x = 0) (k : Wv p l e R s m args below meth c G A nL cells slots Q ws (tgt) lv (st)) : Wv p l e R s m args below meth c G A nL cells slots Q ws (pc) lv (.int x :: st) :=
  r_if_eq h d ht (fun _ => k) (fun q => absurd hc q)
theorem r_if_eq_f (h : Fx p m c s args meth own cc nL Ts G A) {x : Int32} {off : Int} {tgt : Nat} (d : decode cc pc = .ok (.ifCond .eq off, 3)) (ht : (pc : Int) + off = (tgt : Int)) (hc : ¬ x = 0) (k : Wv p l e R s m args below meth c G A nL cells slots Q ws (pc + 3) lv (st)) : Wv p l e R s m args below meth c G A nL cells slots Q ws (pc) lv (.int x :: st) :=
  r_if_eq h d ht (fun q => absurd q hc) (fun _ => k)
theorem r_if_ne (h : Fx p m c s args meth own cc nL Ts G A) {x : Int32} {off : Int} {tgt : Nat} (d : decode cc pc = .ok (.ifCond .ne off, 3)) (ht : (pc : Int) + off = (tgt : Int)) (kt : ¬ x = 0 → Wv p l e R s m args below meth c G A nL cells slots Q ws (tgt) lv (st)) (kf : x = 0 → Wv p l e R s m args below meth c G A nL cells slots Q ws (pc + 3) lv (st)) : Wv p l e R s m args below meth c G A nL cells slots Q ws (pc) lv (.int x :: st) :=
  fun H locs ls hP hD hS hl => lv_if_ne h.1.1 h.1.2.1 d ht (fun q => kt q H locs ls hP hD hS hl) (fun q => kf q H locs ls hP hD hS hl)
theorem r_if_ne_t (h : Fx p m c s args meth own cc nL Ts G A) {x : Int32} {off : Int} {tgt : Nat} (d : decode cc pc = .ok (.ifCond .ne off, 3)) (ht : (pc : Int) + off = (tgt : Int)) (hc : ¬ x = 0) (k : Wv p l e R s m args below meth c G A nL cells slots Q ws (tgt) lv (st)) : Wv p l e R s m args below meth c G A nL cells slots Q ws (pc) lv (.int x :: st) :=
  r_if_ne h d ht (fun _ => k) (fun q => absurd q hc)
theorem r_if_ne_f (h : Fx p m c s args meth own cc nL Ts G A) {x : Int32} {off : Int} {tgt : Nat} (d : decode cc pc = .ok (.ifCond .ne off, 3)) (ht : (pc : Int) + off = (tgt : Int)) (hc : x = 0) (k : Wv p l e R s m args below meth c G A nL cells slots Q ws (pc + 3) lv (st)) : Wv p l e R s m args below meth c G A nL cells slots Q ws (pc) lv (.int x :: st) :=
  r_if_ne h d ht (fun q => absurd hc q) (fun _ => k)
theorem r_if_lt (h : Fx p m c s args meth own cc nL Ts G A) {x : Int32} {off : Int} {tgt : Nat} (d : decode cc pc = .ok (.ifCond .lt off, 3)) (ht : (pc : Int) + off = (tgt : Int)) (kt : x < 0 → Wv p l e R s m args below meth c G A nL cells slots Q ws (tgt) lv (st)) (kf : ¬ x < 0 → Wv p l e R s m args below meth c G A nL cells slots Q ws (pc + 3) lv (st)) : Wv p l e R s m args below meth c G A nL cells slots Q ws (pc) lv (.int x :: st) :=
  fun H locs ls hP hD hS hl => lv_if_lt h.1.1 h.1.2.1 d ht (fun q => kt q H locs ls hP hD hS hl) (fun q => kf q H locs ls hP hD hS hl)
theorem r_if_lt_t (h : Fx p m c s args meth own cc nL Ts G A) {x : Int32} {off : Int} {tgt : Nat} (d : decode cc pc = .ok (.ifCond .lt off, 3)) (ht : (pc : Int) + off = (tgt : Int)) (hc : x < 0) (k : Wv p l e R s m args below meth c G A nL cells slots Q ws (tgt) lv (st)) : Wv p l e R s m args below meth c G A nL cells slots Q ws (pc) lv (.int x :: st) :=
  r_if_lt h d ht (fun _ => k) (fun q => absurd hc q)
theorem r_if_lt_f (h : Fx p m c s args meth own cc nL Ts G A) {x : Int32} {off : Int} {tgt : Nat} (d : decode cc pc = .ok (.ifCond .lt off, 3)) (ht : (pc : Int) + off = (tgt : Int)) (hc : ¬ x < 0) (k : Wv p l e R s m args below meth c G A nL cells slots Q ws (pc + 3) lv (st)) : Wv p l e R s m args below meth c G A nL cells slots Q ws (pc) lv (.int x :: st) :=
  r_if_lt h d ht (fun q => absurd q hc) (fun _ => k)
theorem r_if_ge (h : Fx p m c s args meth own cc nL Ts G A) {x : Int32} {off : Int} {tgt : Nat} (d : decode cc pc = .ok (.ifCond .ge off, 3)) (ht : (pc : Int) + off = (tgt : Int)) (kt : 0 ≤ x → Wv p l e R s m args below meth c G A nL cells slots Q ws (tgt) lv (st)) (kf : ¬ 0 ≤ x → Wv p l e R s m args below meth c G A nL cells slots Q ws (pc + 3) lv (st)) : Wv p l e R s m args below meth c G A nL cells slots Q ws (pc) lv (.int x :: st) :=
  fun H locs ls hP hD hS hl => lv_if_ge h.1.1 h.1.2.1 d ht (fun q => kt q H locs ls hP hD hS hl) (fun q => kf q H locs ls hP hD hS hl)
theorem r_if_ge_t (h : Fx p m c s args meth own cc nL Ts G A) {x : Int32} {off : Int} {tgt : Nat} (d : decode cc pc = .ok (.ifCond .ge off, 3)) (ht : (pc : Int) + off = (tgt : Int)) (hc : 0 ≤ x) (k : Wv p l e R s m args below meth c G A nL cells slots Q ws (tgt) lv (st)) : Wv p l e R s m args below meth c G A nL cells slots Q ws (pc) lv (.int x :: st) :=
  r_if_ge h d ht (fun _ => k) (fun q => absurd hc q)
theorem r_if_ge_f (h : Fx p m c s args meth own cc nL Ts G A) {x : Int32} {off : Int} {tgt : Nat} (d : decode cc pc = .ok (.ifCond .ge off, 3)) (ht : (pc : Int) + off = (tgt : Int)) (hc : ¬ 0 ≤ x) (k : Wv p l e R s m args below meth c G A nL cells slots Q ws (pc + 3) lv (st)) : Wv p l e R s m args below meth c G A nL cells slots Q ws (pc) lv (.int x :: st) :=
  r_if_ge h d ht (fun q => absurd q hc) (fun _ => k)
theorem r_if_gt (h : Fx p m c s args meth own cc nL Ts G A) {x : Int32} {off : Int} {tgt : Nat} (d : decode cc pc = .ok (.ifCond .gt off, 3)) (ht : (pc : Int) + off = (tgt : Int)) (kt : 0 < x → Wv p l e R s m args below meth c G A nL cells slots Q ws (tgt) lv (st)) (kf : ¬ 0 < x → Wv p l e R s m args below meth c G A nL cells slots Q ws (pc + 3) lv (st)) : Wv p l e R s m args below meth c G A nL cells slots Q ws (pc) lv (.int x :: st) :=
  fun H locs ls hP hD hS hl => lv_if_gt h.1.1 h.1.2.1 d ht (fun q => kt q H locs ls hP hD hS hl) (fun q => kf q H locs ls hP hD hS hl)
theorem r_if_gt_t (h : Fx p m c s args meth own cc nL Ts G A) {x : Int32} {off : Int} {tgt : Nat} (d : decode cc pc = .ok (.ifCond .gt off, 3)) (ht : (pc : Int) + off = (tgt : Int)) (hc : 0 < x) (k : Wv p l e R s m args below meth c G A nL cells slots Q ws (tgt) lv (st)) : Wv p l e R s m args below meth c G A nL cells slots Q ws (pc) lv (.int x :: st) :=
  r_if_gt h d ht (fun _ => k) (fun q => absurd hc q)
theorem r_if_gt_f (h : Fx p m c s args meth own cc nL Ts G A) {x : Int32} {off : Int} {tgt : Nat} (d : decode cc pc = .ok (.ifCond .gt off, 3)) (ht : (pc : Int) + off = (tgt : Int)) (hc : ¬ 0 < x) (k : Wv p l e R s m args below meth c G A nL cells slots Q ws (pc + 3) lv (st)) : Wv p l e R s m args below meth c G A nL cells slots Q ws (pc) lv (.int x :: st) :=
  r_if_gt h d ht (fun q => absurd q hc) (fun _ => k)
theorem r_if_le (h : Fx p m c s args meth own cc nL Ts G A) {x : Int32} {off : Int} {tgt : Nat} (d : decode cc pc = .ok (.ifCond .le off, 3)) (ht : (pc : Int) + off = (tgt : Int)) (kt : x ≤ 0 → Wv p l e R s m args below meth c G A nL cells slots Q ws (tgt) lv (st)) (kf : ¬ x ≤ 0 → Wv p l e R s m args below meth c G A nL cells slots Q ws (pc + 3) lv (st)) : Wv p l e R s m args below meth c G A nL cells slots Q ws (pc) lv (.int x :: st) :=
  fun H locs ls hP hD hS hl => lv_if_le h.1.1 h.1.2.1 d ht (fun q => kt q H locs ls hP hD hS hl) (fun q => kf q H locs ls hP hD hS hl)
theorem r_if_le_t (h : Fx p m c s args meth own cc nL Ts G A) {x : Int32} {off : Int} {tgt : Nat} (d : decode cc pc = .ok (.ifCond .le off, 3)) (ht : (pc : Int) + off = (tgt : Int)) (hc : x ≤ 0) (k : Wv p l e R s m args below meth c G A nL cells slots Q ws (tgt) lv (st)) : Wv p l e R s m args below meth c G A nL cells slots Q ws (pc) lv (.int x :: st) :=
  r_if_le h d ht (fun _ => k) (fun q => absurd hc q)
theorem r_if_le_f (h : Fx p m c s args meth own cc nL Ts G A) {x : Int32} {off : Int} {tgt : Nat} (d : decode cc pc = .ok (.ifCond .le off, 3)) (ht : (pc : Int) + off = (tgt : Int)) (hc : ¬ x ≤ 0) (k : Wv p l e R s m args below meth c G A nL cells slots Q ws (pc + 3) lv (st)) : Wv p l e R s m args below meth c G A nL cells slots Q ws (pc) lv (.int x :: st) :=
  r_if_le h d ht (fun q => absurd q hc) (fun _ => k)
theorem r_icmp_eq (h : Fx p m c s args meth own cc nL Ts G A) {x y : Int32} {off : Int} {tgt : Nat} (d : decode cc pc = .ok (.if_icmp .eq off, 3)) (ht : (pc : Int) + off = (tgt : Int)) (kt : x = y → Wv p l e R s m args below meth c G A nL cells slots Q ws (tgt) lv (st)) (kf : ¬ x = y → Wv p l e R s m args below meth c G A nL cells slots Q ws (pc + 3) lv (st)) : Wv p l e R s m args below meth c G A nL cells slots Q ws (pc) lv (.int y :: .int x :: st) :=
  fun H locs ls hP hD hS hl => lv_icmp_eq h.1.1 h.1.2.1 d ht (fun q => kt q H locs ls hP hD hS hl) (fun q => kf q H locs ls hP hD hS hl)
theorem r_icmp_eq_t (h : Fx p m c s args meth own cc nL Ts G A) {x y : Int32} {off : Int} {tgt : Nat} (d : decode cc pc = .ok (.if_icmp .eq off, 3)) (ht : (pc : Int) + off = (tgt : Int)) (hc : x = y) (k : Wv p l e R s m args below meth c G A nL cells slots Q ws (tgt) lv (st)) : Wv p l e R s m args below meth c G A nL cells slots Q ws (pc) lv (.int y :: .int x :: st) :=
  r_icmp_eq h d ht (fun _ => k) (fun q => absurd hc q)
theorem r_icmp_eq_f (h : Fx p m c s args meth own cc nL Ts G A) {x y : Int32} {off : Int} {tgt : Nat} (d : decode cc pc = .ok (.if_icmp .eq off, 3)) (ht : (pc : Int) + off = (tgt : Int)) (hc : ¬ x = y) (k : Wv p l e R s m args below meth c G A nL cells slots Q ws (pc + 3) lv (st)) : Wv p l e R s m args below meth c G A nL cells slots Q ws (pc) lv (.int y :: .int x :: st) :=
  r_icmp_eq h d ht (fun q => absurd q hc) (fun _ => k)
theorem r_icmp_ne (h : Fx p m c s args meth own cc nL Ts G A) {x y : Int32} {off : Int} {tgt : Nat} (d : decode cc pc = .ok (.if_icmp .ne off, 3)) (ht : (pc : Int) + off = (tgt : Int)) (kt : ¬ x = y → Wv p l e R s m args below meth c G A nL cells slots Q ws (tgt) lv (st)) (kf : x = y → Wv p l e R s m args below meth c G A nL cells slots Q ws (pc + 3) lv (st)) : Wv p l e R s m args below meth c G A nL cells slots Q ws (pc) lv (.int y :: .int x :: st) :=
  fun H locs ls hP hD hS hl => lv_icmp_ne h.1.1 h.1.2.1 d ht (fun q => kt q H locs ls hP hD hS hl) (fun q => kf q H locs ls hP hD hS hl)
theorem r_icmp_ne_t (h : Fx p m c s args meth own cc nL Ts G A) {x y : Int32} {off : Int} {tgt : Nat} (d : decode cc pc = .ok (.if_icmp .ne off, 3)) (ht : (pc : Int) + off = (tgt : Int)) (hc : ¬ x = y) (k : Wv p l e R s m args below meth c G A nL cells slots Q ws (tgt) lv (st)) : Wv p l e R s m args below meth c G A nL cells slots Q ws (pc) lv (.int y :: .int x :: st) :=
  r_icmp_ne h d ht (fun _ => k) (fun q => absurd q hc)
theorem r_icmp_ne_f (h : Fx p m c s args meth own cc nL Ts G A) {x y : Int32} {off : Int} {tgt : Nat} (d : decode cc pc = .ok (.if_icmp .ne off, 3)) (ht : (pc : Int) + off = (tgt : Int)) (hc : x = y) (k : Wv p l e R s m args below meth c G A nL cells slots Q ws (pc + 3) lv (st)) : Wv p l e R s m args below meth c G A nL cells slots Q ws (pc) lv (.int y :: .int x :: st) :=
  r_icmp_ne h d ht (fun q => absurd hc q) (fun _ => k)
theorem r_icmp_lt (h : Fx p m c s args meth own cc nL Ts G A) {x y : Int32} {off : Int} {tgt : Nat} (d : decode cc pc = .ok (.if_icmp .lt off, 3)) (ht : (pc : Int) + off = (tgt : Int)) (kt : x < y → Wv p l e R s m args below meth c G A nL cells slots Q ws (tgt) lv (st)) (kf : ¬ x < y → Wv p l e R s m args below meth c G A nL cells slots Q ws (pc + 3) lv (st)) : Wv p l e R s m args below meth c G A nL cells slots Q ws (pc) lv (.int y :: .int x :: st) :=
  fun H locs ls hP hD hS hl => lv_icmp_lt h.1.1 h.1.2.1 d ht (fun q => kt q H locs ls hP hD hS hl) (fun q => kf q H locs ls hP hD hS hl)
theorem r_icmp_lt_t (h : Fx p m c s args meth own cc nL Ts G A) {x y : Int32} {off : Int} {tgt : Nat} (d : decode cc pc = .ok (.if_icmp .lt off, 3)) (ht : (pc : Int) + off = (tgt : Int)) (hc : x < y) (k : Wv p l e R s m args below meth c G A nL cells slots Q ws (tgt) lv (st)) : Wv p l e R s m args below meth c G A nL cells slots Q ws (pc) lv (.int y :: .int x :: st) :=
  r_icmp_lt h d ht (fun _ => k) (fun q => absurd hc q)
theorem r_icmp_lt_f (h : Fx p m c s args meth own cc nL Ts G A) {x y : Int32} {off : Int} {tgt : Nat} (d : decode cc pc = .ok (.if_icmp .lt off, 3)) (ht : (pc : Int) + off = (tgt : Int)) (hc : ¬ x < y) (k : Wv p l e R s m args below meth c G A nL cells slots Q ws (pc + 3) lv (st)) : Wv p l e R s m args below meth c G A nL cells slots Q ws (pc) lv (.int y :: .int x :: st) :=
  r_icmp_lt h d ht (fun q => absurd q hc) (fun _ => k)
theorem r_icmp_ge (h : Fx p m c s args meth own cc nL Ts G A) {x y : Int32} {off : Int} {tgt : Nat} (d : decode cc pc = .ok (.if_icmp .ge off, 3)) (ht : (pc : Int) + off = (tgt : Int)) (kt : y ≤ x → Wv p l e R s m args below meth c G A nL cells slots Q ws (tgt) lv (st)) (kf : ¬ y ≤ x → Wv p l e R s m args below meth c G A nL cells slots Q ws (pc + 3) lv (st)) : Wv p l e R s m args below meth c G A nL cells slots Q ws (pc) lv (.int y :: .int x :: st) :=
  fun H locs ls hP hD hS hl => lv_icmp_ge h.1.1 h.1.2.1 d ht (fun q => kt q H locs ls hP hD hS hl) (fun q => kf q H locs ls hP hD hS hl)
theorem r_icmp_ge_t (h : Fx p m c s args meth own cc nL Ts G A) {x y : Int32} {off : Int} {tgt : Nat} (d : decode cc pc = .ok (.if_icmp .ge off, 3)) (ht : (pc : Int) + off = (tgt : Int)) (hc : y ≤ x) (k : Wv p l e R s m args below meth c G A nL cells slots Q ws (tgt) lv (st)) : Wv p l e R s m args below meth c G A nL cells slots Q ws (pc) lv (.int y :: .int x :: st) :=
  r_icmp_ge h d ht (fun _ => k) (fun q => absurd hc q)
theorem r_icmp_ge_f (h : Fx p m c s args meth own cc nL Ts G A) {x y : Int32} {off : Int} {tgt : Nat} (d : decode cc pc = .ok (.if_icmp .ge off, 3)) (ht : (pc : Int) + off = (tgt : Int)) (hc : ¬ y ≤ x) (k : Wv p l e R s m args below meth c G A nL cells slots Q ws (pc + 3) lv (st)) : Wv p l e R s m args below meth c G A nL cells slots Q ws (pc) lv (.int y :: .int x :: st) :=
  r_icmp_ge h d ht (fun q => absurd q hc) (fun _ => k)
theorem r_icmp_gt (h : Fx p m c s args meth own cc nL Ts G A) {x y : Int32} {off : Int} {tgt : Nat} (d : decode cc pc = .ok (.if_icmp .gt off, 3)) (ht : (pc : Int) + off = (tgt : Int)) (kt : y < x → Wv p l e R s m args below meth c G A nL cells slots Q ws (tgt) lv (st)) (kf : ¬ y < x → Wv p l e R s m args below meth c G A nL cells slots Q ws (pc + 3) lv (st)) : Wv p l e R s m args below meth c G A nL cells slots Q ws (pc) lv (.int y :: .int x :: st) :=
  fun H locs ls hP hD hS hl => lv_icmp_gt h.1.1 h.1.2.1 d ht (fun q => kt q H locs ls hP hD hS hl) (fun q => kf q H locs ls hP hD hS hl)
theorem r_icmp_gt_t (h : Fx p m c s args meth own cc nL Ts G A) {x y : Int32} {off : Int} {tgt : Nat} (d : decode cc pc = .ok (.if_icmp .gt off, 3)) (ht : (pc : Int) + off = (tgt : Int)) (hc : y < x) (k : Wv p l e R s m args below meth c G A nL cells slots Q ws (tgt) lv (st)) : Wv p l e R s m args below meth c G A nL cells slots Q ws (pc) lv (.int y :: .int x :: st) :=
  r_icmp_gt h d ht (fun _ => k) (fun q => absurd hc q)
theorem r_icmp_gt_f (h : Fx p m c s args meth own cc nL Ts G A) {x y : Int32} {off : Int} {tgt : Nat} (d : decode cc pc = .ok (.if_icmp .gt off, 3)) (ht : (pc : Int) + off = (tgt : Int)) (hc : ¬ y < x) (k : Wv p l e R s m args below meth c G A nL cells slots Q ws (pc + 3) lv (st)) : Wv p l e R s m args below meth c G A nL cells slots Q ws (pc) lv (.int y :: .int x :: st) :=
  r_icmp_gt h d ht (fun q => absurd q hc) (fun _ => k)
theorem r_icmp_le (h : Fx p m c s args meth own cc nL Ts G A) {x y : Int32} {off : Int} {tgt : Nat} (d : decode cc pc = .ok (.if_icmp .le off, 3)) (ht : (pc : Int) + off = (tgt : Int)) (kt : x ≤ y → Wv p l e R s m args below meth c G A nL cells slots Q ws (tgt) lv (st)) (kf : ¬ x ≤ y → Wv p l e R s m args below meth c G A nL cells slots Q ws (pc + 3) lv (st)) : Wv p l e R s m args below meth c G A nL cells slots Q ws (pc) lv (.int y :: .int x :: st) :=
  fun H locs ls hP hD hS hl => lv_icmp_le h.1.1 h.1.2.1 d ht (fun q => kt q H locs ls hP hD hS hl) (fun q => kf q H locs ls hP hD hS hl)
theorem r_icmp_le_t (h : Fx p m c s args meth own cc nL Ts G A) {x y : Int32} {off : Int} {tgt : Nat} (d : decode cc pc = .ok (.if_icmp .le off, 3)) (ht : (pc : Int) + off = (tgt : Int)) (hc : x ≤ y) (k : Wv p l e R s m args below meth c G A nL cells slots Q ws (tgt) lv (st)) : Wv p l e R s m args below meth c G A nL cells slots Q ws (pc) lv (.int y :: .int x :: st) :=
  r_icmp_le h d ht (fun _ => k) (fun q => absurd hc q)
theorem r_icmp_le_f (h : Fx p m c s args meth own cc nL Ts G A) {x y : Int32} {off : Int} {tgt : Nat} (d : decode cc pc = .ok (.if_icmp .le off, 3)) (ht : (pc : Int) + off = (tgt : Int)) (hc : ¬ x ≤ y) (k : Wv p l e R s m args below meth c G A nL cells slots Q ws (pc + 3) lv (st)) : Wv p l e R s m args below meth c G A nL cells slots Q ws (pc) lv (.int y :: .int x :: st) :=
  r_icmp_le h d ht (fun q => absurd q hc) (fun _ => k)
theorem r_goto (h : Fx p m c s args meth own cc nL Ts G A) {off : Int} {tgt : Nat} (d : decode cc pc = .ok (.goto off, 3)) (ht : (pc : Int) + off = (tgt : Int)) (k : Wv p l e R s m args below meth c G A nL cells slots Q ws (tgt) lv (st)) : Wv p l e R s m args below meth c G A nL cells slots Q ws (pc) lv (st) :=
  fun H locs ls hP hD hS hl => lv_goto h.1.1 h.1.2.1 d ht (k H locs ls hP hD hS hl)
-- arrays
theorem r_laload (h : Fx p m c s args meth own cc nL Ts G A) (q0 : Nat) {a n : Nat} {f : Nat → Int64} {i : Int32} {z : Int64} (j : Nat) (d : decode cc pc = .ok (.laload, 1)) (ha : ws[q0]? = some (a, .inl (G.2 1, n, .inr (.inl f)))) (hi : i = nI j) (hj : j < n) (hn : n < 2 ^ 31) (e1 : f j = z) (k : Wv p l e R s m args below meth c G A nL cells slots Q ws (pc + 1) lv (.long z :: st)) : Wv p l e R s m args below meth c G A nL cells slots Q ws pc lv (.int i :: .ref a :: st) := by
  subst hi
  intro H locs ls hP hD hS hl
  refine va_lald h.1.1 h.1.2.1 h.2.1 hP q0 1 ha rfl (vp_in_nI hj hn) d ?_
  rw [nI_clamp (Nat.lt_trans hj hn), e1]
  exact k H locs ls hP hD hS hl
theorem r_iaload (h : Fx p m c s args meth own cc nL Ts G A) (q0 : Nat) {a n : Nat} {f : Nat → Int32} {i : Int32} {z : Int32} (j : Nat) (d : decode cc pc = .ok (.iaload, 1)) (ha : ws[q0]? = some (a, .inl (G.2 0, n, .inl f))) (hi : i = nI j) (hj : j < n) (hn : n < 2 ^ 31) (e1 : f j = z) (k : Wv p l e R s m args below meth c G A nL cells slots Q ws (pc + 1) lv (.int z :: st)) : Wv p l e R s m args below meth c G A nL cells slots Q ws pc lv (.int i :: .ref a :: st) := by
  subst hi
  intro H locs ls hP hD hS hl
  refine va_iald h.1.1 h.1.2.1 h.2.1 hP q0 0 ha rfl (vp_in_nI hj hn) d ?_
  rw [nI_clamp (Nat.lt_trans hj hn), e1]
  exact k H locs ls hP hD hS hl
theorem r_baload (h : Fx p m c s args meth own cc nL Ts G A) (q0 : Nat) {a n : Nat} {f : Nat → Int32} {i : Int32} {z : Int32} (j : Nat) (d : decode cc pc = .ok (.baload, 1)) (ha : ws[q0]? = some (a, .inl (G.2 2, n, .inl f))) (hi : i = nI j) (hj : j < n) (hn : n < 2 ^ 31) (e1 : f j = z) (k : Wv p l e R s m args below meth c G A nL cells slots Q ws (pc + 1) lv (.int z :: st)) : Wv p l e R s m args below meth c G A nL cells slots Q ws pc lv (.int i :: .ref a :: st) := by
  subst hi
  intro H locs ls hP hD hS hl
  refine va_zald h.1.1 h.1.2.1 h.2.1 hP q0 2 ha rfl (vp_in_nI hj hn) d ?_
  rw [nI_clamp (Nat.lt_trans hj hn), e1]
  exact k H locs ls hP hD hS hl
theorem r_aaload (h : Fx p m c s args meth own cc nL Ts G A) (q0 t0 : Nat) {ty : FieldType} {cA : ClassId} {a n y : Nat} {f : Nat → Option Nat} {i : Int32} (j : Nat) (d : decode cc pc = .ok (.aaload, 1)) (ha : ws[q0]? = some (a, .inl (cA, n, .inr (.inr (.inr (.inr f)))))) (ht : (gT G)[t0]? = some (cA, ty)) (hty : ty.isReference = true) (hi : i = nI j) (hj : j < n) (hn : n < 2 ^ 31) (e1 : f j = some y) (k : Wv p l e R s m args below meth c G A nL cells slots Q ws (pc + 1) lv (.ref y :: st)) : Wv p l e R s m args below meth c G A nL cells slots Q ws pc lv (.int i :: .ref a :: st) := by
  subst hi
  intro H locs ls hP hD hS hl
  have hin := vp_in_nI hj hn
  have hcl := nI_clamp (Nat.lt_trans hj hn)
  refine W.aald (v := .ref y) (ty := ty) h.1.1 h.1.2.1 (hP q0 _ ha) ((h.2.1.2 t0 _ ht).1 n (fun j => va_rf (f j))) hty (fun q => by cases q) (by show ¬ (nI j < 0 ∨ (arrV _ _ _).slots.size ≤ _); rw [arrV_size]; exact hin) ?_ rfl rfl d (k H locs ls hP hD hS hl)
  show (arrV _ _ _).slots[_]? = _
  rw [hcl, arrV_read _ _ hj, e1]
  rfl
theorem r_lastore (h : Fx p m c s args meth own cc nL Ts G A) (q0 : Nat) {a n : Nat} {f : Nat → Int64} {i : Int32} {x : Int64} (j : Nat) (d : decode cc pc = .ok (.lastore, 1)) (ha : ws[q0]? = some (a, .inl (G.2 1, n, .inr (.inl f)))) (hi : i = nI j) (hj : j < n) (hn : n < 2 ^ 31) (hw : ws.set q0 (a, .inl (G.2 1, n, .inr (.inl (vp_updL f j x)))) = ws') (k : Wv p l e R s m args below meth c G A nL cells slots Q ws' (pc + 1) lv st) : Wv p l e R s m args below meth c G A nL cells slots Q ws pc lv (.long x :: .int i :: .ref a :: st) := by
  subst hi
  intro H locs ls hP hD hS hl
  refine va_last h.1.1 h.1.2.1 h.2.1 hP hD hS q0 1 ha rfl (vp_in_nI hj hn) d ?_
  rw [nI_clamp (Nat.lt_trans hj hn), hw]
  exact fun H1 locs1 hP1 hD1 hS1 => k H1 locs1 ls hP1 hD1 hS1 hl
theorem r_iastore (h : Fx p m c s args meth own cc nL Ts G A) (q0 : Nat) {a n : Nat} {f : Nat → Int32} {i : Int32} {x : Int32} (j : Nat) (d : decode cc pc = .ok (.iastore, 1)) (ha : ws[q0]? = some (a, .inl (G.2 0, n, .inl f))) (hi : i = nI j) (hj : j < n) (hn : n < 2 ^ 31) (hw : ws.set q0 (a, .inl (G.2 0, n, .inl (upd f j x))) = ws') (k : Wv p l e R s m args below meth c G A nL cells slots Q ws' (pc + 1) lv st) : Wv p l e R s m args below meth c G A nL cells slots Q ws pc lv (.int x :: .int i :: .ref a :: st) := by
  subst hi
  intro H locs ls hP hD hS hl
  refine va_iast h.1.1 h.1.2.1 h.2.1 hP hD hS q0 0 ha rfl (vp_in_nI hj hn) d ?_
  rw [nI_clamp (Nat.lt_trans hj hn), hw]
  exact fun H1 locs1 hP1 hD1 hS1 => k H1 locs1 ls hP1 hD1 hS1 hl
theorem r_bastore (h : Fx p m c s args meth own cc nL Ts G A) (q0 : Nat) {a n : Nat} {f : Nat → Int32} {i : Int32} {x : Int32} (j : Nat) (d : decode cc pc = .ok (.bastore, 1)) (ha : ws[q0]? = some (a, .inl (G.2 2, n, .inl f))) (hi : i = nI j) (hj : j < n) (hn : n < 2 ^ 31) (hx : vp_nar .boolean x = x) (hw : ws.set q0 (a, .inl (G.2 2, n, .inl (upd f j x))) = ws') (k : Wv p l e R s m args below meth c G A nL cells slots Q ws' (pc + 1) lv st) : Wv p l e R s m args below meth c G A nL cells slots Q ws pc lv (.int x :: .int i :: .ref a :: st) := by
  subst hi
  intro H locs ls hP hD hS hl
  refine va_zast h.1.1 h.1.2.1 h.2.1 hP hD hS q0 2 ha rfl (vp_in_nI hj hn) d ?_
  rw [nI_clamp (Nat.lt_trans hj hn), hx, hw]
  exact fun H1 locs1 hP1 hD1 hS1 => k H1 locs1 ls hP1 hD1 hS1 hl
-- fields
theorem r_get (h : Fx p m c s args meth own cc nL Ts G A) (q0 k0 : Nat) {a ci N idx : Nat} {fs : List Value} {C : String} {T : u_T} {v : Value} (d : decode cc pc = .ok (.getfield idx, 3)) (he : ws[q0]? = some (a, .inr (ci, fs))) (hc : cls[ci]? = some (C, T, N)) (hk : k0 < N) (hin : ∀ w ∈ u_ws C T N, w ∈ Ts) (hlink : Cond.fieldLink own idx (T k0).1 (T k0).2.1 (T k0).2.2.1 ∈ Ts) (hv : fs[k0]? = some v) (k : Wv p l e R s m args below meth c G A nL cells slots Q ws (pc + 3) lv (v :: st)) : Wv p l e R s m args below meth c G A nL cells slots Q ws pc lv (.ref a :: st) :=
  fun H locs ls hP hD hS hl => va_get (D := G.1) (C := C) (T := T) (N := N) h.1.1 h.1.2.1 h.1.2.2.2.2 hin h.1.2.2.2.1 h.2.1 hP q0 he hc k0 hk (h.1.2.2.2.2 _ hlink) (fun _ h9 => h9) hv d (k H locs ls hP hD hS hl)
theorem r_getN (h : Fx p m c s args meth own cc nL Ts G A) (q0 k0 : Nat) {a ci N idx : Nat} {host : String} {fs : List Value} {C : String} {T : u_T} {v : Value} (d : decode cc pc = .ok (.getfield idx, 3)) (he : ws[q0]? = some (a, .inr (ci, fs))) (hc : cls[ci]? = some (C, T, N)) (hk : k0 < N) (hin : ∀ w ∈ u_ws C T N, w ∈ Ts) (hlink : Cond.fieldLinkNest own idx (T k0).1 (T k0).2.1 (T k0).2.2.1 host ∈ Ts) (hv : fs[k0]? = some v) (k : Wv p l e R s m args below meth c G A nL cells slots Q ws (pc + 3) lv (v :: st)) : Wv p l e R s m args below meth c G A nL cells slots Q ws pc lv (.ref a :: st) :=
  fun H locs ls hP hD hS hl => va_getN (D := G.1) (C := C) (T := T) (N := N) h.1.1 h.1.2.1 h.1.2.2.2.2 hin h.1.2.2.2.1 h.2.1 hP q0 he hc k0 hk (h.1.2.2.2.2 _ hlink) (fun _ h9 => h9) hv d (k H locs ls hP hD hS hl)
theorem r_put (h : Fx p m c s args meth own cc nL Ts G A) (q0 k0 : Nat) {a ci N idx : Nat} {fs : List Value} {C : String} {T : u_T} {ty : FieldType} {v : Value} (ty0 : Nat → FieldType) (hty : ∀ k, k < N → parseFieldDescriptor (T k).2.2.1 = some (ty0 k)) (hnm : ∀ a, a < N → ∀ b, b < N → a ≠ b → (T a).2.1 ≠ (T b).2.1) (d : decode cc pc = .ok (.putfield idx, 3)) (he : ws[q0]? = some (a, .inr (ci, fs))) (hc : cls[ci]? = some (C, T, N)) (hk : k0 < N) (hin : ∀ w ∈ u_ws C T N, w ∈ Ts) (hlink : Cond.fieldLink own idx (T k0).1 (T k0).2.1 (T k0).2.2.1 ∈ Ts) (hfin : (T k0).2.2.2 = false) (ht : parseFieldDescriptor (T k0).2.2.1 = some ty) (hn : narrow ty v = v) (hfit : fits ty v = true) (hlen : k0 < fs.length) (hw : ws.set q0 (a, .inr (ci, fs.set k0 v)) = ws') (k : Wv p l e R s m args below meth c G A nL cells slots Q ws' (pc + 3) lv st) : Wv p l e R s m args below meth c G A nL cells slots Q ws pc lv (v :: .ref a :: st) := by
  intro H locs ls hP hD hS hl
  refine va_put (D := G.1) (C := C) (T := T) (N := N) h.1.1 h.1.2.1 h.1.2.2.2.2 hin ty0 hty hnm h.1.2.2.2.1 h.2.1 hP hD hS q0 he hc k0 hk (h.1.2.2.2.2 _ hlink) (fun _ h9 => h9) hfin ht hn hfit hlen d ?_
  rw [hw]
  exact fun H1 locs1 hP1 hD1 hS1 => k H1 locs1 ls hP1 hD1 hS1 hl
-- the table of places
theorem r_gets (h : Fx p m c s args meth own cc nL Ts G A) {idx : Nat} (d : decode cc pc = .ok (.getstatic idx, 3)) (hlink : Cond.fieldLink own idx "DiagramBench" "TRUE_PLACES" "[J" ∈ Ts) (k : ∀ t : Nat, va_T .long t 6 tpV A s s.heap → Wv p l e R s m args below meth c G A nL cells slots Q ws (pc + 3) lv (.ref t :: st)) : Wv p l e R s m args below meth c G A nL cells slots Q ws pc lv st := by
  intro H locs ls hP hD hS hl
  obtain ⟨t, hZ, hT⟩ := h.2.2.1.1
  exact va_gets h.1.1 h.1.2.1 hZ hS h.1.2.2.2.1 (h.1.2.2.2.2 _ hlink) (fun _ h9 => h9) d (k t hT H locs ls hP hD hS hl)
theorem r_tl (h : Fx p m c s args meth own cc nL Ts G A) {t : Nat} (hT : va_T .long t 6 tpV A s s.heap) {i : Int32} {v : Value} (j : Nat) (d : decode cc pc = .ok (.laload, 1)) (hi : i = nI j) (hj : j < 6) (hv : tpV j = v) (k : Wv p l e R s m args below meth c G A nL cells slots Q ws (pc + 1) lv (v :: st)) : Wv p l e R s m args below meth c G A nL cells slots Q ws pc lv (.int i :: .ref t :: st) := by
  subst hi
  intro H locs ls hP hD hS hl
  exact va_tl h.1.1 h.1.2.1 hT hS (vp_in_nI hj (by decide)) (by rw [nI_clamp (Nat.lt_trans hj (by decide))]; exact hv) d (k H locs ls hP hD hS hl)
-- arraycopy
theorem r_copyl (h : Fx p m c s args meth own cc nL Ts G A) (q0 q1 : Nat) {a a0 n0 n1 : Nat} {f g : Nat → Int64} {sp dp n : Int32} (N : Nat) {idx : Nat} (d : decode cc pc = .ok (.invokestatic idx, 3)) (hlink : Cond.methodLink own idx arraycopyName ∈ Ts) (hnat : Cond.native arraycopyName ∈ Ts) (hstat : Cond.static arraycopyName ∈ Ts) (hini : Cond.initialized "java/lang/System" ∈ Ts) (ha0 : ws[q0]? = some (a0, .inl (G.2 1, n0, .inr (.inl f)))) (ha1 : ws[q1]? = some (a, .inl (G.2 1, n1, .inr (.inl g)))) (hsp : sp = 0) (hdp : dp = 0) (hN : n = nI N) (hN31 : N < 2 ^ 31) (h4 : N ≤ n0) (h5 : N ≤ n1) (hframes : 1 ≤ R.frames) (hlocals : (st.map fun v => v.category).sum + (nativeFrameWords "java/lang/System" "arraycopy" 5 + 11) ≤ R.locals) (hw : ws.set q1 (a, .inl (G.2 1, n1, .inr (.inl (va_cpy f g 0 0 N)))) = ws') (k : Wv p l e R s m args below meth c G A nL cells slots Q ws' (pc + 3) lv st) : Wv p l e R s m args below meth c G A nL cells slots Q ws pc lv (.int n :: .int dp :: .ref a :: .int sp :: .ref a0 :: st) := by
  subst hsp; subst hdp; subst hN
  intro H locs ls hP hD hS hl
  have z0 : (0 : Int32).toNatClampNeg = 0 := by decide
  have hcl := nI_clamp hN31
  refine va_copyl h.1.1 h.1.2.1 (h.1.2.2.1.trans hl.1.symm) h.1.2.2.2.1 (h.1.2.2.2.2 _ hlink) (h.1.2.2.2.2 _ hnat) (h.1.2.2.2.2 _ hstat) (h.1.2.2.2.2 _ hini) h.2.1 hP hD hS q0 q1 1 1 ha0 ha1 rfl rfl rfl (by decide) (by decide) (nI_pos hN31) (by rw [z0, hcl]; omega) (by rw [z0, hcl]; omega) (fun i hi => rfl) hframes hlocals d ?_
  rw [z0, hcl, hw]
  exact fun H1 locs1 hP1 hD1 hS1 => k H1 locs1 ls hP1 hD1 hS1 hl
theorem r_copyz (h : Fx p m c s args meth own cc nL Ts G A) (q0 q1 : Nat) {a a0 n0 n1 : Nat} {f g : Nat → Int32} {sp dp n : Int32} (N : Nat) {idx : Nat} (d : decode cc pc = .ok (.invokestatic idx, 3)) (hlink : Cond.methodLink own idx arraycopyName ∈ Ts) (hnat : Cond.native arraycopyName ∈ Ts) (hstat : Cond.static arraycopyName ∈ Ts) (hini : Cond.initialized "java/lang/System" ∈ Ts) (ha0 : ws[q0]? = some (a0, .inl (G.2 2, n0, .inl f))) (ha1 : ws[q1]? = some (a, .inl (G.2 2, n1, .inl g))) (hsp : sp = 0) (hdp : dp = 0) (hN : n = nI N) (hN31 : N < 2 ^ 31) (h4 : N ≤ n0) (h5 : N ≤ n1) (hfit : ∀ i, i < N → fits .boolean (.int (f i)) = true) (hframes : 1 ≤ R.frames) (hlocals : (st.map fun v => v.category).sum + (nativeFrameWords "java/lang/System" "arraycopy" 5 + 11) ≤ R.locals) (hw : ws.set q1 (a, .inl (G.2 2, n1, .inl (va_cpy f g 0 0 N))) = ws') (k : Wv p l e R s m args below meth c G A nL cells slots Q ws' (pc + 3) lv st) : Wv p l e R s m args below meth c G A nL cells slots Q ws pc lv (.int n :: .int dp :: .ref a :: .int sp :: .ref a0 :: st) := by
  subst hsp; subst hdp; subst hN
  intro H locs ls hP hD hS hl
  have z0 : (0 : Int32).toNatClampNeg = 0 := by decide
  have hcl := nI_clamp hN31
  refine va_copyi h.1.1 h.1.2.1 (h.1.2.2.1.trans hl.1.symm) h.1.2.2.2.1 (h.1.2.2.2.2 _ hlink) (h.1.2.2.2.2 _ hnat) (h.1.2.2.2.2 _ hstat) (h.1.2.2.2.2 _ hini) h.2.1 hP hD hS q0 q1 2 2 ha0 ha1 rfl rfl rfl (by decide) (by decide) (nI_pos hN31) (by rw [z0, hcl]; omega) (by rw [z0, hcl]; omega) (fun i hi => by rw [z0, Nat.zero_add]; exact hfit i (by rw [hcl] at hi; exact hi)) hframes hlocals d ?_
  rw [z0, hcl, hw]
  exact fun H1 locs1 hP1 hD1 hS1 => k H1 locs1 ls hP1 hD1 hS1 hl
-- calls that return
theorem r_core {mc ms : Nat} {H : Heap} {locs : List Loc} {ls : Array Slot} {st0 : List Value} {v : Option Value} {a : Array Value} {A1 : Nat → Prop} (hr : va_Run p l e R s m args below meth c H locs cells slots mc ms (F0 m pc ls st0) st (QC G A1 v ws' a) A1) (hS : va_S A s.heap H locs) (hA : ∀ q, A1 q → A q)
    (kk : ∀ (H1 : Heap) (locs1 : List Loc), va_P G.1 cls ws' H1 → va_S A s.heap H1 locs1 → W p l e R s m args below meth c H1 locs1 (cells + mc) (slots + ms) Q (F0 m (pc + 3) ls (v.toList ++ st))) : W p l e R s m args below meth c H locs cells slots Q (F0 m pc ls st0) := by
  intro T hT X
  obtain ⟨w, st₀, t, T', L, h0, X', hL, e1, e2, ⟨hv, hp, hz, hk⟩, hst⟩ := hr T hT X
  cases hv
  rw [h0] at hz hk
  obtain ⟨t2, a1, b1⟩ := kk T'.heap (locs ++ L) (by rw [e1]; exact hp)
    ⟨Nat.le_trans hS.1 (by rw [e1]; exact hz), fun q h1 h2 => by rw [e1, hk q (Nat.lt_of_lt_of_le h1 hS.1) (fun z => h2 (hA q z))]; exact hS.2.1 q h1 h2, fun q hq => by
      rcases List.mem_append.mp hq with h | h
      · exact hS.2.2 q h
      · exact hA _ (hL q h)⟩ T' rfl X'
  exact ⟨t2, hst t2 a1, b1⟩
theorem Fx.adr (h : Fx p m c s args meth own cc nL Ts G A) {H : Heap} {locs : List Loc} (hD : va_D A ws) (hS : va_S A s.heap H locs) : ∀ q, va_A ws H.size q → A q :=
  fun q hq => hq.elim (fun ⟨k, e, hk⟩ => hD.2 k _ hk) (fun hq => h.2.2.2.1 q (Nat.le_trans hS.1 hq))
theorem Fx.pre (h : Fx p m c s args meth own cc nL Ts G A) {As : List Value} {H : Heap} {locs : List Loc} (hP : va_P G.1 cls ws H) (hD : va_D A ws) (hS : va_S A s.heap H locs) : ∀ U : State, U.heap = H → s.WarmedH U.vm → va_Pc As (Pu G (va_A ws H.size) ws H.size) As.toArray U :=
  fun U hU hW => ⟨rfl, by rw [hU], by rw [hU]; exact hP, va_K.moved hW.alike h.2.1, hD.self, by rw [hU]; exact ((h.2.2.1.kept hS.2.1).narrow (h.adr hD hS)).warm hW⟩
theorem r_invS (h : Fx p m c s args meth own cc nL Ts G A) {y : MethodName} {w : List Cond} {rm : Room} {As st0 : List Value} {v : Option Value} {idx maxL n : Nat} {bytes : ByteArray} {ret : Option FieldType} (d : decode cc pc = .ok (.invokestatic idx, 3)) (hC : Ct l y w rm G As ws v ws') (cw : CallB R s args own idx y bytes maxL ret w rm 0 0 n ∧ (Cond.static y).before args s = true) (hn : As.length = n) (hst : st0 = As.reverse ++ st) (hcat : (st.map fun v => v.category).sum ≤ 8) (hcs : cells + 0 ≤ R.cells ∧ slots + 0 ≤ R.slots) (hadr : ws'.map Prod.fst = ws.map Prod.fst) (k : Wv p l e R s m args below meth c G A nL cells slots Q ws' (pc + 3) lv (v.toList ++ st)) : Wv p l e R s m args below meth c G A nL cells slots Q ws pc lv st0 := by
  intro H locs ls hP hD hS hl
  exact r_core (va_runS (As := As) (rest := st) h.1 (hC H.size) cw ⟨Pu.blind, h.pre hP hD hS⟩ rfl hn hl.1 hst (lv_room hcat) d hcs) hS (h.adr hD hS) (fun H1 locs1 hP1 hS1 => k H1 locs1 ls hP1 (va_Dsame hadr hD) hS1 hl)
theorem Fx.recv (h : Fx p m c s args meth own cc nL Ts G A) {H : Heap} {q0 a ci : Nat} {q : vw_C} {fs : List Value} (hP : va_P G.1 cls ws H) (hc : cls[ci]? = some q) (he : ws[q0]? = some (a, .inr (ci, fs))) : ∃ cell : Cell, H[a]? = some cell ∧ cell.vm.isStatics = false ∧ s.vm.findClass q.1 = some cell.cls := va_recv h.2.1 hP hc he
theorem r_invV (h : Fx p m c s args meth own cc nL Ts G A) (q0 : Nat) {b ci : Nat} {fs : List Value} {q : vw_C} {y : MethodName} {w : List Cond} {rm : Room} {As st0 : List Value} {v : Option Value} {idx maxL n : Nat} {bytes : ByteArray} {ret : Option FieldType} (d : decode cc pc = .ok (.invokevirtual idx, 3)) (hC : Ct l y w rm G (.ref b :: As) ws v ws') (cw : CallW R s args own q.1 idx y bytes maxL ret w rm 0 0 n) (he : ws[q0]? = some (b, .inr (ci, fs))) (hc : cls[ci]? = some q) (hn : As.length = n) (hst : st0 = As.reverse ++ .ref b :: st) (hcat : (st.map fun v => v.category).sum ≤ 8) (hcs : cells + 0 ≤ R.cells ∧ slots + 0 ≤ R.slots) (hadr : ws'.map Prod.fst = ws.map Prod.fst) (k : Wv p l e R s m args below meth c G A nL cells slots Q ws' (pc + 3) lv (v.toList ++ st)) : Wv p l e R s m args below meth c G A nL cells slots Q ws pc lv st0 := by
  intro H locs ls hP hD hS hl
  exact r_core (va_runV (As := As) (rest := st) h.1 (hC H.size) cw ⟨Pu.blind, h.recv hP hc he, h.pre hP hD hS⟩ rfl hn hl.1 hst (lv_room hcat) d hcs) hS (h.adr hD hS) (fun H1 locs1 hP1 hS1 => k H1 locs1 ls hP1 (va_Dsame hadr hD) hS1 hl)
theorem r_invVN (h : Fx p m c s args meth own cc nL Ts G A) (q0 : Nat) {b ci : Nat} {fs : List Value} {host : String} {q : vw_C} {y : MethodName} {w : List Cond} {rm : Room} {As st0 : List Value} {v : Option Value} {idx maxL n : Nat} {bytes : ByteArray} {ret : Option FieldType} (d : decode cc pc = .ok (.invokevirtual idx, 3)) (hC : Ct l y w rm G (.ref b :: As) ws v ws') (cw : va_CN R s args own idx y host bytes maxL ret w rm 0 0 n ∧ (Cond.instanceMethod y).before args s = true ∧ (Cond.selects q.1 y y).before args s = true) (he : ws[q0]? = some (b, .inr (ci, fs))) (hc : cls[ci]? = some q) (hn : As.length = n) (hst : st0 = As.reverse ++ .ref b :: st) (hcat : (st.map fun v => v.category).sum ≤ 8) (hcs : cells + 0 ≤ R.cells ∧ slots + 0 ≤ R.slots) (hadr : ws'.map Prod.fst = ws.map Prod.fst) (k : Wv p l e R s m args below meth c G A nL cells slots Q ws' (pc + 3) lv (v.toList ++ st)) : Wv p l e R s m args below meth c G A nL cells slots Q ws pc lv st0 := by
  intro H locs ls hP hD hS hl
  exact r_core (va_runVN (As := As) (rest := st) h.1 (hC H.size) cw ⟨Pu.blind, h.recv hP hc he, h.pre hP hD hS⟩ rfl hn hl.1 hst (lv_room hcat) d hcs) hS (h.adr hD hS) (fun H1 locs1 hP1 hS1 => k H1 locs1 ls hP1 (va_Dsame hadr hD) hS1 hl)
theorem r_invSN (h : Fx p m c s args meth own cc nL Ts G A) {host : String} {y : MethodName} {w : List Cond} {rm : Room} {As st0 : List Value} {v : Option Value} {idx maxL n : Nat} {bytes : ByteArray} {ret : Option FieldType} (d : decode cc pc = .ok (.invokestatic idx, 3)) (hC : Ct l y w rm G As ws v ws') (cw : va_CN R s args own idx y host bytes maxL ret w rm 0 0 n ∧ (Cond.static y).before args s = true ∧ True) (hn : As.length = n) (hst : st0 = As.reverse ++ st) (hcat : (st.map fun v => v.category).sum ≤ 8) (hcs : cells + 0 ≤ R.cells ∧ slots + 0 ≤ R.slots) (hadr : ws'.map Prod.fst = ws.map Prod.fst) (k : Wv p l e R s m args below meth c G A nL cells slots Q ws' (pc + 3) lv (v.toList ++ st)) : Wv p l e R s m args below meth c G A nL cells slots Q ws pc lv st0 := by
  intro H locs ls hP hD hS hl
  exact r_core (va_runSN (As := As) (rest := st) h.1 (hC H.size) cw ⟨Pu.blind, h.pre hP hD hS⟩ rfl hn hl.1 hst (lv_room hcat) d hcs) hS (h.adr hD hS) (fun H1 locs1 hP1 hS1 => k H1 locs1 ls hP1 (va_Dsame hadr hD) hS1 hl)
-- ends
theorem r_iret (h : Fx p m c s args meth own cc nL Ts G A) {x : Int32} (hr : meth.sig.returnType = some .int) (d : decode cc pc = .ok (.ireturn, 1)) : Wv p l e R s m args below meth c G A nL cells slots (MQ below (QC G A (some (.int x)) ws) args s cells slots A) ws pc lv [.int x] :=
  fun H locs ls hP hD hS hl => W.iret (v := x) h.1.1 h.1.2.1 hr (fun t ht hW => ⟨rfl, by rw [ht]; exact hP, hS.F ht⟩) hS.2.2 d h.2.2.2.2
theorem r_zret (h : Fx p m c s args meth own cc nL Ts G A) {x : Int32} {ty : FieldType} (hr : meth.sig.returnType = some ty) (hn : narrow ty (.int x) = .int x) (d : decode cc pc = .ok (.ireturn, 1)) : Wv p l e R s m args below meth c G A nL cells slots (MQ below (QC G A (some (.int x)) ws) args s cells slots A) ws pc lv [.int x] :=
  fun H locs ls hP hD hS hl => W.zret (v := x) h.1.1 h.1.2.1 hr hn (fun t ht hW => ⟨rfl, by rw [ht]; exact hP, hS.F ht⟩) hS.2.2 d h.2.2.2.2
theorem r_lret (h : Fx p m c s args meth own cc nL Ts G A) {x : Int64} (hr : meth.sig.returnType = some .long) (d : decode cc pc = .ok (.lreturn, 1)) : Wv p l e R s m args below meth c G A nL cells slots (MQ below (QC G A (some (.long x)) ws) args s cells slots A) ws pc lv [.long x] :=
  fun H locs ls hP hD hS hl => W.lret (v := x) h.1.1 h.1.2.1 hr (fun t ht hW => ⟨rfl, by rw [ht]; exact hP, hS.F ht⟩) hS.2.2 d h.2.2.2.2
theorem r_vret (h : Fx p m c s args meth own cc nL Ts G A) (hr : meth.sig.returnType = none) (d : decode cc pc = .ok (.return_, 1)) : Wv p l e R s m args below meth c G A nL cells slots (MQ below (QC G A none ws) args s cells slots A) ws pc lv [] :=
  fun H locs ls hP hD hS hl => W.vret h.1.1 h.1.2.1 hr (fun t ht hW => ⟨rfl, by rw [ht]; exact hP, hS.F ht⟩) hS.2.2 d h.2.2.2.2
/-- a contract out of its body's walk -/
theorem ct_intro {y : MethodName} {rm : Room} {As : List Value} {v : Option Value} {ret : Option FieldType} {w' : List Cond} (hy : plainName y.cls = true) (lv0 : List (Nat × Value)) (hlv : lv_args 0 As = lv0) (hlen : (lg_sl As).length ≤ nL)
    (body : ∀ (p : Program) (e : Env) (s : State) (m : MethodId) (below : List Frame) (meth : Method) (c : Code) (A : Nat → Prop), Fx p m c s As.toArray meth y.cls cc nL (.code y cc nL ret :: w') G A → meth.sig.returnType = ret → Wv p l e rm s m As.toArray below meth c G A nL 0 0 (MQ below (QC G A v ws') As.toArray s 0 0 A) ws 0 lv0 []) : Ct l y (.code y cc nL ret :: w') rm G As ws v ws' := by
  intro sz
  refine Met.ofW (cc := cc) (maxL := nL) (ret := ret) hy rfl ?_
  intro p e s m args below meth c s₁ B hml hv
  obtain ⟨rfl, rfl, hP, hK, hD, hSt⟩ := hv
  rw [lg_entry_eq]
  exact body p e s m below meth c _ ⟨⟨B.exec, B.bytes, hml, findClass_of_methodNamed B.named, atoms_spec (ws := .code y cc nL ret :: w') B.pre⟩, hK, hSt, fun q hq => Or.inr hq, B.notSynchronized⟩ B.returns s.heap [] _ hP hD va_S.rf (hlv ▸ lv_entry As hlen)
-- throws
theorem tt_intro {y : MethodName} {rm : Room} {As : List Value} {E : String} {ret : Option FieldType} {w' : List Cond} (hy : plainName y.cls = true) (lv0 : List (Nat × Value)) (hlv : lv_args 0 As = lv0) (hlen : (lg_sl As).length ≤ nL)
    (body : ∀ (p : Program) (e : Env) (s : State) (m : MethodId) (below : List Frame) (meth : Method) (c : Code) (A : Nat → Prop), Fx p m c s As.toArray meth y.cls cc nL (.code y cc nL ret :: w') G A → meth.sig.returnType = ret → (∀ x ∈ c.exceptionTable.toList, False) → Wv p l e rm s m As.toArray below meth c G A nL 0 0 (vx_MQ below QN (XE G A E ws) As.toArray s 1 6 A) ws 0 lv0 []) : Tt l y (.code y cc nL ret :: w') rm G As ws E := by
  intro sz
  refine vx_ofW (cc := cc) (maxL := nL) (ret := ret) hy rfl ?_
  intro p e s m args below meth c s₁ B hml hex hv
  obtain ⟨rfl, rfl, hP, hK, hD, hSt⟩ := hv
  rw [lg_entry_eq]
  exact body p e s m below meth c _ ⟨⟨B.exec, B.bytes, hml, findClass_of_methodNamed B.named, atoms_spec (ws := .code y cc nL ret :: w') B.pre⟩, hK, hSt, fun q hq => Or.inr hq, B.notSynchronized⟩ B.returns hex s.heap [] _ hP hD va_S.rf (hlv ▸ lv_entry As hlen)
/-- a static call that throws, not caught here -/
theorem r_outS (h : Fx p m c s args meth own cc nL Ts G A) {y : MethodName} {w : List Cond} {rm : Room} {As st0 : List Value} {E : String} {idx maxL n : Nat} {bytes : ByteArray} {ret : Option FieldType} {Qc : Array Value → State → Outcome → State → Prop} (hex : ∀ x ∈ c.exceptionTable.toList, False) (d : decode cc pc = .ok (.invokestatic idx, 3)) (hC : Tt l y w rm G As ws E) (cw : CallB R s args own idx y bytes maxL ret w rm 1 6 n ∧ (Cond.static y).before args s = true) (hn : As.length = n) (hst : st0 = As.reverse ++ st) (hcat : (st.map fun v => v.category).sum ≤ 8) (hcs : 0 + 1 ≤ R.cells ∧ 0 + 6 ≤ R.slots) : Wv p l e R s m args below meth c G A nL 0 0 (vx_MQ below Qc (XE G A E ws) args s 1 6 A) ws pc lv st0 := by
  intro H locs ls hP hD hS hl T hT X
  have hA := h.adr hD hS
  rcases vx_runS (As := As) (rest := st) (g := F0 m pc ls st0) h.1 (hC H.size) cw ⟨Pu.blind, h.pre hP hD hS⟩ rfl hn hl.1 hst (lv_room hcat) d hcs T hT X with ⟨v, st₀, t, T', L, h0, X', hL, e1, e2, hq, hst9⟩ | ⟨q, st₀, t, T', L, E', ce, h0, X', hL, e1, e2, ⟨hE, hp, hz, hk⟩, hce, hcv, hcl, hst9⟩
  · exact hq.elim
  · subst hE
    rw [h0] at hz hk
    obtain ⟨t2, a1, b1⟩ := vx_out (H := T'.heap) (locs := locs ++ L) (cells := 0 + 1) (slots := 0 + 6) (XC := XE G A E' ws) (Qc := Qc) (mc := 1) (ms := 6) (free := A) (ls := ls) (rest := st) (pc := pc) (fun x hx => (hex x hx).elim) h.2.2.2.2 (by rw [e1]; exact hce) hcv hcl
      (fun t9 ht9 _ => ⟨rfl, by rw [ht9, e1]; exact hp, by rw [ht9, e1]; exact Nat.le_trans hS.1 hz, fun q h1 h2 => by rw [ht9, e1, hk q (Nat.lt_of_lt_of_le h1 hS.1) (fun z => h2 (hA q z))]; exact hS.2.1 q h1 h2⟩)
      (fun z hz9 => by
        rcases List.mem_append.mp hz9 with h9 | h9
        · exact hS.2.2 z h9
        · exact hA _ (hL z h9)) (Nat.le_refl _) (Nat.le_refl _) T' rfl X'
    exact ⟨t2, hst9.trans a1, b1⟩
end RW
-- words: one list for all methods
theorem gi_TT {wd x : Cond} (hx : x ∈ TT) : GoodIn (wd :: TT) (x :: TT) := fun w hw => by
  have h9 : w ∈ TT := by
    rcases List.mem_cons.mp hw with e | e
    · rw [e]; exact hx
    · exact e
  exact ⟨List.mem_cons_of_mem _ h9, good_of_word (TT_good w h9)⟩
section RC
variable {p : Program} {l : Launch} {R : Room} {s : State} {m : MethodId} {args : Array Value} {meth : Method} {c : Code} {G : gG} {A : Nat → Prop} {nL : Nat} {cc : ByteArray} {own : String} {wd : Cond}
theorem r_cb (h : Fx p m c s args meth own cc nL (wd :: TT) G A) {y : MethodName} {bytes : ByteArray} {maxL idx n mc ms : Nat} {ret : Option FieldType} {rm : Room} (hcode : Cond.code y bytes maxL ret ∈ TT) (hlink : Cond.methodLink own idx y ∈ TT) (hini : Cond.initialized y.cls ∈ TT) (hd : y.cls ≠ "java/lang/invoke/MethodHandle" ∧ y.cls ≠ "java/lang/invoke/VarHandle" ∧ (parseMethodDescriptor y.desc).map (fun d => d.parameters.length) = some n) (hR : rm.frames + 1 ≤ R.frames ∧ 8 + (maxL + 11) + rm.locals ≤ R.locals) (hrc : rm.cells = mc) (hrs : rm.slots = ms) : CallB R s args own idx y bytes maxL ret (.code y bytes maxL ret :: TT) rm mc ms n :=
  callB_of n h.1.2.2.2.2 (gi_TT hcode) rfl hrc hrs (h.1.2.2.2.2 _ (List.mem_cons_of_mem _ hini)) (h.1.2.2.2.2 _ (List.mem_cons_of_mem _ hlink)) hd hR
theorem r_cS (h : Fx p m c s args meth own cc nL (wd :: TT) G A) {y : MethodName} {bytes : ByteArray} {maxL idx n mc ms : Nat} {ret : Option FieldType} {rm : Room} (hcode : Cond.code y bytes maxL ret ∈ TT) (hlink : Cond.methodLink own idx y ∈ TT) (hini : Cond.initialized y.cls ∈ TT) (hst : Cond.static y ∈ TT) (hd : y.cls ≠ "java/lang/invoke/MethodHandle" ∧ y.cls ≠ "java/lang/invoke/VarHandle" ∧ (parseMethodDescriptor y.desc).map (fun d => d.parameters.length) = some n) (hR : rm.frames + 1 ≤ R.frames ∧ 8 + (maxL + 11) + rm.locals ≤ R.locals) (hrc : rm.cells = mc) (hrs : rm.slots = ms) : CallB R s args own idx y bytes maxL ret (.code y bytes maxL ret :: TT) rm mc ms n ∧ (Cond.static y).before args s = true :=
  ⟨r_cb h hcode hlink hini hd hR hrc hrs, h.1.2.2.2.2 _ (List.mem_cons_of_mem _ hst)⟩
theorem r_cV (h : Fx p m c s args meth own cc nL (wd :: TT) G A) {y : MethodName} {C : String} {bytes : ByteArray} {maxL idx n mc ms : Nat} {ret : Option FieldType} {rm : Room} (hcode : Cond.code y bytes maxL ret ∈ TT) (hlink : Cond.methodLink own idx y ∈ TT) (hini : Cond.initialized y.cls ∈ TT) (hin : Cond.instanceMethod y ∈ TT) (hse : Cond.selects C y y ∈ TT) (hd : y.cls ≠ "java/lang/invoke/MethodHandle" ∧ y.cls ≠ "java/lang/invoke/VarHandle" ∧ (parseMethodDescriptor y.desc).map (fun d => d.parameters.length) = some n) (hR : rm.frames + 1 ≤ R.frames ∧ 8 + (maxL + 11) + rm.locals ≤ R.locals) (hrc : rm.cells = mc) (hrs : rm.slots = ms) : CallW R s args own C idx y bytes maxL ret (.code y bytes maxL ret :: TT) rm mc ms n :=
  ⟨r_cb h hcode hlink hini hd hR hrc hrs, h.1.2.2.2.2 _ (List.mem_cons_of_mem _ hin), h.1.2.2.2.2 _ (List.mem_cons_of_mem _ hse)⟩
end RC
-- contracts whose end is told by a property of the answer and of the world
def QP (G : gG) (A : Nat → Prop) (Post : Option Value → va_W → Prop) : Array Value → State → Outcome → State → Prop := fun _ st o t =>
  ∃ (v : Option Value) (ws : va_W), o = .returned v ∧ Post v ws ∧ va_P G.1 cls ws t.heap ∧ va_F A st t
def Cp (l : Launch) (y : MethodName) (w : List Cond) (rm : Room) (G : gG) (As : List Value) (ws : va_W) (Post : Option Value → va_W → Prop) : Prop :=
  ∀ sz : Nat, Met l y w rm (va_Pc As (Pu G (va_A ws sz) ws sz)) (QP G (va_A ws sz) Post) 0 0 (va_A ws sz)
section RP
variable {p : Program} {l : Launch} {e : Env} {R : Room} {s : State} {m : MethodId} {args : Array Value} {below : List Frame} {meth : Method} {c : Code} {cells slots : Nat} {Q : State → Prop} {G : gG} {A : Nat → Prop} {nL : Nat} {cc : ByteArray} {own : String} {Ts : List Cond} {ws ws' : va_W} {pc : Nat} {lv : List (Nat × Value)} {st : List Value} {Post : Option Value → va_W → Prop}
theorem r_coreP {mc ms : Nat} {H : Heap} {locs : List Loc} {ls : Array Slot} {st0 : List Value} {a : Array Value} {A1 : Nat → Prop} (hr : va_Run p l e R s m args below meth c H locs cells slots mc ms (F0 m pc ls st0) st (QP G A1 Post a) A1) (hS : va_S A s.heap H locs) (hA : ∀ q, A1 q → A q)
    (kk : ∀ (v : Option Value) (ws' : va_W) (H1 : Heap) (locs1 : List Loc), Post v ws' → va_P G.1 cls ws' H1 → va_S A s.heap H1 locs1 → W p l e R s m args below meth c H1 locs1 (cells + mc) (slots + ms) Q (F0 m (pc + 3) ls (v.toList ++ st))) : W p l e R s m args below meth c H locs cells slots Q (F0 m pc ls st0) := by
  intro T hT X
  obtain ⟨w, st₀, t, T', L, h0, X', hL, e1, e2, ⟨v, ws1, hv, hpo, hp, hz, hk⟩, hst⟩ := hr T hT X
  cases hv
  rw [h0] at hz hk
  obtain ⟨t2, a1, b1⟩ := kk w ws1 T'.heap (locs ++ L) hpo (by rw [e1]; exact hp)
    ⟨Nat.le_trans hS.1 (by rw [e1]; exact hz), fun q h1 h2 => by rw [e1, hk q (Nat.lt_of_lt_of_le h1 hS.1) (fun z => h2 (hA q z))]; exact hS.2.1 q h1 h2, fun q hq => by
      rcases List.mem_append.mp hq with h | h
      · exact hS.2.2 q h
      · exact hA _ (hL q h)⟩ T' rfl X'
  exact ⟨t2, hst t2 a1, b1⟩
theorem r_invVP (h : Fx p m c s args meth own cc nL Ts G A) (q0 : Nat) {b ci : Nat} {fs : List Value} {q : vw_C} {y : MethodName} {w : List Cond} {rm : Room} {As st0 : List Value} {idx maxL n : Nat} {bytes : ByteArray} {ret : Option FieldType} (d : decode cc pc = .ok (.invokevirtual idx, 3)) (hC : Cp l y w rm G (.ref b :: As) ws Post) (cw : CallW R s args own q.1 idx y bytes maxL ret w rm 0 0 n) (he : ws[q0]? = some (b, .inr (ci, fs))) (hc : cls[ci]? = some q) (hn : As.length = n) (hst : st0 = As.reverse ++ .ref b :: st) (hcat : (st.map fun v => v.category).sum ≤ 8) (hcs : cells + 0 ≤ R.cells ∧ slots + 0 ≤ R.slots) (k : ∀ (v : Option Value) (ws' : va_W), Post v ws' → ws'.map Prod.fst = ws.map Prod.fst ∧ Wv p l e R s m args below meth c G A nL cells slots Q ws' (pc + 3) lv (v.toList ++ st)) : Wv p l e R s m args below meth c G A nL cells slots Q ws pc lv st0 := by
  intro H locs ls hP hD hS hl
  exact r_coreP (va_runV (As := As) (rest := st) h.1 (hC H.size) cw ⟨Pu.blind, h.recv hP hc he, h.pre hP hD hS⟩ rfl hn hl.1 hst (lv_room hcat) d hcs) hS (h.adr hD hS) (fun v ws1 H1 locs1 hpo hP1 hS1 => (k v ws1 hpo).2 H1 locs1 ls hP1 (va_Dsame (k v ws1 hpo).1 hD) hS1 hl)
theorem r_invVNP (h : Fx p m c s args meth own cc nL Ts G A) (q0 : Nat) {b ci : Nat} {fs : List Value} {host : String} {q : vw_C} {y : MethodName} {w : List Cond} {rm : Room} {As st0 : List Value} {idx maxL n : Nat} {bytes : ByteArray} {ret : Option FieldType} (d : decode cc pc = .ok (.invokevirtual idx, 3)) (hC : Cp l y w rm G (.ref b :: As) ws Post) (cw : va_CN R s args own idx y host bytes maxL ret w rm 0 0 n ∧ (Cond.instanceMethod y).before args s = true ∧ (Cond.selects q.1 y y).before args s = true) (he : ws[q0]? = some (b, .inr (ci, fs))) (hc : cls[ci]? = some q) (hn : As.length = n) (hst : st0 = As.reverse ++ .ref b :: st) (hcat : (st.map fun v => v.category).sum ≤ 8) (hcs : cells + 0 ≤ R.cells ∧ slots + 0 ≤ R.slots) (k : ∀ (v : Option Value) (ws' : va_W), Post v ws' → ws'.map Prod.fst = ws.map Prod.fst ∧ Wv p l e R s m args below meth c G A nL cells slots Q ws' (pc + 3) lv (v.toList ++ st)) : Wv p l e R s m args below meth c G A nL cells slots Q ws pc lv st0 := by
  intro H locs ls hP hD hS hl
  exact r_coreP (va_runVN (As := As) (rest := st) h.1 (hC H.size) cw ⟨Pu.blind, h.recv hP hc he, h.pre hP hD hS⟩ rfl hn hl.1 hst (lv_room hcat) d hcs) hS (h.adr hD hS) (fun v ws1 H1 locs1 hpo hP1 hS1 => (k v ws1 hpo).2 H1 locs1 ls hP1 (va_Dsame (k v ws1 hpo).1 hD) hS1 hl)
theorem r_iretP (h : Fx p m c s args meth own cc nL Ts G A) {x : Int32} (hr : meth.sig.returnType = some .int) (hp : Post (some (.int x)) ws) (d : decode cc pc = .ok (.ireturn, 1)) : Wv p l e R s m args below meth c G A nL cells slots (MQ below (QP G A Post) args s cells slots A) ws pc lv [.int x] :=
  fun H locs ls hP hD hS hl => W.iret (v := x) h.1.1 h.1.2.1 hr (fun t ht hW => ⟨_, ws, rfl, hp, by rw [ht]; exact hP, hS.F ht⟩) hS.2.2 d h.2.2.2.2
theorem r_vretP (h : Fx p m c s args meth own cc nL Ts G A) (hr : meth.sig.returnType = none) (hp : Post none ws) (d : decode cc pc = .ok (.return_, 1)) : Wv p l e R s m args below meth c G A nL cells slots (MQ below (QP G A Post) args s cells slots A) ws pc lv [] :=
  fun H locs ls hP hD hS hl => W.vret h.1.1 h.1.2.1 hr (fun t ht hW => ⟨_, ws, rfl, hp, by rw [ht]; exact hP, hS.F ht⟩) hS.2.2 d h.2.2.2.2
theorem cp_intro {y : MethodName} {rm : Room} {As : List Value} {ret : Option FieldType} {w' : List Cond} (hy : plainName y.cls = true) (lv0 : List (Nat × Value)) (hlv : lv_args 0 As = lv0) (hlen : (lg_sl As).length ≤ nL)
    (body : ∀ (p : Program) (e : Env) (s : State) (m : MethodId) (below : List Frame) (meth : Method) (c : Code) (A : Nat → Prop), Fx p m c s As.toArray meth y.cls cc nL (.code y cc nL ret :: w') G A → meth.sig.returnType = ret → Wv p l e rm s m As.toArray below meth c G A nL 0 0 (MQ below (QP G A Post) As.toArray s 0 0 A) ws 0 lv0 []) : Cp l y (.code y cc nL ret :: w') rm G As ws Post := by
  intro sz
  refine Met.ofW (cc := cc) (maxL := nL) (ret := ret) hy rfl ?_
  intro p e s m args below meth c s₁ B hml hv
  obtain ⟨rfl, rfl, hP, hK, hD, hSt⟩ := hv
  rw [lg_entry_eq]
  exact body p e s m below meth c _ ⟨⟨B.exec, B.bytes, hml, findClass_of_methodNamed B.named, atoms_spec (ws := .code y cc nL ret :: w') B.pre⟩, hK, hSt, fun q hq => Or.inr hq, B.notSynchronized⟩ B.returns s.heap [] _ hP hD va_S.rf (hlv ▸ lv_entry As hlen)
end RP
