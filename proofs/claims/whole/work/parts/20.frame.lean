-- contracts in a larger world; bodies with handlers; catching
theorem met_cons {l : Launch} {y : MethodName} {ws : List Cond} {rm : Room} {Pc Pc' : Array Value → State → Prop} {Qc Qc' : Array Value → State → Outcome → State → Prop} {mc ms : Nat} {free free' : Addr → Prop} (h : Met l y ws rm Pc Qc mc ms free) (hP : ∀ a s, Pc' a s → Pc a s) (hQ : ∀ a s o t, Pc' a s → Qc a s o t → Qc' a s o t) (hf : ∀ q, free q → free' q) : Met l y ws rm Pc' Qc' mc ms free' := by
  intro p e ha hc hk s m args below hf9 happ hP9 hK
  obtain ⟨n, o, h1, h2, h3, h4, L, h5, h6⟩ := h p e ha hc hk s m args below hf9 happ (hP _ _ hP9) hK
  exact ⟨n, o, h1, h2, h3, hQ _ _ _ _ hP9 h4, L, h5, fun q hq => hf _ (h6 q hq)⟩
theorem ap_l {ws wr : va_W} {k : Nat} {q : Nat × va_E} (h : ws[k]? = some q) : (ws ++ wr)[k]? = some q := by
  rw [List.getElem?_append_left (List.getElem?_eq_some_iff.mp h).1]
  exact h
theorem ap_r {ws wr : va_W} {k : Nat} {q : Nat × va_E} (h : wr[k]? = some q) : (ws ++ wr)[ws.length + k]? = some q := by
  rw [List.getElem?_append_right (Nat.le_add_right _ _), Nat.add_sub_cancel_left]
  exact h
theorem va_Pl {D : va_G} {cl : List vw_C} {ws wr : va_W} {H : Heap} (h : va_P D cl (ws ++ wr) H) : va_P D cl ws H := fun k q hk => h k q (ap_l hk)
theorem va_Pr {D : va_G} {cl : List vw_C} {ws wr : va_W} {H : Heap} (h : va_P D cl (ws ++ wr) H) : va_P D cl wr H := fun k q hk => h (ws.length + k) q (ap_r hk)
theorem va_Dl {A : Nat → Prop} {ws wr : va_W} (h : va_D A (ws ++ wr)) : va_D A ws := ⟨fun i j a b ha hb e => h.1 i j a b (ap_l ha) (ap_l hb) e, fun k q hk => h.2 k q (ap_l hk)⟩
theorem va_Dr {A : Nat → Prop} {ws wr : va_W} (h : va_D A (ws ++ wr)) : va_D A wr := ⟨fun i j a b ha hb e => by
  have := h.1 _ _ a b (ap_r ha) (ap_r hb) e
  omega, fun k q hk => h.2 _ q (ap_r hk)⟩
theorem va_Dx {A : Nat → Prop} {ws wr : va_W} (h : va_D A (ws ++ wr)) {i j : Nat} {a b : Nat × va_E} (ha : ws[i]? = some a) (hb : wr[j]? = some b) : a.1 ≠ b.1 := fun e => by
  have h1 := h.1 _ _ a b (ap_l ha) (ap_r hb) e
  have h2 := (List.getElem?_eq_some_iff.mp ha).1
  omega
theorem va_Aapp {ws wr : va_W} {sz q : Nat} (h : va_A ws sz q) : va_A (ws ++ wr) sz q := h.elim (fun ⟨k, e, hk⟩ => Or.inl ⟨k, e, ap_l hk⟩) Or.inr
theorem Pu.left {G : gG} {ws wr : va_W} {sz : Nat} {U : State} (h : Pu G (va_A (ws ++ wr) sz) (ws ++ wr) sz U) : Pu G (va_A ws sz) ws sz U :=
  ⟨h.1, va_Pl h.2.1, h.2.2.1, (va_Dl h.2.2.2.1).self, h.2.2.2.2.narrow (fun _ hq => va_Aapp hq)⟩
theorem fr_rest {G : gG} {ws ws' wr : va_W} {sz : Nat} {st t : State} (h : Pu G (va_A (ws ++ wr) sz) (ws ++ wr) sz st) (hP : va_P G.1 cls ws' t.heap) (hF : va_F (va_A ws sz) st t) : va_P G.1 cls (ws' ++ wr) t.heap ∧ va_F (va_A (ws ++ wr) sz) st t := by
  obtain ⟨hsz, hPw, -, hD, -⟩ := h
  have hr := va_Pr hPw
  refine ⟨hP.app (hr.kept (fun k q hk => hF.2 q.1 (hr k q hk).lt (fun z => ?_))), hF.1, fun q h1 h2 => hF.2 q h1 (fun z => h2 (va_Aapp z))⟩
  rcases z with ⟨k9, e9, h9⟩ | z
  · exact va_Dx hD h9 hk rfl
  · have := (hr k q hk).lt
    omega
theorem Ct.frame {l : Launch} {y : MethodName} {w : List Cond} {rm : Room} {G : gG} {As : List Value} {ws ws' : va_W} {v : Option Value} (h : Ct l y w rm G As ws v ws') (wr : va_W) : Ct l y w rm G As (ws ++ wr) v (ws' ++ wr) :=
  fun sz => met_cons (h sz) (fun _ _ hp => ⟨hp.1, hp.2.left⟩) (fun _ _ _ _ hp hq => ⟨hq.1, fr_rest hp.2 hq.2.1 hq.2.2⟩) (fun _ hq => va_Aapp hq)
theorem Cp.frame {l : Launch} {y : MethodName} {w : List Cond} {rm : Room} {G : gG} {As : List Value} {ws : va_W} {Post : Option Value → va_W → Prop} (h : Cp l y w rm G As ws Post) (wr : va_W) : Cp l y w rm G As (ws ++ wr) (fun v x => ∃ ws', Post v ws' ∧ x = ws' ++ wr) :=
  fun sz => met_cons (h sz) (fun _ _ hp => ⟨hp.1, hp.2.left⟩) (fun _ _ _ _ hp ⟨v, ws', h1, h2, h3, h4⟩ => ⟨v, ws' ++ wr, h1, ⟨ws', h2, rfl⟩, fr_rest hp.2 h3 h4⟩) (fun _ hq => va_Aapp hq)
/-- a contract of a method that may make one exception and catch it -/
def Hp (l : Launch) (y : MethodName) (w : List Cond) (rm : Room) (G : gG) (As : List Value) (ws : va_W) (Post : Option Value → va_W → Prop) : Prop :=
  ∀ sz : Nat, Met l y w rm (va_Pc As (Pu G (va_A ws sz) ws sz)) (QP G (va_A ws sz) Post) 1 6 (va_A ws sz)
theorem Hp.frame {l : Launch} {y : MethodName} {w : List Cond} {rm : Room} {G : gG} {As : List Value} {ws : va_W} {Post : Option Value → va_W → Prop} (h : Hp l y w rm G As ws Post) (wr : va_W) : Hp l y w rm G As (ws ++ wr) (fun v x => ∃ ws', Post v ws' ∧ x = ws' ++ wr) :=
  fun sz => met_cons (h sz) (fun _ _ hp => ⟨hp.1, hp.2.left⟩) (fun _ _ _ _ hp ⟨v, ws', h1, h2, h3, h4⟩ => ⟨v, ws' ++ wr, h1, ⟨ws', h2, rfl⟩, fr_rest hp.2 h3 h4⟩) (fun _ hq => va_Aapp hq)
section RH
variable {p : Program} {l : Launch} {e : Env} {R : Room} {s : State} {m : MethodId} {args : Array Value} {below : List Frame} {meth : Method} {c : Code} {cells slots : Nat} {Q : State → Prop} {G : gG} {A : Nat → Prop} {nL : Nat} {cc : ByteArray} {own : String} {Ts : List Cond} {wd : Cond} {ws ws' ws1 ws2 : va_W} {pc : Nat} {lv : List (Nat × Value)} {st : List Value} {Post : Option Value → va_W → Prop}
theorem Wv.swp (k : Wv p l e R s m args below meth c G A nL cells slots Q (ws2 ++ ws1) pc lv st) : Wv p l e R s m args below meth c G A nL cells slots Q (ws1 ++ ws2) pc lv st :=
  fun H locs ls hP hD hS hl => k H locs ls ((va_Pr hP).app (va_Pl hP)) ((va_Dr hD).app (va_Dl hD) (fun _ _ _ _ ha hb e => va_Dx hD hb ha e.symm)) hS hl
theorem Wv.wid {k n : Nat} (h1 : cells ≤ k) (h2 : slots ≤ n) (kk : Wv p l e R s m args below meth c G A nL k n Q ws pc lv st) : Wv p l e R s m args below meth c G A nL cells slots Q ws pc lv st :=
  fun H locs ls hP hD hS hl => W.widen h1 h2 (kk H locs ls hP hD hS hl)
theorem met_ofWH {y : MethodName} {w w' : List Cond} {rm : Room} {Pc : Array Value → State → Prop} {Qc : Array Value → State → Outcome → State → Prop} {mc ms : Nat} {free : Addr → Prop} {maxL : Nat} {ret : Option FieldType} {hh : List (Nat × Nat × Nat × Nat)}
    (hy : plainName y.cls = true) (hw : w = Cond.codeWith y cc maxL ret hh :: w')
    (body : ∀ p e s m args below meth c s₁, BodyLoose p l y (headSpec w rm) cc maxL ret e s m args below meth c s₁ → c.maxLocals = maxL → c.exceptionTable.toList = tableOf hh → Pc args s →
      W p l e (headSpec w rm).room s m args below meth c s.heap [] 0 0 (MQ below Qc args s mc ms free) (entryFrame m args maxL)) : Met l y w rm Pc Qc mc ms free := by
  refine MetFree.of_bodyS (code := cc) (maxLocals := maxL) (ret := ret) hy ?_ ?_
  · intro args s m h hn
    obtain ⟨m9, meth, c, hn9, h1, h2, h3, h4, -, h5, h6, -⟩ := Cond.codeWith_spec (atoms_spec (ws := w) h _ (by rw [hw]; exact List.mem_cons_self))
    cases hn.symm.trans hn9
    exact ⟨meth, c, h1, h2, h3, h4, h5, h6⟩
  · intro p e s m args below meth c s₁ B hml hP _
    have hh0 : s₁.heap = s.heap := by rw [B.state]; rfl
    have ht := vx_table (x := y) B (atoms_spec (ws := w) B.pre _ (by rw [hw]; exact List.mem_cons_self))
    obtain ⟨t, a1, o, b1, b2, b3⟩ := body p e s m args below meth c s₁ B hml ht hP s₁ hh0 (Stand.of_body B)
    exact ⟨t, o, a1, b1, b2, ⟨b3.1, b3.2⟩⟩
theorem hp_intro {y : MethodName} {rm : Room} {As : List Value} {ret : Option FieldType} {w' : List Cond} {hh : List (Nat × Nat × Nat × Nat)} (hy : plainName y.cls = true) (lv0 : List (Nat × Value)) (hlv : lv_args 0 As = lv0) (hlen : (lg_sl As).length ≤ nL)
    (body : ∀ (p : Program) (e : Env) (s : State) (m : MethodId) (below : List Frame) (meth : Method) (c : Code) (A : Nat → Prop), Fx p m c s As.toArray meth y.cls cc nL (.codeWith y cc nL ret hh :: w') G A → meth.sig.returnType = ret → c.exceptionTable.toList = tableOf hh → Wv p l e rm s m As.toArray below meth c G A nL 0 0 (MQ below (QP G A Post) As.toArray s 1 6 A) ws 0 lv0 []) : Hp l y (.codeWith y cc nL ret hh :: w') rm G As ws Post := by
  intro sz
  refine met_ofWH (cc := cc) (maxL := nL) (ret := ret) hy rfl ?_
  intro p e s m args below meth c s₁ B hml htab hv
  obtain ⟨rfl, rfl, hP, hK, hD, hSt⟩ := hv
  rw [lg_entry_eq]
  exact body p e s m below meth c _ ⟨⟨B.exec, B.bytes, hml, findClass_of_methodNamed B.named, atoms_spec (ws := .codeWith y cc nL ret hh :: w') B.pre⟩, hK, hSt, fun q hq => Or.inr hq, B.notSynchronized⟩ B.returns htab s.heap [] _ hP hD va_S.rf (hlv ▸ lv_entry As hlen)
/-- a virtual call that throws, caught here -/
theorem r_catchV (h : Fx p m c s args meth own cc nL (wd :: TT) G A) (q0 : Nat) {b ci : Nat} {fs : List Value} {q : vw_C} {y : MethodName} {w : List Cond} {rm : Room} {As st0 : List Value} {E name : String} {idx maxL n : Nat} {bytes : ByteArray} {ret : Option FieldType} (d : decode cc pc = .ok (.invokevirtual idx, 3)) (hC : Tt l y w rm G (.ref b :: As) ws E) (cw : CallW R s args own q.1 idx y bytes maxL ret w rm 1 6 n) (he : ws[q0]? = some (b, .inr (ci, fs))) (hc : cls[ci]? = some q) (hn : As.length = n) (hst : st0 = As.reverse ++ .ref b :: st) (hcat : (st.map fun v => v.category).sum ≤ 8) (hcs : cells + 1 ≤ R.cells ∧ slots + 6 ≤ R.slots)
    (pre : List ExceptionTableEntry) (x : ExceptionTableEntry) (suf : List ExceptionTableEntry) (hsplit : c.exceptionTable.toList = pre ++ x :: suf) (hpass : ∀ z ∈ pre, covers z pc = false ∨ (z.catchType ≠ 0 ∧ ∃ nm : String, Cond.classLink own z.catchType nm ∈ TT ∧ va_Nc E nm s)) (hx : covers x pc = true) (h0 : x.catchType ≠ 0) (hlink : Cond.classLink own x.catchType name ∈ TT) (hcast : Cond.castable E name ∈ nws)
    (k : ∀ q9 : Nat, Wv p l e R s m args below meth c G A nL (cells + 1) (slots + 6) Q ws x.handlerPc lv [.ref q9]) : Wv p l e R s m args below meth c G A nL cells slots Q ws pc lv st0 := by
  intro H locs ls hP hD hS hl T hT X
  have hA := h.adr hD hS
  have hT9 : ∀ w ∈ TT, w.before args s = true := fun w hw => h.1.2.2.2.2 _ (List.mem_cons_of_mem _ hw)
  rcases vx_runV (As := As) (rest := st) (g := F0 m pc ls st0) h.1 (hC H.size) cw ⟨Pu.blind, h.recv hP hc he, h.pre hP hD hS⟩ rfl hn hl.1 hst (lv_room hcat) d hcs T hT X with ⟨v, st₀, t, T', L, h0, X', hL, e1, e2, hq, hst9⟩ | ⟨q9, st₀, t, T', L, E', ce, h09, X', hL, e1, e2, ⟨hE, hp, hz, hk⟩, hce, hcv, hcl, hst9⟩
  · exact hq.elim
  · subst hE
    rw [h09] at hz hk
    obtain ⟨t2, a1, b1⟩ := vx_catch (H := T'.heap) (locs := locs ++ L) (ls := ls) (rest := st) (pc := pc) h.1.2.2.2.1 pre x suf hsplit (fun z hz => (hpass z hz).imp id (fun ⟨z0, nm, h1, h2⟩ => ⟨z0, nm, hT9 _ h1, h2⟩)) hx h0 (hT9 _ hlink) (va_Nw.use rfl (h.nw hcast)) (by rw [e1]; exact hce) hcv hcl
      (k q9 T'.heap (locs ++ L) ls (by rw [e1]; exact hp) hD ⟨Nat.le_trans hS.1 (by rw [e1]; exact hz), fun q h1 h2 => by rw [e1, hk q (Nat.lt_of_lt_of_le h1 hS.1) (fun z => h2 (hA q z))]; exact hS.2.1 q h1 h2, fun q hq => by
        rcases List.mem_append.mp hq with h9 | h9
        · exact hS.2.2 q h9
        · exact hA _ (hL q h9)⟩ hl) T' rfl X'
    exact ⟨t2, hst9.trans a1, b1⟩
theorem r_cVX (h : Fx p m c s args meth own cc nL (wd :: TT) G A) {y : MethodName} {C : String} {bytes : ByteArray} {maxL idx n mc ms : Nat} {ret : Option FieldType} {rm : Room} (hcode : Cond.code y bytes maxL ret ∈ TT) (hlink : Cond.methodLink own idx y ∈ TT) (hini : Cond.initialized y.cls ∈ TT) (hin : Cond.instanceMethod y ∈ TT) (hse : Cond.selects C y y ∈ TT) (hd : y.cls ≠ "java/lang/invoke/MethodHandle" ∧ y.cls ≠ "java/lang/invoke/VarHandle" ∧ (parseMethodDescriptor y.desc).map (fun d => d.parameters.length) = some n) (hR : rm.frames + 1 ≤ R.frames ∧ 8 + (maxL + 11) + rm.locals ≤ R.locals) (hrc : rm.cells = mc) (hrs : rm.slots = ms) : CallW R s args own C idx y bytes maxL ret (.code y bytes maxL ret :: TT) rm mc ms n := r_cV h hcode hlink hini hin hse hd hR hrc hrs
/-- a static call of a method with handlers -/
theorem r_invSH (h : Fx p m c s args meth own cc nL (wd :: TT) G A) {y : MethodName} {rm : Room} {As st0 : List Value} {idx maxL n : Nat} {bytes : ByteArray} {ret : Option FieldType} {hh : List (Nat × Nat × Nat × Nat)} (d : decode cc pc = .ok (.invokestatic idx, 3)) (hC : Hp l y (.codeWith y bytes maxL ret hh :: TT) rm G As ws Post) (hcode : Cond.codeWith y bytes maxL ret hh ∈ TT) (hlink : Cond.methodLink own idx y ∈ TT) (hini : Cond.initialized y.cls ∈ TT) (hstt : Cond.static y ∈ TT) (hd : y.cls ≠ "java/lang/invoke/MethodHandle" ∧ y.cls ≠ "java/lang/invoke/VarHandle" ∧ (parseMethodDescriptor y.desc).map (fun d => d.parameters.length) = some n) (hR : rm.frames + 1 ≤ R.frames ∧ 8 + (maxL + 11) + rm.locals ≤ R.locals) (hrc : rm.cells = 1) (hrs : rm.slots = 6) (hn : As.length = n) (hst : st0 = As.reverse ++ st) (hcat : (st.map fun v => v.category).sum ≤ 8) (hcs : cells + 1 ≤ R.cells ∧ slots + 6 ≤ R.slots) (k : ∀ (v : Option Value) (ws' : va_W), Post v ws' → ws'.map Prod.fst = ws.map Prod.fst ∧ Wv p l e R s m args below meth c G A nL (cells + 1) (slots + 6) Q ws' (pc + 3) lv (v.toList ++ st)) : Wv p l e R s m args below meth c G A nL cells slots Q ws pc lv st0 := by
  intro H locs ls hP hD hS hl
  have hT9 : ∀ w ∈ wd :: TT, w.before args s = true := h.1.2.2.2.2
  have hG := gi_TT (wd := wd) hcode
  have hcm : Cond.codeWith y bytes maxL ret hh ∈ (Cond.codeWith y bytes maxL ret hh :: TT) := List.mem_cons_self
  have cw : vx_CSW R s args own idx y bytes maxL ret hh (Cond.codeWith y bytes maxL ret hh :: TT) rm 1 6 n := by
    refine ⟨⟨hrc, hrs, hR.1, hR.2, pay_in hT9 hG, hcm⟩, hT9 _ (hG _ hcm).1, hT9 _ (List.mem_cons_of_mem _ hini), ⟨hd.1, hd.2.1⟩, fun sig h9 => ?_, hT9 _ (List.mem_cons_of_mem _ hlink), hT9 _ (List.mem_cons_of_mem _ hstt)⟩
    have h2 := hd.2.2
    rw [h9] at h2
    exact (Option.some.inj h2).symm
  exact r_coreP (vx_runSW (As := As) (rest := st) h.1 (hC H.size) cw ⟨Pu.blind, h.pre hP hD hS⟩ rfl hn hl.1 hst (lv_room hcat) d hcs) hS (h.adr hD hS) (fun v ws1 H1 locs1 hpo hP1 hS1 => (k v ws1 hpo).2 H1 locs1 ls hP1 (va_Dsame (k v ws1 hpo).1 hD) hS1 hl)
end RH
