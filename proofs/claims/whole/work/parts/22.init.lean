-- constructors
/-- the end of a constructor: a world that has grown -/
def QK (G : gG) (A : Nat → Prop) (Post : va_W → Prop) : Array Value → State → Outcome → State → Prop := fun _ st o t =>
  ∃ ws : va_W, o = .returned none ∧ Post ws ∧ va_P G.1 cls ws t.heap ∧ va_D A ws ∧ va_F A st t
def Kc (l : Launch) (y : MethodName) (w : List Cond) (rm : Room) (G : gG) (As : List Value) (ws : va_W) (Post : va_W → Prop) (mc ms : Nat) : Prop :=
  ∀ sz : Nat, Met l y w rm (va_Pc As (Pu G (va_A ws sz) ws sz)) (QK G (va_A ws sz) Post) mc ms (va_A ws sz)
section RK
variable {p : Program} {l : Launch} {e : Env} {R : Room} {s : State} {m : MethodId} {args : Array Value} {below : List Frame} {meth : Method} {c : Code} {cells slots : Nat} {Q : State → Prop} {G : gG} {A : Nat → Prop} {nL : Nat} {cc : ByteArray} {own : String} {wd : Cond} {ws ws' wr ws1 ws2 ws3 : va_W} {pc : Nat} {lv : List (Nat × Value)} {st : List Value} {Post : va_W → Prop}
theorem Wv.swp3 (k : Wv p l e R s m args below meth c G A nL cells slots Q (ws1 ++ (ws3 ++ ws2)) pc lv st) : Wv p l e R s m args below meth c G A nL cells slots Q (ws1 ++ (ws2 ++ ws3)) pc lv st := by
  intro H locs ls hP hD hS hl
  have hP2 := va_Pr hP
  have hD2 := va_Dr hD
  refine k H locs ls ((va_Pl hP).app ((va_Pr hP2).app (va_Pl hP2))) ((va_Dl hD).app ((va_Dr hD2).app (va_Dl hD2) (fun _ _ _ _ ha hb e => va_Dx hD2 hb ha e.symm)) (fun i j x z hx hz e => ?_)) hS hl
  by_cases hj : j < ws3.length
  · rw [List.getElem?_append_left hj] at hz
    exact va_Dx hD hx (ap_r hz) e
  · rw [List.getElem?_append_right (Nat.le_of_not_lt hj)] at hz
    exact va_Dx hD hx (ap_l hz) e
theorem r_newa (h : Fx p m c s args meth own cc nL (wd :: TT) G A) (k0 : Nat) {atype : ArrayType} {ty : FieldType} {cA0 : ClassId} {n : Int32} (Nn : Nat) (a0 : vp_A) (d : decode cc pc = .ok (.newarray atype, 2)) (hty : newarray.typeOf atype = ty) (hcls : (gT G)[k0]? = some (cA0, ty)) (hra : ∀ (U : State) (cA : ClassId), va_RA U cA ty → U.vm.findClass ("[" ++ ty.toString) = some cA) (harr : Cond.arrayClass ty ∈ TT) (ha : ∀ cA : ClassId, vp_cell cA a0 = arrV cA Nn (fun _ => defaultValue ty)) (hn : n = nI Nn) (h31 : Nn < 2 ^ 31) (hb : Nn * componentBytes ty ≤ 536870912) (hcells : cells + 1 ≤ R.cells) (hslots : slots + Nn ≤ R.slots) (k : ∀ q : Nat, Wv p l e R s m args below meth c G A nL (cells + 1) (slots + Nn) Q (ws ++ [(q, .inl (cA0, a0))]) (pc + 2) lv (.ref q :: st)) : Wv p l e R s m args below meth c G A nL cells slots Q ws pc lv (.int n :: st) := by
  subst hn
  intro H locs ls hP hD hS hl
  refine va_newa h.1.1 h.1.2.1 (by rw [hty]; exact h.1.2.2.2.2 _ (List.mem_cons_of_mem _ harr)) hty h.2.1 hP hD hS h.2.2.2.1 ha (nI_pos h31) (nI_clamp h31) hb hcells hslots d ?_
  intro q cA H1 hK1 hP1 hD1 hS1
  have e1 := hra s cA (hK1.2 5 (cA, ty) rfl).2
  have e2 := hra s cA0 (h.2.1.2 k0 _ hcls).2
  cases Option.some.inj (e1.symm.trans e2)
  exact k q H1 locs ls hP1 hD1 hS1 hl
theorem r_new (h : Fx p m c s args meth own cc nL (wd :: TT) G A) {ci idx Nn : Nat} {C : String} {T : u_T} (ty : Nat → FieldType) (fs : List Value) (d : decode cc pc = .ok (.new idx, 3)) (hc : cls[ci]? = some (C, T, Nn)) (hin : ∀ w ∈ u_ws C T Nn, w ∈ wd :: TT) (hty : ∀ k, k < Nn → parseFieldDescriptor (T k).2.2.1 = some (ty k)) (hcl : Cond.classLink own idx C ∈ TT) (hinst : Cond.instantiable C Nn ∈ TT) (hini : Cond.initialized C ∈ TT) (hfs : ∀ j, j < Nn → defaultValue (ty j) = vp_V fs j) (hcells : cells + 1 ≤ R.cells) (hslots : slots + Nn ≤ R.slots) (k : ∀ q : Nat, Wv p l e R s m args below meth c G A nL (cells + 1) (slots + Nn) Q (ws ++ [(q, .inr (ci, fs))]) (pc + 3) lv (.ref q :: st)) : Wv p l e R s m args below meth c G A nL cells slots Q ws pc lv st :=
  fun H locs ls hP hD hS hl => va_new (C := C) (T := T) (N := Nn) h.1.1 h.1.2.1 h.1.2.2.2.2 hin ty hty h.1.2.2.2.1 (h.1.2.2.2.2 _ (List.mem_cons_of_mem _ hcl)) (h.1.2.2.2.2 _ (List.mem_cons_of_mem _ hinst)) (h.1.2.2.2.2 _ (List.mem_cons_of_mem _ hini)) h.2.1 hP hD hS h.2.2.2.1 hc hfs hcells hslots d (fun q H1 hP1 hD1 hS1 => k q H1 locs ls hP1 hD1 hS1 hl)
theorem r_putF (h : Fx p m c s args meth own cc nL (wd :: TT) G A) (q0 k0 : Nat) {a ci Nn idx : Nat} {fs : List Value} {C : String} {T : u_T} {ty : FieldType} {v : Value} (ty0 : Nat → FieldType) (hty : ∀ k, k < Nn → parseFieldDescriptor (T k).2.2.1 = some (ty0 k)) (hnm : ∀ a, a < Nn → ∀ b, b < Nn → a ≠ b → (T a).2.1 ≠ (T b).2.1) (d : decode cc pc = .ok (.putfield idx, 3)) (he : ws[q0]? = some (a, .inr (ci, fs))) (hc : cls[ci]? = some (C, T, Nn)) (hk : k0 < Nn) (hin : ∀ w ∈ u_ws C T Nn, w ∈ wd :: TT) (hlink : Cond.fieldLink own idx (T k0).1 (T k0).2.1 (T k0).2.2.1 ∈ TT) (hfin : (T k0).2.2.2 = true) (hni : meth.name = "<init>") (hdecl : (T k0).1 = own) (ht : parseFieldDescriptor (T k0).2.2.1 = some ty) (hn : narrow ty v = v) (hfit : fits ty v = true) (hlen : k0 < fs.length) (hw : ws.set q0 (a, .inr (ci, fs.set k0 v)) = ws') (k : Wv p l e R s m args below meth c G A nL cells slots Q ws' (pc + 3) lv st) : Wv p l e R s m args below meth c G A nL cells slots Q ws pc lv (v :: .ref a :: st) := by
  intro H locs ls hP hD hS hl
  refine va_putF (D := G.1) (C := C) (T := T) (N := Nn) h.1.1 h.1.2.1 h.1.2.2.2.2 hin ty0 hty hnm h.1.2.2.2.1 h.2.1 hP hD hS q0 he hc k0 hk (h.1.2.2.2.2 _ (List.mem_cons_of_mem _ hlink)) (fun _ h9 => h9) hfin hni hdecl ht hn hfit hlen d ?_
  rw [hw]
  exact fun H1 locs1 hP1 hD1 hS1 => k H1 locs1 ls hP1 hD1 hS1 hl
theorem r_obj (h : Fx p m c s args meth own cc nL (wd :: TT) G A) {idx a : Nat} (d : decode cc pc = .ok (.invokespecial idx, 3)) (hlink : Cond.methodLink own idx Lib.objectInit ∈ TT) (hinst : Cond.instanceMethod Lib.objectInit ∈ TT) (hcode : Cond.code Lib.objectInit ⟨#[0xb1]⟩ 1 none ∈ TT) (hframes : 1 ≤ R.frames) (hlocals : (st.map fun v => v.category).sum + 12 ≤ R.locals) (k : Wv p l e R s m args below meth c G A nL cells slots Q ws (pc + 3) lv st) : Wv p l e R s m args below meth c G A nL cells slots Q ws pc lv (.ref a :: st) := by
  intro H locs ls hP hD hS hl
  have hT : ∀ w ∈ TT, w.before args s = true := fun w hw => h.1.2.2.2.2 _ (List.mem_cons_of_mem _ hw)
  exact W.objInit h.1.1 h.1.2.1 h.1.2.2.2.1 (hT _ hlink) (hT _ hinst) (hT _ hcode) rfl (hl.1.trans h.1.2.2.1.symm) rfl d hframes (by show 2 * 0 + _ + 12 ≤ _; omega) (k H locs ls hP hD hS hl)
theorem pl_rows {r : Nat → Nat} {x : va_E} {f : Nat → va_E} : va_pl ([] ++ (List.range 16).map r) (vr_up f ((List.range 16).map r) x) = (List.range 16).map (fun i => (r i, x)) := by
  unfold va_pl
  rw [List.nil_append, List.map_map]
  apply List.map_congr_left
  intro i hi
  show (r i, vr_up f ((List.range 16).map r) x (r i)) = (r i, x)
  unfold vr_up
  rw [if_pos (List.mem_map.mpr ⟨i, hi, rfl⟩)]
theorem r_mna (h : Fx p m c s args meth own cc nL (wd :: TT) G A) (kO kR : Nat) {cO cR : ClassId} {ty : FieldType} {n k : Int32} (Kn : Nat) (z : vp_A) {idx : Nat} (d : decode cc pc = .ok (.multianewarray idx 2, 4)) (hcO : (gT G)[kO]? = some (cO, .array ty)) (hcR : (gT G)[kR]? = some (cR, ty)) (hra : ∀ (U : State) (cA : ClassId), va_RA U cA ty → U.vm.findClass (FieldType.array ty).toString = some cA) (hclink : Cond.classLink own idx ("[" ++ (FieldType.array ty).toString) ∈ TT) (hover : va_AOA ty s) (harr : Cond.arrayClass ty ∈ TT) (hn : n = nI 16) (hk : k = nI Kn) (h31 : Kn < 2 ^ 31) (hb2 : Kn * componentBytes ty ≤ 536870912) (hb3 : Kn ≤ 536870912) (hdf : fits ty (defaultValue ty) = true) (hdd : (defaultValue ty).isDefault = true) (hcells : cells + (1 + 16) ≤ R.cells) (hslots : slots + (16 + 16 * Kn) ≤ R.slots) (hz : ∀ c : ClassId, Jvm.Free.Multi.innerC c Kn (defaultValue ty) = vp_cell c z)
    (kk : ∀ (q : Nat) (r : Nat → Nat), Wv p l e R s m args below meth c G A nL (cells + 1 + 16) (slots + 16 + 16 * Kn) Q (ws ++ ([(q, .inl (cO, 16, .inr (.inr (.inr (.inr (fun i => if i < 16 then some (r i) else none))))))] ++ (List.range 16).map (fun i => (r i, .inl (cR, z))))) (pc + 4) lv (.ref q :: st)) : Wv p l e R s m args below meth c G A nL cells slots Q ws pc lv (.int k :: .int n :: st) := by
  subst hn; subst hk
  intro H locs ls hP hD hS hl
  have hT : ∀ w ∈ TT, w.before args s = true := fun w hw => h.1.2.2.2.2 _ (List.mem_cons_of_mem _ hw)
  refine va_mna (X := ws) (L := []) (f := fun _ => .inr (0, [])) (D := G.1) (cl := cls) (tys := gT G) (A := A) (H0 := s.heap) (z := z) h.1.1 h.1.2.1 h.1.2.2.2.1 (hT _ hclink) hover (hT _ harr) (hra s cR (h.2.1.2 kR _ hcR).2) h.2.1 (by rw [show va_pl [] (fun _ => (.inr (0, []) : va_E)) = [] from rfl, List.append_nil]; exact hP) (by rw [show va_pl [] (fun _ => (.inr (0, []) : va_E)) = [] from rfl, List.append_nil]; exact hD) hS h.2.2.2.1 (nI_pos (by decide)) (nI_pos h31) (nI_clamp (by decide)) (nI_clamp h31) (by decide) hb2 hb3 hdf hdd hcells hslots hz d ?_
  intro q r cA H1 _ _ hK1 hP1 hD1 hS1
  have e1 : s.vm.findClass ("[" ++ (FieldType.array ty).toString) = some cA := (hK1.2 5 (cA, .array ty) rfl).2
  have e2 : s.vm.findClass ("[" ++ (FieldType.array ty).toString) = some cO := (h.2.1.2 kO _ hcO).2
  cases Option.some.inj (e1.symm.trans e2)
  rw [pl_rows, List.append_assoc] at hP1 hD1
  exact kk q r H1 locs ls hP1 hD1 hS1 hl
theorem r_vretK (h : Fx p m c s args meth own cc nL (wd :: TT) G A) (hr : meth.sig.returnType = none) (hp : Post ws) (d : decode cc pc = .ok (.return_, 1)) : Wv p l e R s m args below meth c G A nL cells slots (MQ below (QK G A Post) args s cells slots A) ws pc lv [] :=
  fun H locs ls hP hD hS hl => W.vret h.1.1 h.1.2.1 hr (fun t ht hW => ⟨ws, rfl, hp, by rw [ht]; exact hP, hD, hS.F ht⟩) hS.2.2 d h.2.2.2.2
theorem kc_intro {y : MethodName} {rm : Room} {As : List Value} {w' : List Cond} {mc ms : Nat} (hyn : y.name = "<init>") (hy : plainName y.cls = true) (lv0 : List (Nat × Value)) (hlv : lv_args 0 As = lv0) (hlen : (lg_sl As).length ≤ nL)
    (body : ∀ (p : Program) (e : Env) (s : State) (m : MethodId) (below : List Frame) (meth : Method) (c : Code) (A : Nat → Prop), Fx p m c s As.toArray meth y.cls cc nL (.code y cc nL none :: w') G A → meth.sig.returnType = none → meth.name = "<init>" → Wv p l e rm s m As.toArray below meth c G A nL 0 0 (MQ below (QK G A Post) As.toArray s mc ms A) ws 0 lv0 []) : Kc l y (.code y cc nL none :: w') rm G As ws Post mc ms := by
  intro sz
  refine Met.ofW (cc := cc) (maxL := nL) (ret := none) hy rfl ?_
  intro p e s m args below meth c s₁ B hml hv
  obtain ⟨rfl, rfl, hP, hK, hD, hSt⟩ := hv
  rw [lg_entry_eq]
  exact body p e s m below meth c _ ⟨⟨B.exec, B.bytes, hml, findClass_of_methodNamed B.named, atoms_spec (ws := .code y cc nL none :: w') B.pre⟩, hK, hSt, fun q hq => Or.inr hq, B.notSynchronized⟩ B.returns ((name_of_methodNamed B.named B.method).1.trans hyn) s.heap [] _ hP hD va_S.rf (hlv ▸ lv_entry As hlen)
/-- behind a constructor's call: the rest, and what came of the new cell -/
theorem r_coreK {mc ms : Nat} {H : Heap} {locs : List Loc} {ls : Array Slot} {st0 : List Value} {a : Array Value} (h : Fx p m c s args meth own cc nL (wd :: TT) G A) (hP : va_P G.1 cls (wr ++ ws1) H) (hD : va_D A (wr ++ ws1)) (hr : va_Run p l e R s m args below meth c H locs cells slots mc ms (F0 m pc ls st0) st (QK G (va_A ws1 H.size) Post a) (va_A ws1 H.size)) (hS : va_S A s.heap H locs)
    (kk : ∀ (ws2 : va_W) (H1 : Heap) (locs1 : List Loc), Post ws2 → va_P G.1 cls (wr ++ ws2) H1 → va_D A (wr ++ ws2) → va_S A s.heap H1 locs1 → W p l e R s m args below meth c H1 locs1 (cells + mc) (slots + ms) Q (F0 m (pc + 3) ls st)) : W p l e R s m args below meth c H locs cells slots Q (F0 m pc ls st0) := by
  have hA : ∀ q, va_A ws1 H.size q → A q := fun q hq => hq.elim (fun ⟨k, e, hk⟩ => (va_Dr hD).2 k _ hk) (fun hq => h.2.2.2.1 q (Nat.le_trans hS.1 hq))
  intro T hT X
  obtain ⟨w, st₀, t, T', L, h0, X', hL, e1, e2, ⟨ws2, hv, hpo, hp, hd, hz, hk⟩, hst⟩ := hr T hT X
  cases hv
  rw [h0] at hz hk
  have hPl := va_Pl hP
  obtain ⟨t2, a1, b1⟩ := kk ws2 T'.heap (locs ++ L) hpo
    (by
      rw [e1]
      refine (hPl.kept (fun k q hq => hk q.1 (hPl k q hq).lt (fun z => ?_))).app hp
      rcases z with ⟨k9, e9, h9⟩ | z
      · exact va_Dx hD hq h9 rfl
      · have := (hPl k q hq).lt
        omega)
    ((va_Dl hD).app (hd.weaken (fun k q _ hq => hA _ hq)) (fun i j x z hx hz9 e9 => by
      rcases hd.2 j z hz9 with ⟨k9, e8, h9⟩ | h9
      · exact va_Dx hD hx h9 e9
      · have := (hPl i x hx).lt
        omega))
    ⟨Nat.le_trans hS.1 (by rw [e1]; exact hz), fun q h1 h2 => by rw [e1, hk q (Nat.lt_of_lt_of_le h1 hS.1) (fun z => h2 (hA q z))]; exact hS.2.1 q h1 h2, fun q hq => by
      rcases List.mem_append.mp hq with h9 | h9
      · exact hS.2.2 q h9
      · exact hA _ (hL q h9)⟩ T' rfl X'
  exact ⟨t2, hst t2 a1, b1⟩
theorem Fx.preK (h : Fx p m c s args meth own cc nL (wd :: TT) G A) {As : List Value} {H : Heap} {locs : List Loc} (hP : va_P G.1 cls (wr ++ ws1) H) (hD : va_D A (wr ++ ws1)) (hS : va_S A s.heap H locs) : ∀ U : State, U.heap = H → s.WarmedH U.vm → va_Pc As (Pu G (va_A ws1 H.size) ws1 H.size) As.toArray U :=
  fun U hU hW => ⟨rfl, by rw [hU], by rw [hU]; exact va_Pr hP, va_K.moved hW.alike h.2.1, (va_Dr hD).self, by rw [hU]; exact ((h.2.2.1.kept hS.2.1).narrow (fun q hq => hq.elim (fun ⟨k, e, hk⟩ => (va_Dr hD).2 k _ hk) (fun hq => h.2.2.2.1 q (Nat.le_trans hS.1 hq)))).warm hW⟩
theorem r_init (h : Fx p m c s args meth own cc nL (wd :: TT) G A) {y : MethodName} {rm : Room} {idx maxL a mc ms : Nat} {bytes : ByteArray} (d : decode cc pc = .ok (.invokespecial idx, 3)) (hC : Kc l y (.code y bytes maxL none :: TT) rm G [.ref a] ws1 Post mc ms) (hcode : Cond.code y bytes maxL none ∈ TT) (hlink : Cond.methodLink own idx y ∈ TT) (hini : Cond.initialized y.cls ∈ TT) (hin : Cond.instanceMethod y ∈ TT) (hyn : y.name = "<init>") (hd : y.cls ≠ "java/lang/invoke/MethodHandle" ∧ y.cls ≠ "java/lang/invoke/VarHandle" ∧ (parseMethodDescriptor y.desc).map (fun d => d.parameters.length) = some 0) (hR : rm.frames + 1 ≤ R.frames ∧ 8 + (maxL + 11) + rm.locals ≤ R.locals) (hrc : rm.cells = mc) (hrs : rm.slots = ms) (hcat : (st.map fun v => v.category).sum ≤ 8) (hcs : cells + mc ≤ R.cells ∧ slots + ms ≤ R.slots) (k : ∀ ws2 : va_W, Post ws2 → Wv p l e R s m args below meth c G A nL (cells + mc) (slots + ms) Q (wr ++ ws2) (pc + 3) lv st) : Wv p l e R s m args below meth c G A nL cells slots Q (wr ++ ws1) pc lv (.ref a :: st) := by
  intro H locs ls hP hD hS hl
  exact r_coreK h hP hD (va_runI (As := []) (rest := st) h.1 (hC H.size) ⟨r_cb h hcode hlink hini hd hR hrc hrs, hyn, h.1.2.2.2.2 _ (List.mem_cons_of_mem _ hin)⟩ ⟨Pu.blind, h.preK hP hD hS⟩ rfl rfl hl.1 rfl (lv_room hcat) d hcs) hS (fun ws2 H1 locs1 hpo hP1 hD1 hS1 => k ws2 hpo H1 locs1 ls hP1 hD1 hS1 hl)
theorem r_initN (h : Fx p m c s args meth own cc nL (wd :: TT) G A) {y : MethodName} {host : String} {rm : Room} {idx maxL a mc ms : Nat} {bytes : ByteArray} (d : decode cc pc = .ok (.invokespecial idx, 3)) (hC : Kc l y (.code y bytes maxL none :: TT) rm G [.ref a] ws1 Post mc ms) (hcode : Cond.code y bytes maxL none ∈ TT) (hlink : Cond.methodLinkNest own idx y host ∈ nws) (hini : Cond.initialized y.cls ∈ TT) (hin : Cond.instanceMethod y ∈ TT) (hyn : y.name = "<init>") (hd : y.cls ≠ "java/lang/invoke/MethodHandle" ∧ y.cls ≠ "java/lang/invoke/VarHandle" ∧ (parseMethodDescriptor y.desc).map (fun d => d.parameters.length) = some 0) (hR : rm.frames + 1 ≤ R.frames ∧ 8 + (maxL + 11) + rm.locals ≤ R.locals) (hrc : rm.cells = mc) (hrs : rm.slots = ms) (hcat : (st.map fun v => v.category).sum ≤ 8) (hcs : cells + mc ≤ R.cells ∧ slots + ms ≤ R.slots) (k : ∀ ws2 : va_W, Post ws2 → Wv p l e R s m args below meth c G A nL (cells + mc) (slots + ms) Q (wr ++ ws2) (pc + 3) lv st) : Wv p l e R s m args below meth c G A nL cells slots Q (wr ++ ws1) pc lv (.ref a :: st) := by
  intro H locs ls hP hD hS hl
  exact r_coreK h hP hD (va_runIN (As := []) (rest := st) h.1 (hC H.size) ⟨r_cn h hcode hlink hini hd hR hrc hrs, hyn, h.1.2.2.2.2 _ (List.mem_cons_of_mem _ hin)⟩ ⟨Pu.blind, h.preK hP hD hS⟩ rfl rfl hl.1 rfl (lv_room hcat) d hcs) hS (fun ws2 H1 locs1 hpo hP1 hD1 hS1 => k ws2 hpo H1 locs1 ls hP1 hD1 hS1 hl)
end RK
section KD
variable {l : Launch} {G : gG}
theorem k_Diagram (g : Nat) : Kc l y_G_init (.code y_G_init b_G_init 1 none :: TT) ({ frames := 1, cells := 2, slots := 5120, locals := 12 }) G [.ref g] [(g, .inr (1, [.null, .null, .int 0]))] (fun ws' => ∃ q5 q6 : Nat, ws' = [(g, .inr (1, [.ref q5, .ref q6, .int 0])), (q5, .inl (G.2 0, 4096, .inl (fun _ => 0))), (q6, .inl (G.2 0, 1024, .inl (fun _ => 0)))]) 2 5120 := by
  refine kc_intro (cc := b_G_init) (nL := 1) rfl (by decide) [(0, .ref g)] rfl (Nat.le_of_ble_eq_true rfl) ?_
  intro p e s m below meth c A h hr hni
  refine r_aload_n (pc := 0) h 0 d_G_init_0 rfl rfl ?_
  refine r_obj (pc := 1) h d_G_init_1 w_28 w_19 w_20 (Nat.le_of_ble_eq_true rfl) (Nat.le_of_ble_eq_true rfl) ?_
  refine r_aload_n (pc := 4) h 0 d_G_init_4 rfl rfl ?_
  refine r_sipush (pc := 5) h (v := nI 4096) d_G_init_5 (by decide) ?_
  refine r_newa (pc := 8) h 0 4096 (4096, .inl (fun _ => 0)) d_G_init_8 rfl rfl (fun _ _ h => h) w_41 (fun _ => rfl) rfl (by decide) (by decide) (Nat.le_of_ble_eq_true rfl) (Nat.le_of_ble_eq_true rfl) (fun q5 => ?_)
  refine r_putF (pc := 10) h 0 0 (ty := .array .int) (ws' := [(g, .inr (1, [.ref q5, .null, .int 0])), (q5, .inl (G.2 0, 4096, .inl (fun _ => 0)))]) t_G t_G_ok n_G d_G_init_10 rfl rfl (by decide) in_G w_29 rfl hni rfl (by decide +kernel) rfl rfl (Nat.le_of_ble_eq_true rfl) rfl ?_
  refine r_aload_n (pc := 13) h 0 d_G_init_13 rfl rfl ?_
  refine r_sipush (pc := 14) h (v := nI 1024) d_G_init_14 (by decide) ?_
  refine r_newa (pc := 17) h 0 1024 (1024, .inl (fun _ => 0)) d_G_init_17 rfl rfl (fun _ _ h => h) w_41 (fun _ => rfl) rfl (by decide) (by decide) (Nat.le_of_ble_eq_true rfl) (Nat.le_of_ble_eq_true rfl) (fun q6 => ?_)
  refine r_putF (pc := 19) h 0 1 (ty := .array .int) (ws' := [(g, .inr (1, [.ref q5, .ref q6, .int 0])), (q5, .inl (G.2 0, 4096, .inl (fun _ => 0))), (q6, .inl (G.2 0, 1024, .inl (fun _ => 0)))]) t_G t_G_ok n_G d_G_init_19 rfl rfl (by decide) in_G w_30 rfl hni rfl (by decide +kernel) rfl rfl (Nat.le_of_ble_eq_true rfl) rfl ?_
  refine r_aload_n (pc := 22) h 0 d_G_init_22 rfl rfl ?_
  refine r_iconst (pc := 23) h (v := 0) d_G_init_23 (by decide) ?_
  refine r_put (pc := 24) h 0 2 (ty := .int) (ws' := [(g, .inr (1, [.ref q5, .ref q6, .int 0])), (q5, .inl (G.2 0, 4096, .inl (fun _ => 0))), (q6, .inl (G.2 0, 1024, .inl (fun _ => 0)))]) t_G t_G_ok n_G d_G_init_24 rfl rfl (by decide) in_G (List.mem_cons_of_mem _ w_31) rfl (by decide +kernel) rfl rfl (Nat.le_of_ble_eq_true rfl) rfl ?_
  exact r_vretK (pc := 27) h hr ⟨q5, q6, rfl⟩ d_G_init_27
/-- addresses of the class's cells -/
def aF (h0 q1 q2 q3 g q5 q6 : Nat) (r : Nat → Nat) : Nat → Nat := fun k => match k with
  | 0 => h0 | 1 => q1 | 2 => q2 | 3 => q3 | 4 => g | 5 => q5 | 6 => q6 | k + 7 => r k
theorem aF_r {h0 q1 q2 q3 g q5 q6 : Nat} {r : Nat → Nat} (i : Nat) : aF h0 q1 q2 q3 g q5 q6 r (7 + i) = r i := by
  rw [Nat.add_comm]; rfl
theorem aF_cw {h0 q1 q2 q3 g q5 q6 : Nat} {r : Nat → Nat} : cw G (aF h0 q1 q2 q3 g q5 q6 r) (fun _ _ => 0) (fun _ => 0) (fun _ => 0) 0 (fun _ => 0) (fun _ => 0) = [(h0, .inr (0, [.ref q1, .ref q2, .ref q3, .ref g])), (q1, .inl (G.2 3, 16, .inr (.inr (.inr (.inr (fun i => if i < 16 then some (r i) else none))))))] ++ ([(q2, rwL G (fun _ => 0)), (q3, rwL G (fun _ => 0)), (g, .inr (1, [.ref q5, .ref q6, .int 0])), (q5, .inl (G.2 0, 4096, .inl (fun _ => 0))), (q6, .inl (G.2 0, 1024, .inl (fun _ => 0)))] ++ (List.range 16).map (fun i => (r i, rwL G (fun _ => 0)))) := by
  unfold cw
  simp only [aF_r]
  rfl
theorem k_DiagramBench (h0 : Nat) : Kc l y_D_init (.code y_D_init b_D_init 1 none :: TT) ({ frames := 2, cells := 22, slots := 5427, locals := 40 }) G [.ref h0] [(h0, .inr (0, [.null, .null, .null, .null]))] (fun ws' => ∃ a : Nat → Nat, a 0 = h0 ∧ ws' = cw G a (fun _ _ => 0) (fun _ => 0) (fun _ => 0) 0 (fun _ => 0) (fun _ => 0)) 22 5427 := by
  refine kc_intro (cc := b_D_init) (nL := 1) rfl (by decide) [(0, .ref h0)] rfl (Nat.le_of_ble_eq_true rfl) ?_
  intro p e s m below meth c A h hr hni
  refine r_aload_n (pc := 0) h 0 d_D_init_0 rfl rfl ?_
  refine r_obj (pc := 1) h d_D_init_1 w_18 w_19 w_20 (Nat.le_of_ble_eq_true rfl) (Nat.le_of_ble_eq_true rfl) ?_
  refine r_aload_n (pc := 4) h 0 d_D_init_4 rfl rfl ?_
  refine r_bipush (pc := 5) h (v := nI 16) d_D_init_5 (by decide) ?_
  refine r_bipush (pc := 7) h (v := nI 16) d_D_init_7 (by decide) ?_
  refine r_mna (pc := 9) h 3 1 16 (16, .inr (.inl (fun _ => 0))) d_D_init_9 rfl rfl (fun _ _ h => h) w_21 h.2.2.1.2.2.2.2.2.1 w_40 rfl rfl (by decide) (by decide) (by decide) rfl rfl (Nat.le_of_ble_eq_true rfl) (Nat.le_of_ble_eq_true rfl) (fun _ => arrV_new _ _ _) (fun q1 r => ?_)
  refine r_putF (pc := 13) h 0 0 (ty := .array (.array .long)) (ws' := ((h0, .inr (0, [.ref q1, .null, .null, .null])) :: ((q1, .inl (G.2 3, 16, .inr (.inr (.inr (.inr (fun i => if i < 16 then some (r i) else none)))))) :: (List.range 16).map (fun i => (r i, rwL G (fun _ => 0)))))) t_D t_D_ok n_D d_D_init_13 rfl rfl (by decide) in_D w_42 rfl hni rfl (by decide +kernel) rfl rfl (Nat.le_of_ble_eq_true rfl) rfl ?_
  refine r_aload_n (pc := 16) h 0 d_D_init_16 rfl rfl ?_
  refine r_bipush (pc := 17) h (v := nI 16) d_D_init_17 (by decide) ?_
  refine r_newa (pc := 19) h 1 16 (16, .inr (.inl (fun _ => 0))) d_D_init_19 rfl rfl (fun _ _ h => h) w_40 (fun _ => rfl) rfl (by decide) (by decide) (Nat.le_of_ble_eq_true rfl) (Nat.le_of_ble_eq_true rfl) (fun q2 => ?_)
  refine r_putF (pc := 21) h 0 1 (ty := .array .long) (ws' := (((h0, .inr (0, [.ref q1, .ref q2, .null, .null])) :: ((q1, .inl (G.2 3, 16, .inr (.inr (.inr (.inr (fun i => if i < 16 then some (r i) else none)))))) :: (List.range 16).map (fun i => (r i, rwL G (fun _ => 0))))) ++ [(q2, rwL G (fun _ => 0))])) t_D t_D_ok n_D d_D_init_21 rfl rfl (by decide) in_D w_43 rfl hni rfl (by decide +kernel) rfl rfl (Nat.le_of_ble_eq_true rfl) rfl ?_
  refine r_aload_n (pc := 24) h 0 d_D_init_24 rfl rfl ?_
  refine r_bipush (pc := 25) h (v := nI 16) d_D_init_25 (by decide) ?_
  refine r_newa (pc := 27) h 1 16 (16, .inr (.inl (fun _ => 0))) d_D_init_27 rfl rfl (fun _ _ h => h) w_40 (fun _ => rfl) rfl (by decide) (by decide) (Nat.le_of_ble_eq_true rfl) (Nat.le_of_ble_eq_true rfl) (fun q3 => ?_)
  refine r_putF (pc := 29) h 0 2 (ty := .array .long) (ws' := (((h0, .inr (0, [.ref q1, .ref q2, .ref q3, .null])) :: ((q1, .inl (G.2 3, 16, .inr (.inr (.inr (.inr (fun i => if i < 16 then some (r i) else none)))))) :: (List.range 16).map (fun i => (r i, rwL G (fun _ => 0))))) ++ [(q2, rwL G (fun _ => 0)), (q3, rwL G (fun _ => 0))])) t_D t_D_ok n_D d_D_init_29 rfl rfl (by decide) in_D w_44 rfl hni rfl (by decide +kernel) rfl rfl (Nat.le_of_ble_eq_true rfl) rfl ?_
  refine r_aload_n (pc := 32) h 0 d_D_init_32 rfl rfl ?_
  refine r_new (pc := 33) h t_G [.null, .null, .int 0] d_D_init_33 (ci := 1) rfl in_G t_G_ok w_23 w_24 w_2 (fun j hj => by rcases (show j = 0 ∨ j = 1 ∨ j = 2 by omega) with rfl | rfl | rfl <;> rfl) (Nat.le_of_ble_eq_true rfl) (Nat.le_of_ble_eq_true rfl) (fun g => ?_)
  refine r_dup (pc := 36) h d_D_init_36 rfl ?_
  refine r_initN (pc := 37) h (wr := (((h0, .inr (0, [.ref q1, .ref q2, .ref q3, .null])) :: ((q1, .inl (G.2 3, 16, .inr (.inr (.inr (.inr (fun i => if i < 16 then some (r i) else none)))))) :: (List.range 16).map (fun i => (r i, rwL G (fun _ => 0))))) ++ [(q2, rwL G (fun _ => 0)), (q3, rwL G (fun _ => 0))])) d_D_init_37 (k_Diagram g) wc_G_init (List.mem_of_getElem? (i := 0) rfl) w_2 w_26 rfl hd_G_init ⟨(Nat.le_of_ble_eq_true rfl), (Nat.le_of_ble_eq_true rfl)⟩ rfl rfl (Nat.le_of_ble_eq_true rfl) ⟨(Nat.le_of_ble_eq_true rfl), (Nat.le_of_ble_eq_true rfl)⟩ ?_
  rintro ws2 ⟨q5, q6, rfl⟩
  refine Wv.wld (ws' := (((h0, .inr (0, [.ref q1, .ref q2, .ref q3, .null])) :: ((q1, .inl (G.2 3, 16, .inr (.inr (.inr (.inr (fun i => if i < 16 then some (r i) else none)))))) :: (List.range 16).map (fun i => (r i, rwL G (fun _ => 0))))) ++ [(q2, rwL G (fun _ => 0)), (q3, rwL G (fun _ => 0)), (g, .inr (1, [.ref q5, .ref q6, .int 0])), (q5, .inl (G.2 0, 4096, .inl (fun _ => 0))), (q6, .inl (G.2 0, 1024, .inl (fun _ => 0)))])) (by rw [List.append_assoc]; rfl) ?_
  refine r_putF (pc := 40) h 0 3 (ty := .object "DiagramBench$Diagram") (ws' := (((h0, .inr (0, [.ref q1, .ref q2, .ref q3, .ref g])) :: ((q1, .inl (G.2 3, 16, .inr (.inr (.inr (.inr (fun i => if i < 16 then some (r i) else none)))))) :: (List.range 16).map (fun i => (r i, rwL G (fun _ => 0))))) ++ [(q2, rwL G (fun _ => 0)), (q3, rwL G (fun _ => 0)), (g, .inr (1, [.ref q5, .ref q6, .int 0])), (q5, .inl (G.2 0, 4096, .inl (fun _ => 0))), (q6, .inl (G.2 0, 1024, .inl (fun _ => 0)))])) t_D t_D_ok n_D d_D_init_40 rfl rfl (by decide) in_D w_45 rfl hni rfl (by decide +kernel) rfl rfl (Nat.le_of_ble_eq_true rfl) rfl ?_
  refine Wv.wld (ws' := [(h0, .inr (0, [.ref q1, .ref q2, .ref q3, .ref g])), (q1, .inl (G.2 3, 16, .inr (.inr (.inr (.inr (fun i => if i < 16 then some (r i) else none))))))] ++ ((List.range 16).map (fun i => (r i, rwL G (fun _ => 0))) ++ [(q2, rwL G (fun _ => 0)), (q3, rwL G (fun _ => 0)), (g, .inr (1, [.ref q5, .ref q6, .int 0])), (q5, .inl (G.2 0, 4096, .inl (fun _ => 0))), (q6, .inl (G.2 0, 1024, .inl (fun _ => 0)))])) rfl ?_
  refine Wv.swp3 ?_
  exact r_vretK (pc := 43) h hr ⟨aF h0 q1 q2 q3 g q5 q6 r, rfl, aF_cw.symm⟩ d_D_init_43
def bF (h0 q1 q2 q3 q4 : Nat) (r : Nat → Nat) : Nat → Nat := fun k => match k with
  | 0 => h0 | 1 => q1 | 2 => q2 | 3 => q3 | 4 => q4 | k + 5 => r k
theorem bF_r {h0 q1 q2 q3 q4 : Nat} {r : Nat → Nat} (i : Nat) : bF h0 q1 q2 q3 q4 r (5 + i) = r i := by
  rw [Nat.add_comm]; rfl
theorem bF_mw {h0 q1 q2 q3 q4 : Nat} {r : Nat → Nat} : mw G (bF h0 q1 q2 q3 q4 r) 0 (fun _ _ => false) (fun _ => false) (fun _ => 0) (fun _ => 0) = [(h0, .inr (2, [.int 0, .ref q1, .ref q2, .ref q3, .ref q4])), (q1, .inl (G.2 4, 16, .inr (.inr (.inr (.inr (fun i => if i < 16 then some (r i) else none))))))] ++ ([(q2, rwZ G (fun _ => false)), (q3, .inl (G.2 0, 16384, .inl (fun _ => 0))), (q4, .inl (G.2 0, 16384, .inl (fun _ => 0)))] ++ (List.range 16).map (fun i => (r i, rwZ G (fun _ => false)))) := by
  unfold mw
  simp only [bF_r]
  rfl
theorem k_Model (h0 : Nat) : Kc l y_M_init (.code y_M_init b_M_init 1 none :: TT) ({ frames := 1, cells := 20, slots := 50192, locals := 12 }) G [.ref h0] [(h0, .inr (2, [.int 0, .null, .null, .null, .null]))] (fun ws' => ∃ b : Nat → Nat, b 0 = h0 ∧ ws' = mw G b 0 (fun _ _ => false) (fun _ => false) (fun _ => 0) (fun _ => 0)) 20 50192 := by
  refine kc_intro (cc := b_M_init) (nL := 1) rfl (by decide) [(0, .ref h0)] rfl (Nat.le_of_ble_eq_true rfl) ?_
  intro p e s m below meth c A h hr hni
  refine r_aload_n (pc := 0) h 0 d_M_init_0 rfl rfl ?_
  refine r_obj (pc := 1) h d_M_init_1 w_350 w_19 w_20 (Nat.le_of_ble_eq_true rfl) (Nat.le_of_ble_eq_true rfl) ?_
  refine r_aload_n (pc := 4) h 0 d_M_init_4 rfl rfl ?_
  refine r_iconst (pc := 5) h (v := 0) d_M_init_5 (by decide) ?_
  refine r_put (pc := 6) h 0 0 (ty := .int) (ws' := [(h0, .inr (2, [.int 0, .null, .null, .null, .null]))]) t_M t_M_ok n_M d_M_init_6 rfl rfl (by decide) in_M (List.mem_cons_of_mem _ w_353) rfl (by decide +kernel) rfl rfl (Nat.le_of_ble_eq_true rfl) rfl ?_
  refine r_aload_n (pc := 9) h 0 d_M_init_9 rfl rfl ?_
  refine r_bipush (pc := 10) h (v := nI 16) d_M_init_10 (by decide) ?_
  refine r_sipush (pc := 12) h (v := nI 1024) d_M_init_12 (by decide) ?_
  refine r_mna (pc := 15) h 4 2 1024 (1024, .inl (fun x => bI ((fun _ => false) x))) d_M_init_15 rfl rfl (fun _ _ h => h) w_351 h.2.2.1.2.2.2.2.2.2.1 w_369 rfl rfl (by decide) (by decide) (by decide) rfl rfl (Nat.le_of_ble_eq_true rfl) (Nat.le_of_ble_eq_true rfl) (fun _ => arrV_new _ _ _) (fun q1 r => ?_)
  refine r_putF (pc := 19) h 0 1 (ty := .array (.array .boolean)) (ws' := ((h0, .inr (2, [.int 0, .ref q1, .null, .null, .null])) :: ((q1, .inl (G.2 4, 16, .inr (.inr (.inr (.inr (fun i => if i < 16 then some (r i) else none)))))) :: (List.range 16).map (fun i => (r i, rwZ G (fun _ => false)))))) t_M t_M_ok n_M d_M_init_19 rfl rfl (by decide) in_M w_354 rfl hni rfl (by decide +kernel) rfl rfl (Nat.le_of_ble_eq_true rfl) rfl ?_
  refine r_aload_n (pc := 22) h 0 d_M_init_22 rfl rfl ?_
  refine r_sipush (pc := 23) h (v := nI 1024) d_M_init_23 (by decide) ?_
  refine r_newa (pc := 26) h 2 1024 (1024, .inl (fun x => bI ((fun _ => false) x))) d_M_init_26 rfl rfl (fun _ _ h => h) w_369 (fun _ => rfl) rfl (by decide) (by decide) (Nat.le_of_ble_eq_true rfl) (Nat.le_of_ble_eq_true rfl) (fun q2 => ?_)
  refine r_putF (pc := 28) h 0 2 (ty := .array .boolean) (ws' := (((h0, .inr (2, [.int 0, .ref q1, .ref q2, .null, .null])) :: ((q1, .inl (G.2 4, 16, .inr (.inr (.inr (.inr (fun i => if i < 16 then some (r i) else none)))))) :: (List.range 16).map (fun i => (r i, rwZ G (fun _ => false))))) ++ [(q2, rwZ G (fun _ => false))])) t_M t_M_ok n_M d_M_init_28 rfl rfl (by decide) in_M w_355 rfl hni rfl (by decide +kernel) rfl rfl (Nat.le_of_ble_eq_true rfl) rfl ?_
  refine r_aload_n (pc := 31) h 0 d_M_init_31 rfl rfl ?_
  refine r_sipush (pc := 32) h (v := nI 16384) d_M_init_32 (by decide) ?_
  refine r_newa (pc := 35) h 0 16384 (16384, .inl (fun _ => 0)) d_M_init_35 rfl rfl (fun _ _ h => h) w_41 (fun _ => rfl) rfl (by decide) (by decide) (Nat.le_of_ble_eq_true rfl) (Nat.le_of_ble_eq_true rfl) (fun q3 => ?_)
  refine r_putF (pc := 37) h 0 3 (ty := .array .int) (ws' := (((h0, .inr (2, [.int 0, .ref q1, .ref q2, .ref q3, .null])) :: ((q1, .inl (G.2 4, 16, .inr (.inr (.inr (.inr (fun i => if i < 16 then some (r i) else none)))))) :: (List.range 16).map (fun i => (r i, rwZ G (fun _ => false))))) ++ [(q2, rwZ G (fun _ => false)), (q3, .inl (G.2 0, 16384, .inl (fun _ => 0)))])) t_M t_M_ok n_M d_M_init_37 rfl rfl (by decide) in_M w_356 rfl hni rfl (by decide +kernel) rfl rfl (Nat.le_of_ble_eq_true rfl) rfl ?_
  refine r_aload_n (pc := 40) h 0 d_M_init_40 rfl rfl ?_
  refine r_sipush (pc := 41) h (v := nI 16384) d_M_init_41 (by decide) ?_
  refine r_newa (pc := 44) h 0 16384 (16384, .inl (fun _ => 0)) d_M_init_44 rfl rfl (fun _ _ h => h) w_41 (fun _ => rfl) rfl (by decide) (by decide) (Nat.le_of_ble_eq_true rfl) (Nat.le_of_ble_eq_true rfl) (fun q4 => ?_)
  refine r_putF (pc := 46) h 0 4 (ty := .array .int) (ws' := (((h0, .inr (2, [.int 0, .ref q1, .ref q2, .ref q3, .ref q4])) :: ((q1, .inl (G.2 4, 16, .inr (.inr (.inr (.inr (fun i => if i < 16 then some (r i) else none)))))) :: (List.range 16).map (fun i => (r i, rwZ G (fun _ => false))))) ++ [(q2, rwZ G (fun _ => false)), (q3, .inl (G.2 0, 16384, .inl (fun _ => 0))), (q4, .inl (G.2 0, 16384, .inl (fun _ => 0)))])) t_M t_M_ok n_M d_M_init_46 rfl rfl (by decide) in_M w_357 rfl hni rfl (by decide +kernel) rfl rfl (Nat.le_of_ble_eq_true rfl) rfl ?_
  refine Wv.wld (ws' := [(h0, .inr (2, [.int 0, .ref q1, .ref q2, .ref q3, .ref q4])), (q1, .inl (G.2 4, 16, .inr (.inr (.inr (.inr (fun i => if i < 16 then some (r i) else none))))))] ++ ((List.range 16).map (fun i => (r i, rwZ G (fun _ => false))) ++ [(q2, rwZ G (fun _ => false)), (q3, .inl (G.2 0, 16384, .inl (fun _ => 0))), (q4, .inl (G.2 0, 16384, .inl (fun _ => 0)))])) rfl ?_
  refine Wv.swp3 ?_
  exact r_vretK (pc := 49) h hr ⟨bF h0 q1 q2 q3 q4 r, rfl, bF_mw.symm⟩ d_M_init_49
end KD
