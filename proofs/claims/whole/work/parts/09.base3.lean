-- loops; throw new E("text")
section RL
variable {p : Program} {l : Launch} {e : Env} {R : Room} {s : State} {m : MethodId} {args : Array Value} {below : List Frame} {meth : Method} {c : Code} {cells slots : Nat} {Q : State → Prop} {G : gG} {A : Nat → Prop} {nL : Nat} {cc : ByteArray} {own : String} {wd : Cond} {ws ws' : va_W} {pc : Nat} {lv : List (Nat × Value)} {st : List Value}
theorem Wv.loop (n : Nat) (Wd : Nat → va_W) (Lv : Nat → List (Nat × Value)) (hend : Wv p l e R s m args below meth c G A nL cells slots Q (Wd n) pc (Lv n) st) (hstep : ∀ i, i < n → Wv p l e R s m args below meth c G A nL cells slots Q (Wd (i + 1)) pc (Lv (i + 1)) st → Wv p l e R s m args below meth c G A nL cells slots Q (Wd i) pc (Lv i) st) : Wv p l e R s m args below meth c G A nL cells slots Q (Wd 0) pc (Lv 0) st :=
  up_to n (P := fun i => Wv p l e R s m args below meth c G A nL cells slots Q (Wd i) pc (Lv i) st) hend hstep
theorem r_throw (h : Fx p m c s args meth own cc nL (wd :: TT) G A) (hl : l.stackTraces = false) (hex : ∀ x ∈ c.exceptionTable.toList, False) {E text : String} {names : List String} {ik is ic : Nat} {Qc : Array Value → State → Outcome → State → Prop}
    (hcls : Bundle.fit E = true) (hnames : ∀ n ∈ names, Bundle.fit n = true) (hk : Cond.classLink own ik E ∈ TT) (hini : Cond.initialized E ∈ TT) (hstr : (own, is, text) ∈ strs)
    (h1 : ∀ w ∈ (vx_atS own ic E names).filter goodWord, w ∈ TT) (h2 : ∀ w ∈ (vx_atS own ic E names).filter (fun w => !goodWord w), w ∈ nws)
    (hgood : ∀ w ∈ Cond.classLink own ik E :: Cond.initialized E :: vx_atS own ic E names, vx_ot w = true)
    (d0 : decode cc pc = .ok (.new ik, 3)) (d3 : decode cc (pc + 3) = .ok (.dup, 1)) (d4 : decode cc (pc + 4) = .ok (.ldc is, 2)) (d6 : decode cc (pc + 6) = .ok (.invokespecial ic, 3)) (d9 : decode cc (pc + 9) = .ok (.athrow, 1))
    (hRframes : names.length + 3 < R.frames) (hRlocals : (st.map fun v => v.category).sum + (13 * (names.length + 1) + 43) ≤ R.locals) (hRcells : 0 + 1 ≤ R.cells) (hRslots : 0 + 6 ≤ R.slots) : Wv p l e R s m args below meth c G A nL 0 0 (vx_MQ below Qc (XE G A E ws) args s 1 6 A) ws pc lv st := by
  intro H locs ls hP hD hS hl9
  obtain ⟨sa, hsa⟩ := h.2.2.1.2.2.2.1 _ hstr
  have hT : ∀ w ∈ TT, w.before args s = true := fun w hw => h.1.2.2.2.2 _ (List.mem_cons_of_mem _ hw)
  refine vx_throwS h.1.1 h.1.2.1 hl h.1.2.2.2.1 hcls hnames (hT _ hk) (hT _ hini) hsa (vx_hat (B := nws) (fun w hw => hT w (h1 w hw)) h2 (fun w hw => va_Nw.use (by
    simp only [nws, List.mem_cons, List.not_mem_nil, or_false] at hw
    rcases hw with rfl | rfl | rfl | rfl | rfl | rfl | rfl | rfl | rfl | rfl | rfl | rfl | rfl <;> rfl) (h.nw hw))) hgood h.2.2.1.2.1 h.2.2.1.2.2.1 hS (hl9.1.trans h.1.2.2.1.symm) d0 d3 d4 d6 d9 (fun x hx => (hex x hx).elim) hRframes hRlocals hRcells hRslots h.2.2.2.2 ?_ hS.2.2 (Nat.le_refl _) (Nat.le_refl _)
  intro t ht hsz hold
  exact ⟨rfl, hP.kept (fun k q hk => hold q.1 (hP k q hk).lt), Nat.le_trans hS.1 hsz, fun q h1 h2 => by rw [hold q (Nat.lt_of_lt_of_le h1 hS.1)]; exact hS.2.1 q h1 h2⟩
end RL
abbrev IAE : String := "java/lang/IllegalArgumentException"
abbrev NSE : String := "java/util/NoSuchElementException"
abbrev upN : List String := ["java/lang/RuntimeException", "java/lang/Exception"]
theorem up_fit : ∀ n ∈ upN, Bundle.fit n = true := by decide +kernel
theorem iae_fit : Bundle.fit IAE = true := by decide +kernel
theorem nse_fit : Bundle.fit NSE = true := by decide +kernel
theorem iae_g : ∀ w ∈ Cond.classLink "DiagramBench" 121 IAE :: Cond.initialized IAE :: vx_atS "DiagramBench" 125 IAE upN, vx_ot w = true := by decide +kernel
theorem iae_2 : ∀ w ∈ (vx_atS "DiagramBench" 125 IAE upN).filter (fun w => !goodWord w), w ∈ nws := by decide +kernel
theorem iae_1 : ∀ w ∈ (vx_atS "DiagramBench" 125 IAE upN).filter goodWord, w ∈ TT := by decide +kernel
