-- the law's loop
def R_law : String := "DiagramBenchLaw"
def lw_P (b : Addr) (xs : List Int32) (args : Array Value) (s : State) : Prop := args = #[.ref b] ∧ s.IntsAt b xs ∧ xs.length ≤ 2560 ∧ (Jvm.Cond.and given_1 narrow_1).before args s = true
def lw_Q (_ : Array Value) (s : State) (o : Outcome) (t : State) : Prop := o = .returned (some (.int 1)) ∧ Framed s o t [] 601024 7293034
def lw_Z (below : List Frame) (a : Array Value) (s : State) : State → Prop := fun t => ∃ o, t.status = .running ∧ Ended t below o ∧ lw_Q a s o t
/-- the law's own end, with 1 on the stack, nothing written that was there before, its room as the claim has it -/
theorem lw_ret {p : Program} {l : Launch} {e : Env} {s : State} {m : MethodId} {below : List Frame} {meth : Method} {c : Code} {b : Nat} (hx : p.tables.exec = Jvm.exec) (hb : c.code = code) (hr : meth.sig.returnType = ret) (hlocks : meth.locks = false) {pc : Nat} {H : Heap} {ls : Array Slot} (hdg : decode code pc = .ok (.ireturn, 1)) : W p l e room_1 s m #[Value.ref b] below meth c H [] 601024 7293034 (lw_Z below #[Value.ref b] s) (F0 m pc ls [.int 1]) := by
  intro T hT X
  obtain ⟨fs, hret, hrun, hended, hW, hframe⟩ := X.leave (v := some (.int 1)) (hlocks := hlocks) (fun h => by rw [hr] at h; cases h)
  have hmeth' : T.vm.method? m = some meth := X.method'
  refine ⟨T.setFrames fs, ?_, .returned (some (.int 1)), hrun, hended, rfl, ⟨_, rfl⟩, hW, hframe⟩
  jvm_step X.here [X.here.top, hx, hb, hdg, hmeth', hr, ret, narrow_b1]
  (try refine ⟨rfl, ?_⟩); (try refine ⟨rfl, ?_⟩)
  first | (intro acts; rw [hret _ acts rfl rfl rfl]) | rw [hret _ _ rfl rfl rfl]
  exact Steps.refl _
/-- what holds at the law's entry: the machine, the code, the tables' words (any of lw_tbl by 'hts w (by decide +kernel)'), the script of L ints xs at the cell b, what the Statement gives of the start (any of its parts by flat_of_before) -/
def lw_At (p : Program) (s : State) (m : MethodId) (meth : Method) (c : Code) (b L : Nat) (xs : Nat → Int32) : Prop :=
  p.tables.exec = Jvm.exec ∧ c.code = code ∧ meth.sig.returnType = ret ∧ c.maxLocals = 7 ∧ s.vm.findClass R_law = some m.cls ∧ (∀ w ∈ lw_tbl, w.before #[Value.ref b] s = true) ∧ va_X b L xs s s.heap ∧ b < s.heap.size ∧ meth.locks = false ∧ (Jvm.Cond.and given_1 narrow_1).before #[Value.ref b] s = true

section LL
variable {p : Program} {l : Launch} {e : Env} {s : State} {m : MethodId} {args : Array Value} {below : List Frame} {meth : Method} {c : Code} {cells slots : Nat} {Q : State → Prop} {G : gG} {A : Nat → Prop} {wd : Cond} {a b : Nat → Nat} {o : Nat} {B L i : Nat} {xs : Nat → Int32}
  {hd : Nat → Nat → Int64} {wk sp : Nat → Int64} {ct : Int32} {ky nm : Nat → Int32} {of : Nat → Int64} {th : Int32} {rg : Nat → Nat → Bool} {mk : Nat → Bool} {fi fa : Nat → Int32}
theorem la_variable (h : Fx p m c s args meth "DiagramBenchLaw" code 7 (wd :: TT) G A) (hl : l.stackTraces = false) (hS : Sc A B L xs s) (hi : i + 5 ≤ L) (hc : cells + 1 ≤ room_1.cells) (hs : slots + 6 ≤ room_1.slots) (hT : tie hd rg) (K : Lq p l e s m args below meth c G A (cells + 1) (slots + 6) Q a o b 1114 (lvL a b o B i)) : Wv p l e room_1 s m args below meth c G A 7 cells slots Q (lW G a o b hd wk sp ct ky nm of th rg mk fi fa) 112 (lvL a b o B i) [] := by
  by_cases hB : okR 16 (xs (i + 1)) ∧ okR 10 (xs (i + 2))
  · obtain ⟨⟨t, ht, e1⟩, ⟨v, hv, e2⟩⟩ := hB
    exact lo_variable h hl hS hi hc hs hT K t ht e1 v hv e2
  · exact lx_variable h hl hS hi hc hs hT K hB
theorem la_only (h : Fx p m c s args meth "DiagramBenchLaw" code 7 (wd :: TT) G A) (hl : l.stackTraces = false) (hS : Sc A B L xs s) (hi : i + 5 ≤ L) (hc : cells + 1 ≤ room_1.cells) (hs : slots + 6 ≤ room_1.slots) (hT : tie hd rg) (K : Lq p l e s m args below meth c G A (cells + 1) (slots + 6) Q a o b 1114 (lvL a b o B i)) : Wv p l e room_1 s m args below meth c G A 7 cells slots Q (lW G a o b hd wk sp ct ky nm of th rg mk fi fa) 160 (lvL a b o B i) [] := by
  by_cases hB : okR 16 (xs (i + 1)) ∧ okR 1024 (xs (i + 2))
  · obtain ⟨⟨t, ht, e1⟩, ⟨y, hy, e2⟩⟩ := hB
    exact lo_only h hl hS hi hc hs hT K t ht e1 y hy e2
  · exact lx_only h hl hS hi hc hs hT K hB
theorem la_join (h : Fx p m c s args meth "DiagramBenchLaw" code 7 (wd :: TT) G A) (hl : l.stackTraces = false) (hS : Sc A B L xs s) (hi : i + 5 ≤ L) (hc : cells + 1 ≤ room_1.cells) (hs : slots + 6 ≤ room_1.slots) (hT : tie hd rg) (K : Lq p l e s m args below meth c G A (cells + 1) (slots + 6) Q a o b 1114 (lvL a b o B i)) : Wv p l e room_1 s m args below meth c G A 7 cells slots Q (lW G a o b hd wk sp ct ky nm of th rg mk fi fa) 208 (lvL a b o B i) [] := by
  by_cases hB : okR 16 (xs (i + 1)) ∧ okR 5 (xs (i + 2)) ∧ okR 16 (xs (i + 3)) ∧ okR 16 (xs (i + 4))
  · obtain ⟨⟨t, ht, e1⟩, ⟨k, hk, e2⟩, ⟨r1, hr1, e3⟩, ⟨r2, hr2, e4⟩⟩ := hB
    exact lo_join h hl hS hi hc hs hT K t ht e1 k hk e2 r1 hr1 e3 r2 hr2 e4
  · exact lx_join h hl hS hi hc hs hT K hB
theorem la_choose (h : Fx p m c s args meth "DiagramBenchLaw" code 7 (wd :: TT) G A) (hl : l.stackTraces = false) (hS : Sc A B L xs s) (hi : i + 5 ≤ L) (hc : cells + 1 ≤ room_1.cells) (hs : slots + 6 ≤ room_1.slots) (hT : tie hd rg) (K : Lq p l e s m args below meth c G A (cells + 1) (slots + 6) Q a o b 1114 (lvL a b o B i)) : Wv p l e room_1 s m args below meth c G A 7 cells slots Q (lW G a o b hd wk sp ct ky nm of th rg mk fi fa) 280 (lvL a b o B i) [] := by
  by_cases hB : okR 16 (xs (i + 1)) ∧ okR 16 (xs (i + 2)) ∧ okR 16 (xs (i + 3)) ∧ okR 16 (xs (i + 4))
  · obtain ⟨⟨t, ht, e1⟩, ⟨r1, hr1, e2⟩, ⟨r2, hr2, e3⟩, ⟨r3, hr3, e4⟩⟩ := hB
    exact lo_choose h hl hS hi hc hs hT K t ht e1 r1 hr1 e2 r2 hr2 e3 r3 hr3 e4
  · exact lx_choose h hl hS hi hc hs hT K hB
theorem la_cut (h : Fx p m c s args meth "DiagramBenchLaw" code 7 (wd :: TT) G A) (hl : l.stackTraces = false) (hS : Sc A B L xs s) (hi : i + 5 ≤ L) (hc : cells + 1 ≤ room_1.cells) (hs : slots + 6 ≤ room_1.slots) (hT : tie hd rg) (K : Lq p l e s m args below meth c G A (cells + 1) (slots + 6) Q a o b 1114 (lvL a b o B i)) : Wv p l e room_1 s m args below meth c G A 7 cells slots Q (lW G a o b hd wk sp ct ky nm of th rg mk fi fa) 352 (lvL a b o B i) [] := by
  by_cases hB : okR 16 (xs (i + 1)) ∧ okR 16 (xs (i + 2)) ∧ okR 10 (xs (i + 3))
  · obtain ⟨⟨t, ht, e1⟩, ⟨r1, hr1, e2⟩, ⟨v, hv, e3⟩⟩ := hB
    by_cases hz : (xs (i + 4)) = 0
    · exact lo_cut_false h hl hS hi hc hs hT K t ht e1 r1 hr1 e2 v hv e3 hz
    · exact lo_cut_true h hl hS hi hc hs hT K t ht e1 r1 hr1 e2 v hv e3 hz
  · by_cases hz : (xs (i + 4)) = 0
    · exact lx_cut_false h hl hS hi hc hs hT K hB hz
    · exact lx_cut_true h hl hS hi hc hs hT K hB hz
theorem la_put (h : Fx p m c s args meth "DiagramBenchLaw" code 7 (wd :: TT) G A) (hl : l.stackTraces = false) (hS : Sc A B L xs s) (hi : i + 5 ≤ L) (hc : cells + 1 ≤ room_1.cells) (hs : slots + 6 ≤ room_1.slots) (hT : tie hd rg) (K : Lq p l e s m args below meth c G A (cells + 1) (slots + 6) Q a o b 1114 (lvL a b o B i)) : Wv p l e room_1 s m args below meth c G A 7 cells slots Q (lW G a o b hd wk sp ct ky nm of th rg mk fi fa) 440 (lvL a b o B i) [] := by
  by_cases hB : okR 16 (xs (i + 1)) ∧ okR 16 (xs (i + 2)) ∧ okR 10 (xs (i + 3)) ∧ okR 16 (xs (i + 4))
  · obtain ⟨⟨t, ht, e1⟩, ⟨r1, hr1, e2⟩, ⟨v, hv, e3⟩, ⟨r2, hr2, e4⟩⟩ := hB
    exact lo_put h hl hS hi hc hs hT K t ht e1 r1 hr1 e2 v hv e3 r2 hr2 e4
  · exact lx_put h hl hS hi hc hs hT K hB
theorem la_bound (h : Fx p m c s args meth "DiagramBenchLaw" code 7 (wd :: TT) G A) (hl : l.stackTraces = false) (hS : Sc A B L xs s) (hi : i + 5 ≤ L) (hc : cells + 1 ≤ room_1.cells) (hs : slots + 6 ≤ room_1.slots) (hT : tie hd rg) (K : Lq p l e s m args below meth c G A (cells + 1) (slots + 6) Q a o b 1114 (lvL a b o B i)) : Wv p l e room_1 s m args below meth c G A 7 cells slots Q (lW G a o b hd wk sp ct ky nm of th rg mk fi fa) 512 (lvL a b o B i) [] := by
  by_cases hB : okR 16 (xs (i + 1)) ∧ okR 16 (xs (i + 2)) ∧ okR 1024 (xs (i + 3))
  · obtain ⟨⟨t, ht, e1⟩, ⟨r1, hr1, e2⟩, ⟨S9, hS9, e3⟩⟩ := hB
    by_cases hz : (xs (i + 4)) = 0
    · exact lo_bound_false h hl hS hi hc hs hT K t ht e1 r1 hr1 e2 S9 hS9 e3 hz
    · exact lo_bound_true h hl hS hi hc hs hT K t ht e1 r1 hr1 e2 S9 hS9 e3 hz
  · by_cases hz : (xs (i + 4)) = 0
    · exact lx_bound_false h hl hS hi hc hs hT K hB hz
    · exact lx_bound_true h hl hS hi hc hs hT K hB hz
theorem la_swap (h : Fx p m c s args meth "DiagramBenchLaw" code 7 (wd :: TT) G A) (hl : l.stackTraces = false) (hS : Sc A B L xs s) (hi : i + 5 ≤ L) (hc : cells + 1 ≤ room_1.cells) (hs : slots + 6 ≤ room_1.slots) (hT : tie hd rg) (K : Lq p l e s m args below meth c G A (cells + 1) (slots + 6) Q a o b 1114 (lvL a b o B i)) : Wv p l e room_1 s m args below meth c G A 7 cells slots Q (lW G a o b hd wk sp ct ky nm of th rg mk fi fa) 600 (lvL a b o B i) [] := by
  by_cases hB : okR 16 (xs (i + 1)) ∧ okR 16 (xs (i + 2)) ∧ okR 10 (xs (i + 3)) ∧ okR 10 (xs (i + 4))
  · obtain ⟨⟨t, ht, e1⟩, ⟨r1, hr1, e2⟩, ⟨v, hv, e3⟩, ⟨w, hw, e4⟩⟩ := hB
    exact lo_swap h hl hS hi hc hs hT K t ht e1 r1 hr1 e2 v hv e3 w hw e4
  · exact lx_swap h hl hS hi hc hs hT K hB
theorem la_is (h : Fx p m c s args meth "DiagramBenchLaw" code 7 (wd :: TT) G A) (hl : l.stackTraces = false) (hS : Sc A B L xs s) (hi : i + 5 ≤ L) (hc : cells + 1 ≤ room_1.cells) (hs : slots + 6 ≤ room_1.slots) (hT : tie hd rg) (K : Lq p l e s m args below meth c G A (cells + 1) (slots + 6) Q a o b 1114 (lvL a b o B i)) : Wv p l e room_1 s m args below meth c G A 7 cells slots Q (lW G a o b hd wk sp ct ky nm of th rg mk fi fa) 672 (lvL a b o B i) [] := by
  by_cases hB : okR 16 (xs (i + 1)) ∧ okR 1024 (xs (i + 2))
  · obtain ⟨⟨r1, hr1, e1⟩, ⟨y, hy, e2⟩⟩ := hB
    cases hv : sv (hd r1) y
    · exact lo_is_false h hl hS hi hc hs hT K r1 hr1 e1 y hy e2 hv
    · exact lo_is_true h hl hS hi hc hs hT K r1 hr1 e1 y hy e2 hv
  · exact lx_is h hl hS hi hc hs hT K hB
theorem la_ways (h : Fx p m c s args meth "DiagramBenchLaw" code 7 (wd :: TT) G A) (hl : l.stackTraces = false) (hS : Sc A B L xs s) (hi : i + 5 ≤ L) (hc : cells + 1 ≤ room_1.cells) (hs : slots + 6 ≤ room_1.slots) (hT : tie hd rg) (K : Lq p l e s m args below meth c G A (cells + 1) (slots + 6) Q a o b 1114 (lvL a b o B i)) : Wv p l e room_1 s m args below meth c G A 7 cells slots Q (lW G a o b hd wk sp ct ky nm of th rg mk fi fa) 747 (lvL a b o B i) [] := by
  by_cases hB : okR 16 (xs (i + 1))
  · obtain ⟨r1, hr1, e1⟩ := hB
    exact lo_ways h hl hS hi hc hs hT K r1 hr1 e1
  · exact lx_ways h hl hS hi hc hs hT K hB
theorem la_first (h : Fx p m c s args meth "DiagramBenchLaw" code 7 (wd :: TT) G A) (hl : l.stackTraces = false) (hS : Sc A B L xs s) (hi : i + 5 ≤ L) (hc : cells + 1 ≤ room_1.cells) (hs : slots + 6 ≤ room_1.slots) (hT : tie hd rg) (K : Lq p l e s m args below meth c G A (cells + 1) (slots + 6) Q a o b 1114 (lvL a b o B i)) : Wv p l e room_1 s m args below meth c G A 7 cells slots Q (lW G a o b hd wk sp ct ky nm of th rg mk fi fa) 803 (lvL a b o B i) [] := by
  by_cases hB : okR 16 (xs (i + 1))
  · obtain ⟨r1, hr1, e1⟩ := hB
    rcases isF_or (sv (hd r1)) with hn | ⟨x0, hF⟩
    · exact ln_first h hl hS hi hc hs hT K r1 hr1 e1 hn
    · exact lo_first h hl hS hi hc hs hT K r1 hr1 e1 x0 hF
  · exact lx_first h hl hS hi hc hs hT K hB
theorem la_hangs (h : Fx p m c s args meth "DiagramBenchLaw" code 7 (wd :: TT) G A) (hl : l.stackTraces = false) (hS : Sc A B L xs s) (hi : i + 5 ≤ L) (hc : cells + 1 ≤ room_1.cells) (hs : slots + 6 ≤ room_1.slots) (hT : tie hd rg) (K : Lq p l e s m args below meth c G A (cells + 1) (slots + 6) Q a o b 1114 (lvL a b o B i)) : Wv p l e room_1 s m args below meth c G A 7 cells slots Q (lW G a o b hd wk sp ct ky nm of th rg mk fi fa) 859 (lvL a b o B i) [] := by
  by_cases hB : okR 16 (xs (i + 1))
  · obtain ⟨r1, hr1, e1⟩ := hB
    exact lo_hangs h hl hS hi hc hs hT K r1 hr1 e1
  · exact lx_hangs h hl hS hi hc hs hT K hB
theorem la_same (h : Fx p m c s args meth "DiagramBenchLaw" code 7 (wd :: TT) G A) (hl : l.stackTraces = false) (hS : Sc A B L xs s) (hi : i + 5 ≤ L) (hc : cells + 1 ≤ room_1.cells) (hs : slots + 6 ≤ room_1.slots) (hT : tie hd rg) (K : Lq p l e s m args below meth c G A (cells + 1) (slots + 6) Q a o b 1114 (lvL a b o B i)) : Wv p l e room_1 s m args below meth c G A 7 cells slots Q (lW G a o b hd wk sp ct ky nm of th rg mk fi fa) 915 (lvL a b o B i) [] := by
  by_cases hB : okR 16 (xs (i + 1)) ∧ okR 16 (xs (i + 2))
  · obtain ⟨⟨r1, hr1, e1⟩, ⟨r2, hr2, e2⟩⟩ := hB
    cases hv : bD (∀ i, i < 16 → hd r1 i = hd r2 i)
    · exact lo_same_false h hl hS hi hc hs hT K r1 hr1 e1 r2 hr2 e2 hv
    · exact lo_same_true h hl hS hi hc hs hT K r1 hr1 e1 r2 hr2 e2 hv
  · exact lx_same h hl hS hi hc hs hT K hB
theorem la_parts (h : Fx p m c s args meth "DiagramBenchLaw" code 7 (wd :: TT) G A) (hl : l.stackTraces = false) (hS : Sc A B L xs s) (hi : i + 5 ≤ L) (hc : cells + 1 ≤ room_1.cells) (hs : slots + 6 ≤ room_1.slots) (hT : tie hd rg) (K : Lq p l e s m args below meth c G A (cells + 1) (slots + 6) Q a o b 1114 (lvL a b o B i)) : Wv p l e room_1 s m args below meth c G A 7 cells slots Q (lW G a o b hd wk sp ct ky nm of th rg mk fi fa) 990 (lvL a b o B i) [] := by
  by_cases hB : okR 16 (xs (i + 1))
  · obtain ⟨r1, hr1, e1⟩ := hB
    exact lo_parts h hl hS hi hc hs hT K r1 hr1 e1
  · exact lx_parts h hl hS hi hc hs hT K hB
theorem la_together (h : Fx p m c s args meth "DiagramBenchLaw" code 7 (wd :: TT) G A) (hl : l.stackTraces = false) (hS : Sc A B L xs s) (hi : i + 5 ≤ L) (hc : cells + 1 ≤ room_1.cells) (hs : slots + 6 ≤ room_1.slots) (hT : tie hd rg) (K : Lq p l e s m args below meth c G A (cells + 1) (slots + 6) Q a o b 1114 (lvL a b o B i)) : Wv p l e room_1 s m args below meth c G A 7 cells slots Q (lW G a o b hd wk sp ct ky nm of th rg mk fi fa) 1046 (lvL a b o B i) [] := by
  by_cases hB : ¬ (xs (i + 1)) < 0 ∧ ¬ (xs (i + 2)) ≤ (xs (i + 1)) ∧ (xs (i + 2)) ≤ nI 16
  · obtain ⟨r1, r2, hab, hb16, e1, e2⟩ := tg_in hB
    exact lo_together h hl hS hi hc hs hT K r1 r2 hab hb16 e1 e2
  · exact lx_together h hl hS hi hc hs hT K hB
theorem lc_step (h : Fx p m c s args meth "DiagramBenchLaw" code 7 (wd :: TT) G A) (hl : l.stackTraces = false) (hS : Sc A B L xs s) (hi : i + 5 ≤ L) (hc : cells + 1 ≤ room_1.cells) (hs : slots + 6 ≤ room_1.slots) (hT : tie hd rg) (K : Lq p l e s m args below meth c G A (cells + 1) (slots + 6) Q a o b 1114 (lvL a b o B i)) : Wv p l e room_1 s m args below meth c G A 7 cells slots Q (lW G a o b hd wk sp ct ky nm of th rg mk fi fa) 32 (lvL a b o B i) [] := by
  refine r_aload_n (pc := 32) h 4 d_L_law_32 rfl rfl ?_
  refine r_iload (pc := 33) h 0 d_L_law_33 rfl ?_
  refine r_sld (pc := 35) h hS i (z := xs i) d_L_law_35 rfl (by omega) rfl ?_
  refine r_bipush (pc := 36) h (v := nI 15) d_L_law_36 (by decide) ?_
  obtain ⟨j, hj, ej⟩ := sw_15 (xs i)
  refine r_iand (pc := 38) h (z := nI j) d_L_law_38 ej ?_
  rcases (show j = 0 ∨ j = 1 ∨ j = 2 ∨ j = 3 ∨ j = 4 ∨ j = 5 ∨ j = 6 ∨ j = 7 ∨ j = 8 ∨ j = 9 ∨ j = 10 ∨ j = 11 ∨ j = 12 ∨ j = 13 ∨ j = 14 ∨ j = 15 by omega) with rfl | rfl | rfl | rfl | rfl | rfl | rfl | rfl | rfl | rfl | rfl | rfl | rfl | rfl | rfl | rfl
  · exact r_tIn (pc := 39) h (tgt := 112) d_L_law_39 (by decide) (by decide) (off := 73) rfl (by decide) (la_variable h hl hS hi hc hs hT K)
  · exact r_tIn (pc := 39) h (tgt := 160) d_L_law_39 (by decide) (by decide) (off := 121) rfl (by decide) (la_only h hl hS hi hc hs hT K)
  · exact r_tIn (pc := 39) h (tgt := 208) d_L_law_39 (by decide) (by decide) (off := 169) rfl (by decide) (la_join h hl hS hi hc hs hT K)
  · exact r_tIn (pc := 39) h (tgt := 280) d_L_law_39 (by decide) (by decide) (off := 241) rfl (by decide) (la_choose h hl hS hi hc hs hT K)
  · exact r_tIn (pc := 39) h (tgt := 352) d_L_law_39 (by decide) (by decide) (off := 313) rfl (by decide) (la_cut h hl hS hi hc hs hT K)
  · exact r_tIn (pc := 39) h (tgt := 440) d_L_law_39 (by decide) (by decide) (off := 401) rfl (by decide) (la_put h hl hS hi hc hs hT K)
  · exact r_tIn (pc := 39) h (tgt := 512) d_L_law_39 (by decide) (by decide) (off := 473) rfl (by decide) (la_bound h hl hS hi hc hs hT K)
  · exact r_tIn (pc := 39) h (tgt := 600) d_L_law_39 (by decide) (by decide) (off := 561) rfl (by decide) (la_swap h hl hS hi hc hs hT K)
  · exact r_tIn (pc := 39) h (tgt := 672) d_L_law_39 (by decide) (by decide) (off := 633) rfl (by decide) (la_is h hl hS hi hc hs hT K)
  · exact r_tIn (pc := 39) h (tgt := 747) d_L_law_39 (by decide) (by decide) (off := 708) rfl (by decide) (la_ways h hl hS hi hc hs hT K)
  · exact r_tIn (pc := 39) h (tgt := 803) d_L_law_39 (by decide) (by decide) (off := 764) rfl (by decide) (la_first h hl hS hi hc hs hT K)
  · exact r_tIn (pc := 39) h (tgt := 859) d_L_law_39 (by decide) (by decide) (off := 820) rfl (by decide) (la_hangs h hl hS hi hc hs hT K)
  · exact r_tIn (pc := 39) h (tgt := 915) d_L_law_39 (by decide) (by decide) (off := 876) rfl (by decide) (la_same h hl hS hi hc hs hT K)
  · exact r_tIn (pc := 39) h (tgt := 990) d_L_law_39 (by decide) (by decide) (off := 951) rfl (by decide) (la_parts h hl hS hi hc hs hT K)
  · exact r_tIn (pc := 39) h (tgt := 1046) d_L_law_39 (by decide) (by decide) (off := 1007) rfl (by decide) (la_together h hl hS hi hc hs hT K)
  · exact r_tOut (pc := 39) h (tgt := 1114) d_L_law_39 (by decide) (by decide) (Wv.wid (Nat.le_succ _) (Nat.le_add_right _ 6) (K _ _ _ _ _ _ _ _ _ _ _ _ hT))
theorem nI_i5 (k : Nat) : nI (5 * k) + Int32.ofInt 5 = nI (5 * (k + 1)) := nI_add (5 * k) 5
theorem lp {C0 S0 N : Nat} (h : Fx p m c s args meth "DiagramBenchLaw" code 7 (wd :: TT) G A) (hl : l.stackTraces = false) (hS : Sc A B L xs s) (hN1 : 5 * N ≤ L) (hN2 : L < 5 * N + 5) (hC : C0 + 512 ≤ 601024) (hS0 : S0 + 3072 ≤ 7293034)
    (hE : Lq p l e s m args below meth c G A (C0 + N) (S0 + 6 * N) Q a o b 1120 (lvL a b o B (5 * N))) : ∀ d k, k + d = N → Lq p l e s m args below meth c G A (C0 + k) (S0 + 6 * k) Q a o b 23 (lvL a b o B (5 * k)) := by
  have hL := hS.2.2.2
  intro d
  induction d with
  | zero =>
    intro k hk hd wk sp ct ky nm of th rg mk fi fa hT
    have ek : k = N := by omega
    subst ek
    refine r_iload (pc := 23) h 0 d_L_law_23 rfl ?_
    refine r_aload_n (pc := 25) h 4 d_L_law_25 rfl rfl ?_
    refine r_slen (pc := 26) h hS d_L_law_26 ?_
    refine r_iconst (pc := 27) h (v := nI 5) d_L_law_27 (by decide) ?_
    refine r_isub (pc := 28) h (z := nI L - nI 5) d_L_law_28 rfl ?_
    refine r_icmp_gt_t (pc := 29) h (tgt := 1120) d_L_law_29 (by decide) (lw_no hL (by omega) (by omega)) ?_
    exact hE hd wk sp ct ky nm of th rg mk fi fa hT
  | succ d ih =>
    intro k hk hd wk sp ct ky nm of th rg mk fi fa hT
    refine r_iload (pc := 23) h 0 d_L_law_23 rfl ?_
    refine r_aload_n (pc := 25) h 4 d_L_law_25 rfl rfl ?_
    refine r_slen (pc := 26) h hS d_L_law_26 ?_
    refine r_iconst (pc := 27) h (v := nI 5) d_L_law_27 (by decide) ?_
    refine r_isub (pc := 28) h (z := nI L - nI 5) d_L_law_28 rfl ?_
    refine r_icmp_gt_f (pc := 29) h (tgt := 1120) d_L_law_29 (by decide) (lw_go hL (by omega)) ?_
    refine lc_step h hl hS (by omega) (show C0 + k + 1 ≤ 601024 by omega) (show S0 + 6 * k + 6 ≤ 7293034 by omega) hT ?_
    intro hd wk sp ct ky nm of th rg mk fi fa hT
    refine r_iinc (pc := 1114) h (v := nI (5 * (k + 1))) (lv' := lvL a b o B (5 * (k + 1))) 0 d_L_law_1114 rfl (nI_i5 k) (by decide) rfl ?_
    refine r_goto (pc := 1117) h (tgt := 23) d_L_law_1117 (by decide) ?_
    have h9 := ih (k + 1) (by omega)
    rw [show C0 + (k + 1) = C0 + k + 1 by omega, show S0 + 6 * (k + 1) = S0 + 6 * k + 6 by omega] at h9
    exact h9 hd wk sp ct ky nm of th rg mk fi fa hT
theorem lp_end (h : Fx p m c s #[Value.ref B] meth "DiagramBenchLaw" code 7 (wd :: TT) G (fun q => s.heap.size ≤ q)) (hr : meth.sig.returnType = ret) (hc : cells ≤ 601024) (hs : slots ≤ 7293034) (lv : List (Nat × Value)) : Lq p l e s m #[Value.ref B] below meth c G (fun q => s.heap.size ≤ q) cells slots (lw_Z below #[Value.ref B] s) a o b 1120 lv := by
  intro hd wk sp ct ky nm of th rg mk fi fa hT
  refine r_iconst (pc := 1120) h (v := 1) d_L_law_1120 (by decide) ?_
  intro H locs ls hP hD hS hl
  exact va_forget (fun q hq => hS.2.2 q hq) (W.widen hc hs (lw_ret h.1.1 h.1.2.1 hr h.2.2.2.2 d_L_law_1121))
theorem law_body (h : Fx p m c s #[Value.ref B] meth "DiagramBenchLaw" code 7 (wd :: TT) G (fun q => s.heap.size ≤ q)) (hl : l.stackTraces = false) (hr : meth.sig.returnType = ret) (hS : Sc (fun q => s.heap.size ≤ q) B L xs s) : Wv p l e room_1 s m #[Value.ref B] below meth c G (fun q => s.heap.size ≤ q) 7 0 0 (lw_Z below #[Value.ref B] s) [] 0 [(0, .ref B)] [] := by
  have hL := hS.2.2.2
  refine r_new (pc := 0) h t_D [.null, .null, .null, .null] d_L_law_0 (ci := 0) rfl in_D t_D_ok w_13 w_14 w_1 (fun j hj => by rcases (show j = 0 ∨ j = 1 ∨ j = 2 ∨ j = 3 by omega) with rfl | rfl | rfl | rfl <;> rfl) (Nat.le_of_ble_eq_true rfl) (Nat.le_of_ble_eq_true rfl) (fun h0 => ?_)
  refine r_dup (pc := 3) h d_L_law_3 rfl ?_
  refine r_init (pc := 4) h (wr := []) d_L_law_4 (k_DiagramBench h0) wc_D_init w_15 w_1 w_16 rfl hd_D_init ⟨(Nat.le_of_ble_eq_true rfl), (Nat.le_of_ble_eq_true rfl)⟩ rfl rfl (Nat.le_of_ble_eq_true rfl) ⟨(Nat.le_of_ble_eq_true rfl), (Nat.le_of_ble_eq_true rfl)⟩ ?_
  rintro ws2 ⟨a, rfl, rfl⟩
  refine Wv.wld (ws' := cw G a (fun _ _ => 0) (fun _ => 0) (fun _ => 0) 0 (fun _ => 0) (fun _ => 0)) rfl ?_
  refine r_astore_n (pc := 7) h (lv' := [(1, .ref (a 0)), (0, .ref B)]) d_L_law_7 rfl (by decide) rfl ?_
  refine r_new (pc := 8) h t_M [.int 0, .null, .null, .null, .null] d_L_law_8 (ci := 2) rfl in_M t_M_ok w_345 w_346 w_3 (fun j hj => by rcases (show j = 0 ∨ j = 1 ∨ j = 2 ∨ j = 3 ∨ j = 4 by omega) with rfl | rfl | rfl | rfl | rfl <;> rfl) (Nat.le_of_ble_eq_true rfl) (Nat.le_of_ble_eq_true rfl) (fun h0 => ?_)
  refine r_dup (pc := 11) h d_L_law_11 rfl ?_
  refine r_init (pc := 12) h d_L_law_12 (k_Model h0) wc_M_init w_347 w_3 w_348 rfl hd_M_init ⟨(Nat.le_of_ble_eq_true rfl), (Nat.le_of_ble_eq_true rfl)⟩ rfl rfl (Nat.le_of_ble_eq_true rfl) ⟨(Nat.le_of_ble_eq_true rfl), (Nat.le_of_ble_eq_true rfl)⟩ ?_
  rintro ws2 ⟨b, rfl, rfl⟩
  refine r_astore_n (pc := 15) h (lv' := [(2, .ref (b 0)), (1, .ref (a 0)), (0, .ref B)]) d_L_law_15 rfl (by decide) rfl ?_
  refine r_iconst (pc := 16) h (v := nI 1) d_L_law_16 (by decide) ?_
  refine r_newa (pc := 17) h 1 1 (1, .inr (.inl (fun _ => 0))) d_L_law_17 rfl rfl (fun _ _ h => h) w_40 (fun _ => rfl) rfl (by decide) (by decide) (Nat.le_of_ble_eq_true rfl) (Nat.le_of_ble_eq_true rfl) (fun o => ?_)
  refine Wv.wld (List.append_assoc _ _ _) ?_
  refine Wv.swp3 ?_
  refine Wv.wld (List.append_assoc _ _ _).symm ?_
  refine r_astore_n (pc := 19) h (lv' := [(3, .ref o), (2, .ref (b 0)), (1, .ref (a 0)), (0, .ref B)]) d_L_law_19 rfl (by decide) rfl ?_
  refine r_iconst (pc := 20) h (v := nI 0) d_L_law_20 (by decide) ?_
  refine r_istore (pc := 21) h (lv' := lvL a b o B (5 * 0)) d_L_law_21 (by decide) rfl ?_
  exact lp (C0 := 45) (S0 := 55629) (N := L / 5) h hl hS (by omega) (by omega) (by decide) (by decide) (lp_end h hr (by omega) (by omega) _) (L / 5) 0 (by omega) _ _ _ _ _ _ _ _ _ _ _ _ tie_0
end LL
