section
/-- a private method of a class that the tables say can be made, by its rows of tables_1 -/
def lw_okq (q : MethodName × Nat) : Prop := (q.1.cls ≠ "java/lang/invoke/MethodHandle" ∧ q.1.cls ≠ "java/lang/invoke/VarHandle") ∧ Cond.instantiable q.1.cls q.2 ∈ tables_1 ∧ Cond.privateMethod q.1 ∈ tables_1 ∧ Cond.instanceMethod q.1 ∈ tables_1
theorem lw_p0 : lw_okq (⟨"java/lang/Throwable", "fillInStackTrace", "(I)Ljava/lang/Throwable;"⟩, 6) := ⟨⟨by decide +kernel, by decide +kernel⟩, List.mem_of_getElem? (i := 104) (by decide +kernel), List.mem_of_getElem? (i := 102) (by decide +kernel), List.mem_of_getElem? (i := 103) (by decide +kernel)⟩
theorem lw_p1 : lw_okq (⟨"DiagramBench", "store", "([JI)V"⟩, 4) := ⟨⟨by decide +kernel, by decide +kernel⟩, List.mem_of_getElem? (i := 14) (by decide +kernel), List.mem_of_getElem? (i := 198) (by decide +kernel), List.mem_of_getElem? (i := 199) (by decide +kernel)⟩
theorem lw_p2 : lw_okq (⟨"DiagramBench", "bindWork", "(IZ)V"⟩, 4) := ⟨⟨by decide +kernel, by decide +kernel⟩, List.mem_of_getElem? (i := 14) (by decide +kernel), List.mem_of_getElem? (i := 223) (by decide +kernel), List.mem_of_getElem? (i := 224) (by decide +kernel)⟩
theorem lw_p3 : lw_okq (⟨"DiagramBench", "isEmptyWork", "()Z"⟩, 4) := ⟨⟨by decide +kernel, by decide +kernel⟩, List.mem_of_getElem? (i := 14) (by decide +kernel), List.mem_of_getElem? (i := 265) (by decide +kernel), List.mem_of_getElem? (i := 266) (by decide +kernel)⟩
theorem lw_p4 : lw_okq (⟨"DiagramBench", "narrowWorkToFalse", "(I)Z"⟩, 4) := ⟨⟨by decide +kernel, by decide +kernel⟩, List.mem_of_getElem? (i := 14) (by decide +kernel), List.mem_of_getElem? (i := 285) (by decide +kernel), List.mem_of_getElem? (i := 286) (by decide +kernel)⟩
theorem lw_p5 : lw_okq (⟨"DiagramBench", "countNodes", "(II)I"⟩, 4) := ⟨⟨by decide +kernel, by decide +kernel⟩, List.mem_of_getElem? (i := 14) (by decide +kernel), List.mem_of_getElem? (i := 313) (by decide +kernel), List.mem_of_getElem? (i := 314) (by decide +kernel)⟩
theorem lw_p6 : lw_okq (⟨"DiagramBench$Diagram", "clear", "()V"⟩, 3) := ⟨⟨by decide +kernel, by decide +kernel⟩, List.mem_of_getElem? (i := 24) (by decide +kernel), List.mem_of_getElem? (i := 317) (by decide +kernel), List.mem_of_getElem? (i := 318) (by decide +kernel)⟩
theorem lw_p7 : lw_okq (⟨"DiagramBench$Diagram", "take", "([J)V"⟩, 3) := ⟨⟨by decide +kernel, by decide +kernel⟩, List.mem_of_getElem? (i := 24) (by decide +kernel), List.mem_of_getElem? (i := 324) (by decide +kernel), List.mem_of_getElem? (i := 325) (by decide +kernel)⟩
theorem lw_p8 : lw_okq (⟨"DiagramBench$Diagram", "nameOf", "(III)I"⟩, 3) := ⟨⟨by decide +kernel, by decide +kernel⟩, List.mem_of_getElem? (i := 24) (by decide +kernel), List.mem_of_getElem? (i := 329) (by decide +kernel), List.mem_of_getElem? (i := 330) (by decide +kernel)⟩
theorem lw_p9 : lw_okq (⟨"DiagramBench$Diagram", "slotOf", "(I)I"⟩, 3) := ⟨⟨by decide +kernel, by decide +kernel⟩, List.mem_of_getElem? (i := 24) (by decide +kernel), List.mem_of_getElem? (i := 333) (by decide +kernel), List.mem_of_getElem? (i := 334) (by decide +kernel)⟩
theorem lw_p10 : lw_okq (⟨"DiagramBenchModel", "bad", "(Z)Z"⟩, 5) := ⟨⟨by decide +kernel, by decide +kernel⟩, List.mem_of_getElem? (i := 346) (by decide +kernel), List.mem_of_getElem? (i := 385) (by decide +kernel), List.mem_of_getElem? (i := 386) (by decide +kernel)⟩
theorem lw_p11 : lw_okq (⟨"DiagramBenchModel", "keep", "(I)V"⟩, 5) := ⟨⟨by decide +kernel, by decide +kernel⟩, List.mem_of_getElem? (i := 346) (by decide +kernel), List.mem_of_getElem? (i := 400) (by decide +kernel), List.mem_of_getElem? (i := 401) (by decide +kernel)⟩
theorem lw_p12 : lw_okq (⟨"DiagramBenchModel", "count", "(II)I"⟩, 5) := ⟨⟨by decide +kernel, by decide +kernel⟩, List.mem_of_getElem? (i := 346) (by decide +kernel), List.mem_of_getElem? (i := 455) (by decide +kernel), List.mem_of_getElem? (i := 456) (by decide +kernel)⟩
theorem lw_p13 : lw_okq (⟨"DiagramBenchModel", "hangsOn", "(III)Z"⟩, 5) := ⟨⟨by decide +kernel, by decide +kernel⟩, List.mem_of_getElem? (i := 346) (by decide +kernel), List.mem_of_getElem? (i := 459) (by decide +kernel), List.mem_of_getElem? (i := 460) (by decide +kernel)⟩
theorem lw_p14 : lw_okq (⟨"DiagramBenchModel", "alike", "(IIIII)Z"⟩, 5) := ⟨⟨by decide +kernel, by decide +kernel⟩, List.mem_of_getElem? (i := 346) (by decide +kernel), List.mem_of_getElem? (i := 463) (by decide +kernel), List.mem_of_getElem? (i := 464) (by decide +kernel)⟩
def lw_privs_1 : List (MethodName × Nat) := [(⟨"java/lang/Throwable", "fillInStackTrace", "(I)Ljava/lang/Throwable;"⟩, 6), (⟨"DiagramBench", "store", "([JI)V"⟩, 4), (⟨"DiagramBench", "bindWork", "(IZ)V"⟩, 4), (⟨"DiagramBench", "isEmptyWork", "()Z"⟩, 4), (⟨"DiagramBench", "narrowWorkToFalse", "(I)Z"⟩, 4), (⟨"DiagramBench", "countNodes", "(II)I"⟩, 4), (⟨"DiagramBench$Diagram", "clear", "()V"⟩, 3), (⟨"DiagramBench$Diagram", "take", "([J)V"⟩, 3), (⟨"DiagramBench$Diagram", "nameOf", "(III)I"⟩, 3), (⟨"DiagramBench$Diagram", "slotOf", "(I)I"⟩, 3), (⟨"DiagramBenchModel", "bad", "(Z)Z"⟩, 5), (⟨"DiagramBenchModel", "keep", "(I)V"⟩, 5), (⟨"DiagramBenchModel", "count", "(II)I"⟩, 5), (⟨"DiagramBenchModel", "hangsOn", "(III)Z"⟩, 5), (⟨"DiagramBenchModel", "alike", "(IIIII)Z"⟩, 5)]
theorem lw_r1 : ∀ q ∈ lw_privs_1, lw_okq q := List.forall_mem_cons.mpr ⟨lw_p0, List.forall_mem_cons.mpr ⟨lw_p1, List.forall_mem_cons.mpr ⟨lw_p2, List.forall_mem_cons.mpr ⟨lw_p3, List.forall_mem_cons.mpr ⟨lw_p4, List.forall_mem_cons.mpr ⟨lw_p5, List.forall_mem_cons.mpr ⟨lw_p6, List.forall_mem_cons.mpr ⟨lw_p7, List.forall_mem_cons.mpr ⟨lw_p8, List.forall_mem_cons.mpr ⟨lw_p9, List.forall_mem_cons.mpr ⟨lw_p10, List.forall_mem_cons.mpr ⟨lw_p11, List.forall_mem_cons.mpr ⟨lw_p12, List.forall_mem_cons.mpr ⟨lw_p13, List.forall_mem_cons.mpr ⟨lw_p14, fun _ h => absurd h List.not_mem_nil⟩⟩⟩⟩⟩⟩⟩⟩⟩⟩⟩⟩⟩⟩⟩
def lw_privs : List (MethodName × Nat) := lw_privs_1
def lw_tbl : List Cond := k2_sels lw_privs ++ tables_1
theorem lw_privs_ok : ∀ q ∈ lw_privs, lw_okq q := lw_r1
/-- one list of words for all methods: the good words of the tables -/
def TT : List Cond := lw_tbl.filter goodWord
theorem TT_good : ∀ w ∈ TT, goodWord w = true := fun w hw => (List.mem_filter.mp hw).2
theorem TT_of {w : Cond} (i : Nat) (h : tables_1[i]? = some w) (g : goodWord w = true) : w ∈ TT := List.mem_filter.mpr ⟨List.mem_append_right _ (List.mem_of_getElem? h), g⟩
theorem TT_se {q : MethodName × Nat} (i : Nat) (h : lw_privs[i]? = some q) : Cond.selects q.1.cls q.1 q.1 ∈ TT := List.mem_filter.mpr ⟨List.mem_append_left _ (List.mem_map.mpr ⟨q, List.mem_of_getElem? h, rfl⟩), rfl⟩
end
section
/-- the word of an array over arrays of t, at any arguments -/
def va_AOA (t : FieldType) (U : State) : Prop := (Cond.arrayOver (.array t)).before #[] U = true
theorem va_AOA.moved {t : FieldType} {u U : State} (hvm : u.vm.Alike U.vm) (h : va_AOA t u) : va_AOA t U := by
  obtain ⟨comp, c, k, h1, h2, h3, h4, h5⟩ := arrayOverA_spec h
  obtain ⟨k', hk', he⟩ := hvm.2.2 _ _ h3
  have hi : (U.vm.classes.findIdx? fun (x : Class) => match x.kind with | .array component _ => component == comp | _ => false) = some c := by
    have e1 := va_idx_bare U.vm comp
    have e2 := va_idx_bare u.vm comp
    first | rw [hvm.bare_eq] at e1 | rw [← hvm.bare_eq] at e1
    exact e1.symm.trans (e2.trans h2)
  have hkind : k'.kind = .array comp (.array t) := by rw [he]; exact h4
  have f1 : U.vm.findClass (FieldType.array t).toString = some comp := by rw [hvm.findClass]; exact h1
  have f2 : U.vm.findClass ("[" ++ (FieldType.array t).toString) = some c := by rw [hvm.findClass]; exact h5
  unfold va_AOA Cond.before Cond.holds
  simp only [Cond.value]
  rw [f1, Option.bind_some]
  refine (congrArg (fun o : Option Nat => (o.bind (fun c => (U.vm.classes[c]?).map fun (k : Class) => match k.kind with | .array _ ty => decide (ty = FieldType.array t) && decide (U.vm.findClass ("[" ++ (FieldType.array t).toString) = some c) | _ => false) == some true)) hi).trans ?_
  simp [hk', hkind, f2]
theorem va_AOA.use {t : FieldType} {A : Array Value} {U : State} (h : va_AOA t U) : (Cond.arrayOver (.array t)).before A U = true := h
/-! ===== BEGIN words of one list among another's, by their places ===== -/
theorem goodIn_r {big : List Cond} (ws : List Cond) (ps : List Nat) (hp : ws = ps.filterMap (fun i => big[i]?)) (h : ws.all goodWord = true) : GoodIn big ws := by
  intro w hw
  have h1 := List.all_eq_true.mp h w hw
  rw [hp] at hw
  obtain ⟨i, -, hi⟩ := List.mem_filterMap.mp hw
  have hm : w ∈ big := by first | exact List.mem_of_getElem? hi | exact List.getElem?_mem hi
  exact ⟨hm, good_of_word h1⟩
theorem goodIn_app {big a b : List Cond} (ha : GoodIn big a) (hb : GoodIn big b) : GoodIn big (a ++ b) := fun w h => (List.mem_append.mp h).elim (ha w) (hb w)
theorem goodIn_ca {big a b : List Cond} {c : Cond} (ha : GoodIn big (c :: a)) (hb : GoodIn big b) : GoodIn big (c :: (a ++ b)) := fun w h => (List.mem_cons.mp h).elim (fun e => ha w (List.mem_cons.mpr (Or.inl e))) (fun h => (List.mem_append.mp h).elim (fun h => ha w (List.mem_cons.mpr (Or.inr h))) (hb w))
theorem goodIn_sub {big ws : List Cond} (hm : ∀ w ∈ ws, w ∈ big) (h : ws.all goodWord = true) : GoodIn big ws := fun w hw => ⟨hm w hw, good_of_word (List.all_eq_true.mp h w hw)⟩
/-! ===== END ===== -/

/-! ===== BEGIN new T[n][m]: the outer array a place, the inner ones among the pooled ===== -/
/-- f, but v at every address of l -/
def vr_up {α : Type} (f : Nat → α) (l : List Nat) (v : α) : Nat → α := fun a => if a ∈ l then v else f a
theorem vr_up_in {α : Type} {f : Nat → α} {l : List Nat} {v : α} {a : Nat} (h : a ∈ l) : vr_up f l v a = v := if_pos h
theorem vr_up_ne {α : Type} {f : Nat → α} {l : List Nat} {v : α} {a : Nat} (h : a ∉ l) : vr_up f l v a = f a := if_neg h
theorem vr_rows {L l : List Nat} {f : Nat → va_E} {e : va_E} (h : ∀ a, a ∈ l → a ∉ L) : va_pl L f ++ l.map (fun a => (a, e)) = va_pl (L ++ l) (vr_up f l e) := by
  unfold va_pl
  rw [List.map_append]
  congr 1
  · apply List.map_congr_left
    intro a ha
    rw [vr_up_ne (fun q => h a q ha)]
  · apply List.map_congr_left
    intro a ha
    rw [vr_up_in ha]
theorem vr_lay {X rows : va_W} {x : Nat × va_E} {pl : va_W} {D : va_G} {cl : List vw_C} {H : Heap} (hP : va_P D cl (((X ++ pl) ++ [x]) ++ rows) H) : va_P D cl ((X ++ [x]) ++ (pl ++ rows)) H := by
  rw [List.append_assoc (X ++ pl)] at hP
  have h := va_P.swap hP
  rw [← List.append_assoc X] at h
  have h2 := va_P.swap h
  rw [List.append_assoc (X ++ [x])] at h2
  exact h2
theorem vr_layD {X rows : va_W} {x : Nat × va_E} {pl : va_W} {A : Nat → Prop} (hD : va_D A (((X ++ pl) ++ [x]) ++ rows)) : va_D A ((X ++ [x]) ++ (pl ++ rows)) := by
  rw [List.append_assoc (X ++ pl)] at hD
  have h := va_D.swap hD
  rw [← List.append_assoc X] at h
  have h2 := va_D.swap h
  rw [List.append_assoc (X ++ [x])] at h2
  exact h2
theorem vr_outer (c : ClassId) (N h0 : Nat) : ∀ i : Nat, Jvm.Free.Multi.outerC c N h0 i = arrV c N (fun j => va_rf (if j < i then some (h0 + 1 + j) else none))
  | 0 => by
    show ({ cls := c, slots := Array.replicate N .null, vm := .none } : Cell) = _
    rw [arrV_new]
    refine congrArg (arrV c N) (funext fun j => ?_)
    simp [va_rf]
  | i + 1 => by
    show (Jvm.Free.Multi.outerC c N h0 i).setSlot i (.ref (h0 + 1 + i)) = _
    rw [vr_outer c N h0 i, arrV_store]
    refine congrArg (arrV c N) (funext fun j => ?_)
    by_cases e : j = i
    · subst e
      simp [updV, va_rf]
    · by_cases h : j < i
      · simp [updV, e, h, Nat.lt_succ_of_lt h]
      · simp [updV, e, h, show ¬ j < i + 1 by omega]
section VGM
variable {p : Program} {l : Launch} {e : Env} {R : Room} {s : State} {m : MethodId} {args : Array Value} {below : List Frame} {meth : Method} {c : Code} {H : Heap} {locs : List Loc} {cells slots : Nat} {Q : State → Prop}
variable {cc : ByteArray} {pc : Nat} {ls : Array Slot} {rest : List Value} {D : va_G} {cl : List vw_C} {A : Nat → Prop} {a : Nat} {tys : List (ClassId × FieldType)} {ws : va_W} {H0 : Heap}
theorem va_mna {X : va_W} {L : List Nat} {f : Nat → va_E} {cc : ByteArray} (hexec : p.tables.exec = Jvm.exec) (hb : c.code = cc) {own : String} {index : Nat} {ty : FieldType} {cy : ClassId} (hown : s.vm.findClass own = some m.cls) (hclink : (Cond.classLink own index ("[" ++ (FieldType.array ty).toString)).before args s = true) (hover : va_AOA ty s) (harr : (Cond.arrayClass ty).before args s = true) (hcy : s.vm.findClass (FieldType.array ty).toString = some cy)
    (hK : va_K D cl tys s) (hP : va_P D cl (X ++ va_pl L f) H) (hD : va_D A (X ++ va_pl L f)) (hS : va_S A H0 H locs) (hA : ∀ q, H0.size ≤ q → A q) {n k : Int32} {N' K' : Nat} {z : vp_A} (hn : ¬ n < 0) (hk : ¬ k < 0) (hN : n.toNatClampNeg = N') (hM : k.toNatClampNeg = K')
    (hb1 : N' * 4 ≤ 536870912) (hb2 : K' * componentBytes ty ≤ 536870912) (hb3 : K' ≤ 536870912) (hdf : fits ty (defaultValue ty) = true) (hdd : (defaultValue ty).isDefault = true) (hcells : cells + (1 + N') ≤ R.cells) (hslots : slots + (N' + N' * K') ≤ R.slots) (hz : ∀ c : ClassId, Jvm.Free.Multi.innerC c K' (defaultValue ty) = vp_cell c z) (hdg : decode cc pc = .ok (.multianewarray index 2, 4))
    (kk : ∀ (q : Nat) (r : Nat → Nat) (cA : ClassId) (H1 : Heap), (∀ i j : Nat, i < N' → j < N' → r i = r j → i = j) → (∀ i : Nat, i < N' → r i ∉ L) → va_K D cl (tys ++ [(cA, .array ty)]) s →
      va_P D cl ((X ++ [(q, .inl (cA, N', .inr (.inr (.inr (.inr (fun i => if i < N' then some (r i) else none))))))]) ++ va_pl (L ++ (List.range N').map r) (vr_up f ((List.range N').map r) (.inl (cy, z)))) H1 → va_D A ((X ++ [(q, .inl (cA, N', .inr (.inr (.inr (.inr (fun i => if i < N' then some (r i) else none))))))]) ++ va_pl (L ++ (List.range N').map r) (vr_up f ((List.range N').map r) (.inl (cy, z)))) → va_S A H0 H1 locs →
      W p l e R s m args below meth c H1 locs (cells + 1 + N') (slots + N' + N' * K') Q (F0 m (pc + 4) ls (.ref q :: rest))) : W p l e R s m args below meth c H locs cells slots Q (F0 m pc ls (.int k :: .int n :: rest)) := by
  subst hN
  subst hM
  intro T hT Xs
  obtain ⟨vm₁, cA, comp, -, fA, fC, hO, -, X', step⟩ := Xs.multianewarray2F hexec hown hclink (va_AOA.use hover) harr (g := F0 m pc ls (.int k :: .int n :: rest)) rfl (by rw [hb]; exact hdg) rfl hn hk hb1 hb2 hb3 hdf hdd hcells hslots
  have ec : some cy = some comp := hcy.symm.trans fC
  cases ec
  generalize hF : Jvm.Free.Multi.fill (T.setVm vm₁) cA cy n.toNatClampNeg k.toNatClampNeg (defaultValue ty) n.toNatClampNeg = F at X' step
  have hTh : (T.setVm vm₁).heap = H := hT
  obtain ⟨f1, f2, -, -⟩ := Jvm.Free.Multi.fill_facts (T.setVm vm₁) cA cy n.toNatClampNeg k.toNatClampNeg (defaultValue ty) n.toNatClampNeg
  rw [hF, hTh] at f1 f2
  have hold : ∀ x : Nat, x < H.size → F.heap[x]? = H[x]? := fun x hx => by
    have := Jvm.Free.Multi.fill_old (T.setVm vm₁) cA cy n.toNatClampNeg k.toNatClampNeg (defaultValue ty) (a := x) (by rw [hTh]; exact hx) n.toNatClampNeg
    rw [hF, hTh] at this
    exact this
  have hrow : ∀ j : Nat, j < n.toNatClampNeg → F.heap[H.size + 1 + j]? = some (vp_cell cy z) := fun j hj => by
    have := Jvm.Free.Multi.fill_inner (T.setVm vm₁) cA cy n.toNatClampNeg k.toNatClampNeg (defaultValue ty) n.toNatClampNeg j hj
    rw [hF, hTh, hz] at this
    exact this
  have hout : Jvm.Free.Multi.outerC cA n.toNatClampNeg H.size n.toNatClampNeg = vp_cell cA (n.toNatClampNeg, .inr (.inr (.inr (.inr (fun i => if i < n.toNatClampNeg then some (H.size + 1 + i) else none))))) := by
    rw [vp_cell_q]
    exact vr_outer cA n.toNatClampNeg H.size n.toNatClampNeg
  rw [hout] at f2
  have hlt : ∀ a, a ∈ L → a < H.size := fun a ha => by
    obtain ⟨k9, hk9⟩ := va_pl_get (X := X) (f := f) ha
    exact (hP k9 _ hk9).lt
  have hnl : ∀ i : Nat, i < n.toNatClampNeg → H.size + 1 + i ∉ L := fun i _ h => by
    have := hlt _ h
    omega
  have hnm : ∀ a, a ∈ (List.range n.toNatClampNeg).map (fun i => H.size + 1 + i) → a ∉ L := fun a ha h => by
    obtain ⟨i, -, rfl⟩ := List.mem_map.mp ha
    have := hlt _ h
    omega
  have hP0 : va_P D cl (X ++ va_pl L f) F.heap := hP.kept (fun k9 x hx => hold x.1 ((hP k9 x hx).lt))
  have hP1 : va_P D cl ((X ++ va_pl L f) ++ [(H.size, .inl (cA, n.toNatClampNeg, .inr (.inr (.inr (.inr (fun i => if i < n.toNatClampNeg then some (H.size + 1 + i) else none))))))]) F.heap := hP0.app (fun k9 x hx => by
    have h0 : k9 < 1 := (List.getElem?_eq_some_iff.mp hx).1
    rw [show k9 = 0 by omega] at hx
    cases hx
    exact f2)
  have hP2 : va_P D cl (((X ++ va_pl L f) ++ [(H.size, .inl (cA, n.toNatClampNeg, .inr (.inr (.inr (.inr (fun i => if i < n.toNatClampNeg then some (H.size + 1 + i) else none))))))]) ++ ((List.range n.toNatClampNeg).map (fun i => H.size + 1 + i)).map (fun a => (a, .inl (cy, z)))) F.heap := hP1.app (fun k9 x hx => by
    obtain ⟨a, ha, rfl⟩ := List.mem_map.mp (List.mem_of_getElem? hx)
    obtain ⟨i, hi, rfl⟩ := List.mem_map.mp ha
    exact hrow i (List.mem_range.mp hi))
  have hD2 : va_D A (((X ++ va_pl L f) ++ [(H.size, .inl (cA, n.toNatClampNeg, .inr (.inr (.inr (.inr (fun i => if i < n.toNatClampNeg then some (H.size + 1 + i) else none))))))]) ++ ((List.range n.toNatClampNeg).map (fun i => H.size + 1 + i)).map (fun a => (a, .inl (cy, z)))) := by
    have hD1 := hD.push (e := .inl (cA, n.toNatClampNeg, .inr (.inr (.inr (.inr (fun i => if i < n.toNatClampNeg then some (H.size + 1 + i) else none)))))) hP rfl (hA _ hS.1)
    generalize hW1 : (X ++ va_pl L f) ++ [(H.size, .inl (cA, n.toNatClampNeg, .inr (.inr (.inr (.inr (fun i => if i < n.toNatClampNeg then some (H.size + 1 + i) else none))))))] = W1 at hD1 hP1 ⊢
    have hle : ∀ (k9 : Nat) (x : Nat × va_E), W1[k9]? = some x → x.1 ≤ H.size := fun k9 x hx => by
      rw [← hW1] at hx
      by_cases hl : k9 < (X ++ va_pl L f).length
      · rw [List.getElem?_append_left hl] at hx
        exact Nat.le_of_lt ((hP k9 x hx).lt)
      · rw [List.getElem?_append_right (by omega)] at hx
        have h0 : k9 - (X ++ va_pl L f).length < 1 := (List.getElem?_eq_some_iff.mp hx).1
        rw [show k9 - (X ++ va_pl L f).length = 0 by omega] at hx
        cases hx
        exact Nat.le_refl _
    have hr : ∀ (k9 : Nat) (x : Nat × va_E), (((List.range n.toNatClampNeg).map (fun i => H.size + 1 + i)).map (fun a => ((a, .inl (cy, z)) : Nat × va_E)))[k9]? = some x → x.1 = H.size + 1 + k9 := fun k9 x hx => by
      rw [List.getElem?_map, List.getElem?_map] at hx
      by_cases h9 : k9 < n.toNatClampNeg
      · rw [List.getElem?_range h9] at hx
        cases hx
        rfl
      · have hn0 : (List.range n.toNatClampNeg)[k9]? = none := List.getElem?_eq_none (by rw [List.length_range]; omega)
        rw [hn0] at hx
        cases hx
    refine ⟨fun i j x y hi hj hxy => ?_, fun k9 x hx => ?_⟩
    · by_cases h1 : i < W1.length <;> by_cases h2 : j < W1.length
      · rw [List.getElem?_append_left h1] at hi
        rw [List.getElem?_append_left h2] at hj
        exact hD1.1 i j x y hi hj hxy
      · rw [List.getElem?_append_left h1] at hi
        rw [List.getElem?_append_right (by omega)] at hj
        have := hle _ _ hi
        have := hr _ _ hj
        omega
      · rw [List.getElem?_append_right (by omega)] at hi
        rw [List.getElem?_append_left h2] at hj
        have := hle _ _ hj
        have := hr _ _ hi
        omega
      · rw [List.getElem?_append_right (by omega)] at hi hj
        have := hr _ _ hi
        have := hr _ _ hj
        omega
    · by_cases h1 : k9 < W1.length
      · rw [List.getElem?_append_left h1] at hx
        exact hD1.2 k9 x hx
      · rw [List.getElem?_append_right (by omega)] at hx
        have := hr _ _ hx
        exact hA _ (by have := hS.1; omega)
  have hAr : ArrOfT s cA (.array ty) := fun N9 z9 => by
    obtain ⟨-, k9, hk9, cm9, hkk9⟩ := (hO 0 0 0).1
    exact ⟨(fun q hq => by cases hq), k9, hk9, cm9, hkk9⟩
  have hK2 : va_K D cl (tys ++ [(cA, .array ty)]) s := ⟨hK.1, fun k9 x hx => by
    by_cases hl : k9 < tys.length
    · rw [List.getElem?_append_left hl] at hx
      exact hK.2 k9 x hx
    · rw [List.getElem?_append_right (by omega)] at hx
      have h0 : k9 - tys.length < 1 := (List.getElem?_eq_some_iff.mp hx).1
      rw [show k9 - tys.length = 0 by omega] at hx
      cases hx
      exact ⟨hAr, fA⟩⟩
  obtain ⟨t, a1, b1⟩ := kk H.size (fun i => H.size + 1 + i) cA F.heap (fun i j _ _ h => by have h9 : H.size + 1 + i = H.size + 1 + j := h; omega) hnl hK2 (by rw [← vr_rows hnm]; exact vr_lay hP2) (by rw [← vr_rows hnm]; exact vr_layD hD2) ⟨by rw [f1]; have := hS.1; omega, fun x h1 h2 => (hold x (Nat.lt_of_lt_of_le h1 hS.1)).trans (hS.2.1 x h1 h2), hS.2.2⟩ F rfl X'
  refine ⟨t, step t ?_, b1⟩
  have e : T.heap.size = H.size := by rw [hT]
  rw [e]
  exact a1
end VGM
/-! ===== END ===== -/

/-! ===== BEGIN exceptions that leave a method, and their catching by the caller (launches without stack traces) ===== -/
section VXA
/-! The laws vx_back, vx_callV, vx_callS, vx_callSW, vx_throw0, vx_throwS follow proofs of the library, with one case more: JvmDerived/Free/Laws.lean (Back.of_free), Shelf42/LK1.lean (callV, callS), Shelf/KitTraced.lean (throwNew0V, throwNewS). -/
/-- where a method has thrown q: the class by its name, the cell, what was written, the world -/
def vx_T (XC : String → State → State → Prop) (st : State) (q : Addr) (t : State) (mc ms : Nat) (free : Addr → Prop) : Prop :=
  ∃ (E : String) (ce : Cell) (L : List Loc), XC E st t ∧ t.heap[q]? = some ce ∧ ce.vm = .none ∧ st.vm.findClass E = some ce.cls ∧ st.WarmedH t.vm ∧ st.sameButNew ({ t with vm := st.vm } : State) L mc ms ∧ ∀ z ∈ L, free z.base
def vx_Q (Qc : Array Value → State → Outcome → State → Prop) (XC : String → State → State → Prop) (mc ms : Nat) (free : Addr → Prop) : Array Value → State → Outcome → State → Prop := fun a st o t =>
  (Qc a st o t ∧ ∃ L, FrameEnd st o t L mc ms ∧ ∀ q ∈ L, free q.base) ∨ ∃ q, o = .threw q ∧ vx_T XC st q t mc ms free
/-- a callee that returns or throws -/
def vx_Met (l : Launch) (y : MethodName) (ws : List Cond) (rm : Room) (Pc : Array Value → State → Prop) (Qc : Array Value → State → Outcome → State → Prop) (XC : String → State → State → Prop) (mc ms : Nat) (free : Addr → Prop) : Prop :=
  MetFree l y (headSpec ws rm) Pc (fun _ _ _ _ _ => True) (vx_Q Qc XC mc ms free)
def vx_Post (XC : String → State → State → Prop) (mc ms : Nat) (free : Addr → Prop) : Pt → Array Value → Addr → Pt → Prop := fun A a q B =>
  ∃ (g : JFrame) (mk : MethodId) (t : State) (L : List Loc) (E : String) (ce : Cell), B.U.heap = t.heap ∧ B.U.vm = t.vm ∧ XC E (A.U.calling g mk a) t ∧ t.heap[q]? = some ce ∧ ce.vm = .none ∧ A.U.vm.findClass E = some ce.cls ∧ B.locs = A.locs ++ L ∧ (∀ z ∈ L, free z.base) ∧ B.cells = A.cells + mc ∧ B.slots = A.slots + ms
def vx_Back (l : Launch) (R : Room) (p : Program) (e : Env) (below : List Frame) (s : State) (sargs : Array Value) (y : MethodName) (len W9 : Nat)
    (Pre : Pt → Array Value → Prop) (Post : Pt → Array Value → Option Value → Pt → Prop) (PostX : Pt → Array Value → Addr → Pt → Prop) : Prop :=
  ∀ (m : MethodId) (meth : Method) (c : Code) (A : Pt) (g : JFrame) (ig : Instr) (mk : MethodId) (a : Array Value),
    Stand p l e R s m sargs below meth c A.U A.locs A.cells A.slots → g.method = m → g.locals.size = c.maxLocals → decode c.code g.pc = .ok (ig, len) →
    2 * g.monitorRoom + (g.stack.map fun v => v.category).sum ≤ W9 → A.U.methodNamed? y = some mk → Pre A a →
    (∃ (v : Option Value) (B : Pt), Stand p l e R s m sargs below meth c B.U B.locs B.cells B.slots ∧ Post A a v B ∧
      Steps p.tables e below (doInvoke e (A.U.setTop g) [] mk a).1 (B.U.setTop { g with pc := g.pc + len, stack := v.toList ++ g.stack })) ∨
    (∃ (q : Addr) (B : Pt), Stand p l e R s m sargs below meth c B.U B.locs B.cells B.slots ∧ PostX A a q B ∧
      Steps p.tables e below (doInvoke e (A.U.setTop g) [] mk a).1 ((B.U.setTop g).pushFrame (.throwing q)))
section Payer
variable {l : Launch} {R : Room} {p : Program} {e : Env} {below : List Frame} {s : State} {sargs : Array Value} {y : MethodName} {len W9 : Nat}
theorem vx_back {ws : List Cond} {rm : Room} {Pc : Array Value → State → Prop} {Qc : Array Value → State → Outcome → State → Prop} {XC : String → State → State → Prop} {mc ms : Nat} {free : Addr → Prop} {bytes : ByteArray} {maxL : Nat} {ret : Option FieldType}
    (hM : vx_Met l y ws rm Pc Qc XC mc ms free) (hblind : FrameBlind Pc) (hrc : rm.cells = mc) (hrs : rm.slots = ms)
    (hframes : rm.frames + 1 ≤ R.frames) (hlocals : W9 + (maxL + 11) + rm.locals ≤ R.locals)
    (hws : ∀ w ∈ ws, ∀ a' U, s.WarmedH U.vm → w.before a' U = true) (hcode : Cond.code y bytes maxL ret ∈ ws) (hinit : ∀ a' U, s.WarmedH U.vm → (Cond.initialized y.cls).before a' U = true) :
    vx_Back l R p e below s sargs y len W9 (PreOf R mc ms Pc) (PostOf Qc mc ms free) (vx_Post XC mc ms free) := by
  intro m meth c A g ig mk a X hg hsize hdg hW hn hp
  have h1 : (headSpec ws rm).pre.before a A.U = true := atoms_intro fun w hw => hws w hw _ _ X.warmed
  have h2 : (Cond.code y bytes maxL ret).before a A.U = true := hws _ hcode _ _ X.warmed
  have h3 : (Cond.initialized y.cls).before a A.U = true := hinit _ _ X.warmed
  have h4 : A.cells + (headSpec ws rm).room.cells ≤ R.cells := by rw [show (headSpec ws rm).room.cells = mc from hrc]; exact hp.1
  have h5 : A.slots + (headSpec ws rm).room.slots ≤ R.slots := by rw [show (headSpec ws rm).room.slots = ms from hrs]; exact hp.2.1
  have hPc : Pc a (A.U.calling g mk a) := hblind _ _ _ _ hp.2.2
  obtain ⟨U, Ls, c0, s0⟩ := A
  dsimp only [Pt.U, Pt.locs, Pt.cells, Pt.slots] at h1 h2 h3 h4 h5 X hn hPc ⊢
  obtain ⟨methY, cY, hmY, hcY, -, hlY, -, -, -, -⟩ := Cond.code_spec hn h2
  obtain ⟨kY, hkY, -⟩ := className_of_methodNamed hn
  have hinitY : kY.init = .initialized := Cond.initialized_spec (findClass_of_methodNamed hn) hkY h3
  have h : At U g.method c below := by rw [hg]; exact X.here
  have hlocals9 : W9 + (maxL + 11) + (headSpec ws rm).room.locals ≤ R.locals := hlocals
  have happ : (headSpec ws rm).appliesLoose y e.platform (U.calling g mk a) = true :=
    Spec.appliesLoose_calling (g := g) h hdg hn hkY hinitY
      (X.room_calling (g := g) (R' := (headSpec ws rm).room) hsize hmY hcY hframes (by rw [hlY]; omega) h4 h5) h1
  obtain ⟨mid, hmid⟩ := h.above
  have hfr : (U.setTop g).frames = (.java g :: mid) ++ below := by rw [State.frames_setTop' g h.top, hmid]; rfl
  obtain ⟨o, s₂, hsteps, -, hend, hq⟩ := Steps.callFree hM p X.admits X.cas X.clock (acts := []) hfr happ hPc trivial
  have hq' : vx_Q Qc XC mc ms free a (U.calling g mk a) o s₂ := hq
  rw [State.frames_setTop' g h.top] at hend
  obtain ⟨g₀, hg0⟩ := Option.isSome_iff_exists.mp h.top
  obtain ⟨r, hr⟩ := State.topJava?_eq_some.mp hg0
  have hr' : (({ U with heap := s₂.heap, slotsUsed := s₂.slotsUsed } : State).setVm s₂.vm).frames = .java g₀ :: r := hr
  rcases hq' with ⟨hqc, L, hfe, hL⟩ | ⟨q, rfl, E, ce, L, hx, hce, hcv, hcl, hW₂, hsm, hL⟩
  · obtain ⟨⟨v, rfl⟩, hW₂, e2, q2, q3, q4, q5, q6⟩ := id hfe
    have e3 : s₂ = ({ (U.calling g mk a).setFrames s₂.frames with heap := s₂.heap, slotsUsed := s₂.slotsUsed } : State).setVm s₂.vm := by
      have : s₂ = ({ s₂ with vm := (U.calling g mk a).vm } : State).setVm s₂.vm := rfl
      rw [e2] at this
      exact this
    obtain ⟨c₂, i₂, len₂, hc₂, hd₂, hf₂⟩ := hend
    have hW' : U.WarmedH s₂.vm := hW₂
    have hcc : c₂ = c := by
      have h1 : s₂.code? g.method = U.code? g.method := by
        rw [State.code?_eq, State.code?_eq, hW'.alike.method?]
      exact Option.some.inj (hc₂.symm.trans (h1.trans h.code))
    subst hcc
    have hlen : len₂ = len := by rw [hdg] at hd₂; cases hd₂; rfl
    subst hlen
    have hs₂ : s₂ = (({ U with heap := s₂.heap, slotsUsed := s₂.slotsUsed } : State).setVm s₂.vm).setTop { g with pc := g.pc + len₂, stack := v.toList ++ g.stack } := by
      refine e3.trans ?_
      rw [hf₂, State.calling_eq h.top, State.setFrames_setFrames, State.setTop_of_frames _ hr', hr]
      rfl
    have hsame : U.sameButNew ({ U with heap := s₂.heap, slotsUsed := s₂.slotsUsed } : State) L mc ms := by
      refine ⟨?_, q2, q3, q4, q5, q6⟩
      obtain ⟨t, ht, -⟩ := State.frames_cons hr
      show ({ U with heap := s₂.heap, slotsUsed := s₂.slotsUsed } : State) = { U.setFrames U.frames with heap := s₂.heap, slotsUsed := s₂.slotsUsed }
      rw [State.setFrames_self ht]
    subst hg
    refine Or.inl ⟨v, ⟨(({ U with heap := s₂.heap, slotsUsed := s₂.slotsUsed } : State).setVm s₂.vm), Ls ++ L, c0 + mc, s0 + ms⟩,
      ⟨X.admits, X.cas, X.clock, X.frames, X.room, X.hears, X.method, X.code, (X.here.setHeapUsed s₂.heap s₂.slotsUsed).setVm hW'.alike, X.tail, State.WarmedH.trans X.warmed hW', X.limits, X.bytes, X.same.trans (hsame.setVm s.vm)⟩,
      ⟨g, mk, s₂, L, rfl, rfl, hqc, rfl, hL, rfl, rfl⟩, ?_⟩
    show Steps p.tables e below _ ((({ U with heap := s₂.heap, slotsUsed := s₂.slotsUsed } : State).setVm s₂.vm).setTop { g with pc := g.pc + len₂, stack := v.toList ++ g.stack })
    rw [← hs₂]
    exact hsteps
  · obtain ⟨e2, q2, q3, q4, q5, q6⟩ := id hsm
    have e3 : s₂ = ({ (U.calling g mk a).setFrames s₂.frames with heap := s₂.heap, slotsUsed := s₂.slotsUsed } : State).setVm s₂.vm := by
      have : s₂ = ({ s₂ with vm := (U.calling g mk a).vm } : State).setVm s₂.vm := rfl
      rw [e2] at this
      exact this
    have hf₂ : s₂.frames = .throwing q :: .java g :: U.frames.tail := hend
    have hW' : U.WarmedH s₂.vm := hW₂
    have hs₂ : s₂ = ((({ U with heap := s₂.heap, slotsUsed := s₂.slotsUsed } : State).setVm s₂.vm).setTop g).pushFrame (.throwing q) := by
      refine e3.trans ?_
      rw [hf₂, State.calling_eq h.top, State.setFrames_setFrames, State.pushFrame, State.frames_setTop _ hr', State.setTop_of_frames _ hr', State.setFrames_setFrames, hr]
      rfl
    have hsame : U.sameButNew ({ U with heap := s₂.heap, slotsUsed := s₂.slotsUsed } : State) L mc ms := by
      refine ⟨?_, q2, q3, q4, q5, q6⟩
      obtain ⟨t, ht, -⟩ := State.frames_cons hr
      show ({ U with heap := s₂.heap, slotsUsed := s₂.slotsUsed } : State) = { U.setFrames U.frames with heap := s₂.heap, slotsUsed := s₂.slotsUsed }
      rw [State.setFrames_self ht]
    subst hg
    refine Or.inr ⟨q, ⟨(({ U with heap := s₂.heap, slotsUsed := s₂.slotsUsed } : State).setVm s₂.vm), Ls ++ L, c0 + mc, s0 + ms⟩,
      ⟨X.admits, X.cas, X.clock, X.frames, X.room, X.hears, X.method, X.code, (X.here.setHeapUsed s₂.heap s₂.slotsUsed).setVm hW'.alike, X.tail, State.WarmedH.trans X.warmed hW', X.limits, X.bytes, X.same.trans (hsame.setVm s.vm)⟩,
      ⟨g, mk, s₂, L, E, ce, rfl, rfl, hx, hce, hcv, hcl, rfl, hL, rfl, rfl⟩, ?_⟩
    show Steps p.tables e below _ (((({ U with heap := s₂.heap, slotsUsed := s₂.slotsUsed } : State).setVm s₂.vm).setTop g).pushFrame (.throwing q))
    rw [← hs₂]
    exact hsteps
end Payer
section Calls
variable {p : Program} {l : Launch} {e : Env} {R : Room} {s : State} {m : MethodId} {args : Array Value} {below : List Frame} {meth : Method} {c : Code} {T : State} {locs : List Loc} {cells slots : Nat}
theorem vx_callV (X : Stand p l e R s m args below meth c T locs cells slots) (hexec : p.tables.exec = Jvm.exec) {own C : String} {index : Nat} {y : MethodName} {bytes : ByteArray} {maxL : Nat} {ret : Option FieldType}
    (hown : s.vm.findClass own = some m.cls) (hlink : (Cond.methodLink own index y).before args s = true) (hinst : (Cond.instanceMethod y).before args s = true) (hsel : (Cond.selects C y y).before args s = true)
    (hcode : (Cond.code y bytes maxL ret).before args s = true) (hy : y.cls ≠ "java/lang/invoke/MethodHandle" ∧ y.cls ≠ "java/lang/invoke/VarHandle")
    {W9 : Nat} {Pre : Pt → Array Value → Prop} {Post : Pt → Array Value → Option Value → Pt → Prop} {PostX : Pt → Array Value → Addr → Pt → Prop} (hK : vx_Back l R p e below s args y 3 W9 Pre Post PostX)
    {b : Addr} {cellB : Cell} (hcell : T.heap[b]? = some cellB) (hobj : cellB.vm.isStatics = false) (hcls : s.vm.findClass C = some cellB.cls)
    {g : JFrame} (hg : g.method = m) (hsize : g.locals.size = c.maxLocals) {argsL rest : List Value} (hlen : ∀ sig, parseMethodDescriptor y.desc = some sig → argsL.length = sig.parameters.length)
    (hstack : g.stack = argsL.reverse ++ .ref b :: rest) (hW : 2 * g.monitorRoom + (rest.map fun v => v.category).sum ≤ W9) (hdg : decode c.code g.pc = .ok (.invokevirtual index, 3))
    (hpre : ∀ vm₁, s.WarmedH vm₁ → Pre ⟨T.setVm vm₁, locs, cells, slots⟩ (Value.ref b :: argsL).toArray) :
    (∃ (v : Option Value) (vm₁ : Vm) (B : Pt), s.WarmedH vm₁ ∧ Stand p l e R s m args below meth c B.U B.locs B.cells B.slots ∧ Post ⟨T.setVm vm₁, locs, cells, slots⟩ (Value.ref b :: argsL).toArray v B ∧
      ∀ target, Steps p.tables e below (B.U.setTop { g with pc := g.pc + 3, stack := v.toList ++ rest }) target → Steps p.tables e below (T.setTop g) target) ∨
    (∃ (q : Addr) (vm₁ : Vm) (B : Pt), s.WarmedH vm₁ ∧ Stand p l e R s m args below meth c B.U B.locs B.cells B.slots ∧ PostX ⟨T.setVm vm₁, locs, cells, slots⟩ (Value.ref b :: argsL).toArray q B ∧
      Steps p.tables e below (T.setTop g) ((B.U.setTop { g with stack := rest }).pushFrame (.throwing q))) := by
  obtain ⟨mk, methM, hnamed, hmethM, hstM, habM⟩ := Cond.instanceMethod_spec hinst
  obtain ⟨methM', cM, hmethM', -, -, -, -, -, -, hsigM⟩ := Cond.code_spec hnamed hcode
  cases hmethM.symm.trans hmethM'
  obtain ⟨c2, r2, m2, q1, q2, q3, q4, kP, hkP, hkPi⟩ := Cond.selects_spec hsel
  cases hcls.symm.trans q1
  cases (State.methodFound?_of_named hnamed hy).symm.trans q2
  cases hnamed.symm.trans q3
  have hselP : selectMethod e.platform s.vm cellB.cls mk = .method mk := by rw [Launch.admits_selectMethod X.admits]; exact q4
  obtain ⟨vm₁, X₁, hstep₁⟩ := X.invokevirtual hexec hown hlink hnamed hmethM hstM hkP hkPi hy (a := b) (cell := cellB) hcell
    (fun z h => by rw [h] at hobj; cases hobj) hselP hmethM habM hkP hkPi (g := g) hg (argsL := argsL) (rest := rest) (hlen _ hsigM) hstack hdg
  rcases hK m meth c ⟨T.setVm vm₁, locs, cells, slots⟩ { g with stack := rest } (.invokevirtual index) mk (Value.ref b :: argsL).toArray X₁ hg hsize hdg hW (X₁.named hnamed) (hpre vm₁ X₁.warmed) with ⟨v, B, X', hpost, hsteps⟩ | ⟨q, B, X', hpost, hsteps⟩
  · exact Or.inl ⟨v, vm₁, B, X₁.warmed, X', hpost, fun target h => hstep₁ _ fun acts => by rw [doInvoke_state]; exact hsteps.trans h⟩
  · exact Or.inr ⟨q, vm₁, B, X₁.warmed, X', hpost, hstep₁ _ fun acts => by rw [doInvoke_state]; exact hsteps⟩
theorem vx_callS (X : Stand p l e R s m args below meth c T locs cells slots) (hexec : p.tables.exec = Jvm.exec) {own : String} {index : Nat} {y : MethodName} {bytes : ByteArray} {maxL : Nat} {ret : Option FieldType}
    (hown : s.vm.findClass own = some m.cls) (hlink : (Cond.methodLink own index y).before args s = true) (hstat : (Cond.static y).before args s = true) (hinit : (Cond.initialized y.cls).before args s = true)
    (hcode : (Cond.code y bytes maxL ret).before args s = true) (hy : y.cls ≠ "java/lang/invoke/MethodHandle" ∧ y.cls ≠ "java/lang/invoke/VarHandle")
    {W9 : Nat} {Pre : Pt → Array Value → Prop} {Post : Pt → Array Value → Option Value → Pt → Prop} {PostX : Pt → Array Value → Addr → Pt → Prop} (hK : vx_Back l R p e below s args y 3 W9 Pre Post PostX)
    {g : JFrame} (hg : g.method = m) (hsize : g.locals.size = c.maxLocals) {argsL rest : List Value} (hlen : ∀ sig, parseMethodDescriptor y.desc = some sig → argsL.length = sig.parameters.length)
    (hstack : g.stack = argsL.reverse ++ rest) (hW : 2 * g.monitorRoom + (rest.map fun v => v.category).sum ≤ W9) (hdg : decode c.code g.pc = .ok (.invokestatic index, 3))
    (hpre : ∀ vm₁, s.WarmedH vm₁ → Pre ⟨T.setVm vm₁, locs, cells, slots⟩ argsL.toArray) :
    (∃ (v : Option Value) (vm₁ : Vm) (B : Pt), s.WarmedH vm₁ ∧ Stand p l e R s m args below meth c B.U B.locs B.cells B.slots ∧ Post ⟨T.setVm vm₁, locs, cells, slots⟩ argsL.toArray v B ∧
      ∀ target, Steps p.tables e below (B.U.setTop { g with pc := g.pc + 3, stack := v.toList ++ rest }) target → Steps p.tables e below (T.setTop g) target) ∨
    (∃ (q : Addr) (vm₁ : Vm) (B : Pt), s.WarmedH vm₁ ∧ Stand p l e R s m args below meth c B.U B.locs B.cells B.slots ∧ PostX ⟨T.setVm vm₁, locs, cells, slots⟩ argsL.toArray q B ∧
      Steps p.tables e below (T.setTop g) ((B.U.setTop { g with stack := rest }).pushFrame (.throwing q))) := by
  obtain ⟨mk, hnamed⟩ := Cond.code_named hcode
  obtain ⟨methM, cM, hmethM, -, -, -, -, -, -, hsigM⟩ := Cond.code_spec hnamed hcode
  have hstatic : methM.isStatic = true := Cond.static_spec hnamed hmethM hstat
  obtain ⟨kP, hkP, -⟩ := className_of_methodNamed hnamed
  have hinitP : kP.init = .initialized := Cond.initialized_spec (findClass_of_methodNamed hnamed) hkP hinit
  obtain ⟨vm₁, X₁, hstep₁⟩ := X.invokestatic hexec hown hlink hnamed hmethM hstatic hkP hinitP hy (g := g) hg (argsL := argsL) (rest := rest) (hlen _ hsigM) hstack hdg
  rcases hK m meth c ⟨T.setVm vm₁, locs, cells, slots⟩ { g with stack := rest } (.invokestatic index) mk argsL.toArray X₁ hg hsize hdg hW (X₁.named hnamed) (hpre vm₁ X₁.warmed) with ⟨v, B, X', hpost, hsteps⟩ | ⟨q, B, X', hpost, hsteps⟩
  · exact Or.inl ⟨v, vm₁, B, X₁.warmed, X', hpost, fun target h => hstep₁ _ fun acts => by rw [doInvoke_state]; exact hsteps.trans h⟩
  · exact Or.inr ⟨q, vm₁, B, X₁.warmed, X', hpost, hstep₁ _ fun acts => by rw [doInvoke_state]; exact hsteps⟩
end Calls
theorem vx_cls {s : State} {T : State} {vm₁ : Vm} {E : String} {k : ClassId} (hW : s.WarmedH vm₁) (h : (T.setVm vm₁).vm.findClass E = some k) : s.vm.findClass E = some k := by
  have h1 : vm₁.findClass E = some k := h
  rw [hW.alike.findClass] at h1
  exact h1
/-- the method's frame g, with q thrown over it -/
def vx_W (p : Program) (l : Launch) (e : Env) (R : Room) (s : State) (m : MethodId) (args : Array Value) (below : List Frame) (meth : Method) (c : Code) (H : Heap) (locs : List Loc) (cells slots : Nat) (Q : State → Prop) (g : JFrame) (q : Addr) : Prop :=
  ∀ T : State, T.heap = H → Stand p l e R s m args below meth c T locs cells slots → ∃ t, Steps p.tables e below ((T.setTop g).pushFrame (.throwing q)) t ∧ Q t
def vx_Run (p : Program) (l : Launch) (e : Env) (R : Room) (s : State) (m : MethodId) (args : Array Value) (below : List Frame) (meth : Method) (c : Code) (H : Heap) (locs : List Loc) (cells slots mc ms : Nat) (g : JFrame) (rest : List Value) (Qa : State → Outcome → State → Prop) (XC : String → State → State → Prop) (free : Addr → Prop) : Prop :=
  ∀ T : State, T.heap = H → Stand p l e R s m args below meth c T locs cells slots →
    (∃ (v : Option Value) (st₀ t T' : State) (L : List Loc), st₀.heap = H ∧ Stand p l e R s m args below meth c T' (locs ++ L) (cells + mc) (slots + ms) ∧ (∀ q ∈ L, free q.base) ∧ T'.heap = t.heap ∧ T'.vm = t.vm ∧ Qa st₀ (.returned v) t ∧
      Goes p e below T g T' { g with pc := g.pc + 3, stack := v.toList ++ rest }) ∨
    (∃ (q : Addr) (st₀ t T' : State) (L : List Loc) (E : String) (ce : Cell), st₀.heap = H ∧ Stand p l e R s m args below meth c T' (locs ++ L) (cells + mc) (slots + ms) ∧ (∀ z ∈ L, free z.base) ∧ T'.heap = t.heap ∧ T'.vm = t.vm ∧ XC E st₀ t ∧ t.heap[q]? = some ce ∧ ce.vm = .none ∧ s.vm.findClass E = some ce.cls ∧
      Steps p.tables e below (T.setTop g) ((T'.setTop { g with stack := rest }).pushFrame (.throwing q)))
def vx_X {S : Type} (px : S → Prop) (B : String → S → State → Prop) (A : Nat → Prop) : String → State → State → Prop := fun E st t => ∃ u : S, px u ∧ B E u t ∧ va_F A st t
section Runs
variable {p : Program} {l : Launch} {e : Env} {R : Room} {s : State} {m : MethodId} {args : Array Value} {below : List Frame} {meth : Method} {c : Code} {H : Heap} {locs : List Loc} {cells slots : Nat}
variable {y : MethodName} {bytes cc : ByteArray} {maxL nL mc ms n index : Nat} {ret : Option FieldType} {ws : List Cond} {rm : Room} {Pc : Array Value → State → Prop} {Qc : Array Value → State → Outcome → State → Prop} {XC : String → State → State → Prop} {free : Addr → Prop} {Ts : List Cond} {own C : String} {b : Addr} {As rest : List Value} {g : JFrame}
theorem vx_callBack (cb : CallB R s args own index y bytes maxL ret ws rm mc ms n) (hM : vx_Met l y ws rm Pc Qc XC mc ms free) (hbl : FrameBlind Pc) : vx_Back l R p e below s args y 3 8 (PreOf R mc ms Pc) (PostOf Qc mc ms free) (vx_Post XC mc ms free) := by
  obtain ⟨hrc, hrs, hfr, hlo, hws, hcw, -, hini, -⟩ := cb
  exact vx_back (bytes := bytes) (maxL := maxL) (ret := ret) hM hbl hrc hrs hfr hlo hws hcw (fun a' U hW => word_at hW (Or.inl (by first | rfl | simp [Cond.onTables, Cond.keeps, Cond.steady])) hini)
theorem vx_runV (S : CallFix p m c cc nL s args Ts own) (hM : vx_Met l y ws rm Pc Qc XC mc ms free) (cw : CallW R s args own C index y bytes maxL ret ws rm mc ms n) (hp : PreV s H C b Pc As)
    (hg : g.method = m) (hn : As.length = n) (hsize : g.locals.size = nL) (hstack : g.stack = As.reverse ++ .ref b :: rest) (hW : 2 * g.monitorRoom + (rest.map fun v => v.category).sum ≤ 8) (hdg : decode cc g.pc = .ok (.invokevirtual index, 3)) (hf : cells + mc ≤ R.cells ∧ slots + ms ≤ R.slots) :
    vx_Run p l e R s m args below meth c H locs cells slots mc ms g rest (Qc (Value.ref b :: As).toArray) XC free := by
  have hK : vx_Back l R p e below s args y 3 8 (PreOf R mc ms Pc) (PostOf Qc mc ms free) (vx_Post XC mc ms free) := vx_callBack cw.1 hM hp.1
  obtain ⟨⟨-, -, -, -, -, -, hcode, -, hy, hlen, hl⟩, hin, hse⟩ := cw
  obtain ⟨hx, hb, hml, ho, -⟩ := S
  obtain ⟨-, ⟨cellB, hcB, hoB, hclB⟩, hPc⟩ := hp
  intro T hT X
  rcases vx_callV X hx (C := C) (bytes := bytes) (maxL := maxL) (ret := ret) ho hl hin hse hcode hy hK (by rw [hT]; exact hcB) hoB hclB hg (hsize.trans hml.symm) (argsL := As) (rest := rest) (fun sig h => hn.trans (hlen sig h)) hstack hW (by rw [hb]; exact hdg)
    (fun vm₁ hW₁ => ⟨hf.1, hf.2, hPc (T.setVm vm₁) hT hW₁⟩) with ⟨v, vm₁, ⟨U', l2, c2, s2⟩, hW₁, X', ⟨g', mk, t, L, e1, e2, hq, h1, hL, h2, h3⟩, st⟩ | ⟨q, vm₁, ⟨U', l2, c2, s2⟩, hW₁, X', ⟨g', mk, t, L, E, ce, e1, e2, hq, hce, hcv, hcl, h1, hL, h2, h3⟩, st⟩
  · dsimp only [Pt.U, Pt.locs, Pt.cells, Pt.slots] at X' e1 e2 h1 h2 h3 st
    subst h1; subst h2; subst h3
    exact Or.inl ⟨v, (T.setVm vm₁).calling g' mk (Value.ref b :: As).toArray, t, U', L, hT, X', hL, e1, e2, hq, st⟩
  · dsimp only [Pt.U, Pt.locs, Pt.cells, Pt.slots] at X' e1 e2 h1 h2 h3 st hcl
    subst h1; subst h2; subst h3
    exact Or.inr ⟨q, (T.setVm vm₁).calling g' mk (Value.ref b :: As).toArray, t, U', L, E, ce, hT, X', hL, e1, e2, hq, hce, hcv, vx_cls hW₁ hcl, st⟩
theorem vx_runS (S : CallFix p m c cc nL s args Ts own) (hM : vx_Met l y ws rm Pc Qc XC mc ms free) (cw : CallB R s args own index y bytes maxL ret ws rm mc ms n ∧ (Cond.static y).before args s = true) (hp : PreS s H Pc As)
    (hg : g.method = m) (hn : As.length = n) (hsize : g.locals.size = nL) (hstack : g.stack = As.reverse ++ rest) (hW : 2 * g.monitorRoom + (rest.map fun v => v.category).sum ≤ 8) (hdg : decode cc g.pc = .ok (.invokestatic index, 3)) (hf : cells + mc ≤ R.cells ∧ slots + ms ≤ R.slots) :
    vx_Run p l e R s m args below meth c H locs cells slots mc ms g rest (Qc As.toArray) XC free := by
  have hK : vx_Back l R p e below s args y 3 8 (PreOf R mc ms Pc) (PostOf Qc mc ms free) (vx_Post XC mc ms free) := vx_callBack cw.1 hM hp.1
  obtain ⟨⟨-, -, -, -, -, -, hcode, hini, hy, hlen, hl⟩, hstt⟩ := cw
  obtain ⟨hx, hb, hml, ho, -⟩ := S
  intro T hT X
  rcases vx_callS X hx (bytes := bytes) (maxL := maxL) (ret := ret) ho hl hstt hini hcode hy hK hg (hsize.trans hml.symm) (argsL := As) (rest := rest) (fun sig h => hn.trans (hlen sig h)) hstack hW (by rw [hb]; exact hdg)
    (fun vm₁ hW₁ => ⟨hf.1, hf.2, hp.2 (T.setVm vm₁) hT hW₁⟩) with ⟨v, vm₁, ⟨U', l2, c2, s2⟩, hW₁, X', ⟨g', mk, t, L, e1, e2, hq, h1, hL, h2, h3⟩, st⟩ | ⟨q, vm₁, ⟨U', l2, c2, s2⟩, hW₁, X', ⟨g', mk, t, L, E, ce, e1, e2, hq, hce, hcv, hcl, h1, hL, h2, h3⟩, st⟩
  · dsimp only [Pt.U, Pt.locs, Pt.cells, Pt.slots] at X' e1 e2 h1 h2 h3 st
    subst h1; subst h2; subst h3
    exact Or.inl ⟨v, (T.setVm vm₁).calling g' mk As.toArray, t, U', L, hT, X', hL, e1, e2, hq, st⟩
  · dsimp only [Pt.U, Pt.locs, Pt.cells, Pt.slots] at X' e1 e2 h1 h2 h3 st hcl
    subst h1; subst h2; subst h3
    exact Or.inr ⟨q, (T.setVm vm₁).calling g' mk As.toArray, t, U', L, E, ce, hT, X', hL, e1, e2, hq, hce, hcv, vx_cls hW₁ hcl, st⟩
end Runs
section Rows
variable {p : Program} {l : Launch} {e : Env} {R : Room} {s : State} {m : MethodId} {args : Array Value} {below : List Frame} {meth : Method} {c : Code} {H : Heap} {locs : List Loc} {cells slots : Nat} {Q : State → Prop}
variable {mc ms : Nat} {free : Addr → Prop} {A0 A1 : Nat → Prop} {H0 : Heap} {a : Array Value} {pc : Nat} {ls : Array Slot} {st0 rest : List Value}
theorem vx_keep {st₀ t T' : State} {L : List Loc} (h0 : st₀.heap = H) (e1 : T'.heap = t.heap) (hS : va_S A0 H0 H locs) (hA : ∀ q, q < H.size → A1 q → A0 q) (hf : ∀ q, free q → A0 q) (hL : ∀ q ∈ L, free q.base) (hF : va_F A1 st₀ t) :
    H.size ≤ T'.heap.size ∧ (∀ q : Nat, q < H.size → ¬ A1 q → T'.heap[q]? = H[q]?) ∧ va_S A0 H0 T'.heap (locs ++ L) := by
  obtain ⟨hz, hk⟩ := hF
  rw [h0] at hz hk
  exact ⟨by rw [e1]; exact hz, fun q h1 h2 => by rw [e1]; exact hk q h1 h2,
    ⟨Nat.le_trans hS.1 (by rw [e1]; exact hz), fun q h1 h2 => by rw [e1, hk q (Nat.lt_of_lt_of_le h1 hS.1) (fun z => h2 (hA q (Nat.lt_of_lt_of_le h1 hS.1) z))]; exact hS.2.1 q h1 h2, fun q hq => by
      rcases List.mem_append.mp hq with h | h
      · exact hS.2.2 q h
      · exact hf _ (hL q h)⟩⟩
theorem vx_calli {S SX : Type} {post : Int32 → S → Prop} {px : SX → Prop} {B : S → State → Prop} {BX : String → SX → State → Prop} {AX : Nat → Prop} (hr : vx_Run p l e R s m args below meth c H locs cells slots mc ms (F0 m pc ls st0) rest (va_Qi post B A1 a) (vx_X px BX AX) free) (hS : va_S A0 H0 H locs) (hA : ∀ q, q < H.size → A1 q → A0 q) (hf : ∀ q, free q → A0 q) (hAX : ∀ q, q < H.size → AX q → A0 q)
    (kx : ∀ (E : String) (ce : Cell) (q9 : Addr) (u : SX) (t : State) (H1 : Heap) (locs1 : List Loc), t.heap = H1 → s.vm.Alike t.vm → px u → BX E u t → H.size ≤ H1.size → (∀ q : Nat, q < H.size → ¬ AX q → H1[q]? = H[q]?) → va_S A0 H0 H1 locs1 → H1[q9]? = some ce → ce.vm = .none → s.vm.findClass E = some ce.cls → vx_W p l e R s m args below meth c H1 locs1 (cells + mc) (slots + ms) Q (F0 m pc ls rest) q9)
    (kk : ∀ (r : Int32) (u : S) (t : State) (H1 : Heap) (locs1 : List Loc), t.heap = H1 → s.vm.Alike t.vm → post r u → B u t → H.size ≤ H1.size → (∀ q : Nat, q < H.size → ¬ A1 q → H1[q]? = H[q]?) → va_S A0 H0 H1 locs1 → W p l e R s m args below meth c H1 locs1 (cells + mc) (slots + ms) Q (F0 m (pc + 3) ls (.int r :: rest))) : W p l e R s m args below meth c H locs cells slots Q (F0 m pc ls st0) := by
  intro T hT X
  rcases hr T hT X with ⟨v, st₀, t, T', L, h0, X', hL, e1, e2, ⟨⟨r, u, hv, hp, hb⟩, hF⟩, st⟩ | ⟨q, st₀, t, T', L, E, ce, h0, X', hL, e1, e2, ⟨u, hp, hb, hF⟩, hce, hcv, hcl, st⟩
  · cases hv
    obtain ⟨k1, k2, k3⟩ := vx_keep h0 e1 hS hA hf hL hF
    obtain ⟨t2, a1, b1⟩ := kk r u t T'.heap (locs ++ L) e1.symm (by rw [← e2]; exact X'.warmed.alike) hp hb k1 k2 k3 T' rfl X'
    exact ⟨t2, st t2 a1, b1⟩
  · obtain ⟨k1, k2, k3⟩ := vx_keep h0 e1 hS hAX hf hL hF
    obtain ⟨t2, a1, b1⟩ := kx E ce q u t T'.heap (locs ++ L) e1.symm (by rw [← e2]; exact X'.warmed.alike) hp hb k1 k2 k3 (by rw [e1]; exact hce) hcv hcl T' rfl X'
    exact ⟨t2, st.trans a1, b1⟩
theorem vx_calll {S SX : Type} {post : Int64 → S → Prop} {px : SX → Prop} {B : S → State → Prop} {BX : String → SX → State → Prop} {AX : Nat → Prop} (hr : vx_Run p l e R s m args below meth c H locs cells slots mc ms (F0 m pc ls st0) rest (va_Ql post B A1 a) (vx_X px BX AX) free) (hS : va_S A0 H0 H locs) (hA : ∀ q, q < H.size → A1 q → A0 q) (hf : ∀ q, free q → A0 q) (hAX : ∀ q, q < H.size → AX q → A0 q)
    (kx : ∀ (E : String) (ce : Cell) (q9 : Addr) (u : SX) (t : State) (H1 : Heap) (locs1 : List Loc), t.heap = H1 → s.vm.Alike t.vm → px u → BX E u t → H.size ≤ H1.size → (∀ q : Nat, q < H.size → ¬ AX q → H1[q]? = H[q]?) → va_S A0 H0 H1 locs1 → H1[q9]? = some ce → ce.vm = .none → s.vm.findClass E = some ce.cls → vx_W p l e R s m args below meth c H1 locs1 (cells + mc) (slots + ms) Q (F0 m pc ls rest) q9)
    (kk : ∀ (r : Int64) (u : S) (t : State) (H1 : Heap) (locs1 : List Loc), t.heap = H1 → s.vm.Alike t.vm → post r u → B u t → H.size ≤ H1.size → (∀ q : Nat, q < H.size → ¬ A1 q → H1[q]? = H[q]?) → va_S A0 H0 H1 locs1 → W p l e R s m args below meth c H1 locs1 (cells + mc) (slots + ms) Q (F0 m (pc + 3) ls (.long r :: rest))) : W p l e R s m args below meth c H locs cells slots Q (F0 m pc ls st0) := by
  intro T hT X
  rcases hr T hT X with ⟨v, st₀, t, T', L, h0, X', hL, e1, e2, ⟨⟨r, u, hv, hp, hb⟩, hF⟩, st⟩ | ⟨q, st₀, t, T', L, E, ce, h0, X', hL, e1, e2, ⟨u, hp, hb, hF⟩, hce, hcv, hcl, st⟩
  · cases hv
    obtain ⟨k1, k2, k3⟩ := vx_keep h0 e1 hS hA hf hL hF
    obtain ⟨t2, a1, b1⟩ := kk r u t T'.heap (locs ++ L) e1.symm (by rw [← e2]; exact X'.warmed.alike) hp hb k1 k2 k3 T' rfl X'
    exact ⟨t2, st t2 a1, b1⟩
  · obtain ⟨k1, k2, k3⟩ := vx_keep h0 e1 hS hAX hf hL hF
    obtain ⟨t2, a1, b1⟩ := kx E ce q u t T'.heap (locs ++ L) e1.symm (by rw [← e2]; exact X'.warmed.alike) hp hb k1 k2 k3 (by rw [e1]; exact hce) hcv hcl T' rfl X'
    exact ⟨t2, st.trans a1, b1⟩
theorem vx_callf {S SX : Type} {post : UInt32 → S → Prop} {px : SX → Prop} {B : S → State → Prop} {BX : String → SX → State → Prop} {AX : Nat → Prop} (hr : vx_Run p l e R s m args below meth c H locs cells slots mc ms (F0 m pc ls st0) rest (va_Qf post B A1 a) (vx_X px BX AX) free) (hS : va_S A0 H0 H locs) (hA : ∀ q, q < H.size → A1 q → A0 q) (hf : ∀ q, free q → A0 q) (hAX : ∀ q, q < H.size → AX q → A0 q)
    (kx : ∀ (E : String) (ce : Cell) (q9 : Addr) (u : SX) (t : State) (H1 : Heap) (locs1 : List Loc), t.heap = H1 → s.vm.Alike t.vm → px u → BX E u t → H.size ≤ H1.size → (∀ q : Nat, q < H.size → ¬ AX q → H1[q]? = H[q]?) → va_S A0 H0 H1 locs1 → H1[q9]? = some ce → ce.vm = .none → s.vm.findClass E = some ce.cls → vx_W p l e R s m args below meth c H1 locs1 (cells + mc) (slots + ms) Q (F0 m pc ls rest) q9)
    (kk : ∀ (r : UInt32) (u : S) (t : State) (H1 : Heap) (locs1 : List Loc), t.heap = H1 → s.vm.Alike t.vm → post r u → B u t → H.size ≤ H1.size → (∀ q : Nat, q < H.size → ¬ A1 q → H1[q]? = H[q]?) → va_S A0 H0 H1 locs1 → W p l e R s m args below meth c H1 locs1 (cells + mc) (slots + ms) Q (F0 m (pc + 3) ls (.float r :: rest))) : W p l e R s m args below meth c H locs cells slots Q (F0 m pc ls st0) := by
  intro T hT X
  rcases hr T hT X with ⟨v, st₀, t, T', L, h0, X', hL, e1, e2, ⟨⟨r, u, hv, hp, hb⟩, hF⟩, st⟩ | ⟨q, st₀, t, T', L, E, ce, h0, X', hL, e1, e2, ⟨u, hp, hb, hF⟩, hce, hcv, hcl, st⟩
  · cases hv
    obtain ⟨k1, k2, k3⟩ := vx_keep h0 e1 hS hA hf hL hF
    obtain ⟨t2, a1, b1⟩ := kk r u t T'.heap (locs ++ L) e1.symm (by rw [← e2]; exact X'.warmed.alike) hp hb k1 k2 k3 T' rfl X'
    exact ⟨t2, st t2 a1, b1⟩
  · obtain ⟨k1, k2, k3⟩ := vx_keep h0 e1 hS hAX hf hL hF
    obtain ⟨t2, a1, b1⟩ := kx E ce q u t T'.heap (locs ++ L) e1.symm (by rw [← e2]; exact X'.warmed.alike) hp hb k1 k2 k3 (by rw [e1]; exact hce) hcv hcl T' rfl X'
    exact ⟨t2, st.trans a1, b1⟩
theorem vx_calld {S SX : Type} {post : UInt64 → S → Prop} {px : SX → Prop} {B : S → State → Prop} {BX : String → SX → State → Prop} {AX : Nat → Prop} (hr : vx_Run p l e R s m args below meth c H locs cells slots mc ms (F0 m pc ls st0) rest (va_Qd post B A1 a) (vx_X px BX AX) free) (hS : va_S A0 H0 H locs) (hA : ∀ q, q < H.size → A1 q → A0 q) (hf : ∀ q, free q → A0 q) (hAX : ∀ q, q < H.size → AX q → A0 q)
    (kx : ∀ (E : String) (ce : Cell) (q9 : Addr) (u : SX) (t : State) (H1 : Heap) (locs1 : List Loc), t.heap = H1 → s.vm.Alike t.vm → px u → BX E u t → H.size ≤ H1.size → (∀ q : Nat, q < H.size → ¬ AX q → H1[q]? = H[q]?) → va_S A0 H0 H1 locs1 → H1[q9]? = some ce → ce.vm = .none → s.vm.findClass E = some ce.cls → vx_W p l e R s m args below meth c H1 locs1 (cells + mc) (slots + ms) Q (F0 m pc ls rest) q9)
    (kk : ∀ (r : UInt64) (u : S) (t : State) (H1 : Heap) (locs1 : List Loc), t.heap = H1 → s.vm.Alike t.vm → post r u → B u t → H.size ≤ H1.size → (∀ q : Nat, q < H.size → ¬ A1 q → H1[q]? = H[q]?) → va_S A0 H0 H1 locs1 → W p l e R s m args below meth c H1 locs1 (cells + mc) (slots + ms) Q (F0 m (pc + 3) ls (.double r :: rest))) : W p l e R s m args below meth c H locs cells slots Q (F0 m pc ls st0) := by
  intro T hT X
  rcases hr T hT X with ⟨v, st₀, t, T', L, h0, X', hL, e1, e2, ⟨⟨r, u, hv, hp, hb⟩, hF⟩, st⟩ | ⟨q, st₀, t, T', L, E, ce, h0, X', hL, e1, e2, ⟨u, hp, hb, hF⟩, hce, hcv, hcl, st⟩
  · cases hv
    obtain ⟨k1, k2, k3⟩ := vx_keep h0 e1 hS hA hf hL hF
    obtain ⟨t2, a1, b1⟩ := kk r u t T'.heap (locs ++ L) e1.symm (by rw [← e2]; exact X'.warmed.alike) hp hb k1 k2 k3 T' rfl X'
    exact ⟨t2, st t2 a1, b1⟩
  · obtain ⟨k1, k2, k3⟩ := vx_keep h0 e1 hS hAX hf hL hF
    obtain ⟨t2, a1, b1⟩ := kx E ce q u t T'.heap (locs ++ L) e1.symm (by rw [← e2]; exact X'.warmed.alike) hp hb k1 k2 k3 (by rw [e1]; exact hce) hcv hcl T' rfl X'
    exact ⟨t2, st.trans a1, b1⟩
theorem vx_callv {S SX : Type} {post : S → Prop} {px : SX → Prop} {B : S → State → Prop} {BX : String → SX → State → Prop} {AX : Nat → Prop} (hr : vx_Run p l e R s m args below meth c H locs cells slots mc ms (F0 m pc ls st0) rest (va_Qv post B A1 a) (vx_X px BX AX) free) (hS : va_S A0 H0 H locs) (hA : ∀ q, q < H.size → A1 q → A0 q) (hf : ∀ q, free q → A0 q) (hAX : ∀ q, q < H.size → AX q → A0 q)
    (kx : ∀ (E : String) (ce : Cell) (q9 : Addr) (u : SX) (t : State) (H1 : Heap) (locs1 : List Loc), t.heap = H1 → s.vm.Alike t.vm → px u → BX E u t → H.size ≤ H1.size → (∀ q : Nat, q < H.size → ¬ AX q → H1[q]? = H[q]?) → va_S A0 H0 H1 locs1 → H1[q9]? = some ce → ce.vm = .none → s.vm.findClass E = some ce.cls → vx_W p l e R s m args below meth c H1 locs1 (cells + mc) (slots + ms) Q (F0 m pc ls rest) q9)
    (kk : ∀ (u : S) (t : State) (H1 : Heap) (locs1 : List Loc), t.heap = H1 → s.vm.Alike t.vm → post u → B u t → H.size ≤ H1.size → (∀ q : Nat, q < H.size → ¬ A1 q → H1[q]? = H[q]?) → va_S A0 H0 H1 locs1 → W p l e R s m args below meth c H1 locs1 (cells + mc) (slots + ms) Q (F0 m (pc + 3) ls (rest))) : W p l e R s m args below meth c H locs cells slots Q (F0 m pc ls st0) := by
  intro T hT X
  rcases hr T hT X with ⟨v, st₀, t, T', L, h0, X', hL, e1, e2, ⟨⟨u, hv, hp, hb⟩, hF⟩, st⟩ | ⟨q, st₀, t, T', L, E, ce, h0, X', hL, e1, e2, ⟨u, hp, hb, hF⟩, hce, hcv, hcl, st⟩
  · cases hv
    obtain ⟨k1, k2, k3⟩ := vx_keep h0 e1 hS hA hf hL hF
    obtain ⟨t2, a1, b1⟩ := kk u t T'.heap (locs ++ L) e1.symm (by rw [← e2]; exact X'.warmed.alike) hp hb k1 k2 k3 T' rfl X'
    exact ⟨t2, st t2 a1, b1⟩
  · obtain ⟨k1, k2, k3⟩ := vx_keep h0 e1 hS hAX hf hL hF
    obtain ⟨t2, a1, b1⟩ := kx E ce q u t T'.heap (locs ++ L) e1.symm (by rw [← e2]; exact X'.warmed.alike) hp hb k1 k2 k3 (by rw [e1]; exact hce) hcv hcl T' rfl X'
    exact ⟨t2, st.trans a1, b1⟩
/-- caught by the row x of this method's table; the rows ahead don't take it -/
theorem vx_catch {own name : String} {E : String} {ce : Cell} {q : Addr} (hown : s.vm.findClass own = some m.cls) (pre : List ExceptionTableEntry) (x : ExceptionTableEntry) (suf : List ExceptionTableEntry) (hsplit : c.exceptionTable.toList = pre ++ x :: suf)
    (hpass : ∀ z ∈ pre, covers z pc = false ∨ (z.catchType ≠ 0 ∧ ∃ nm : String, (Cond.classLink own z.catchType nm).before args s = true ∧ va_Nc E nm s)) (hx : covers x pc = true) (h0 : x.catchType ≠ 0)
    (hlink : (Cond.classLink own x.catchType name).before args s = true) (hcast : (Cond.castable E name).before args s = true) (hcell : H[q]? = some ce) (hv : ce.vm = .none) (hcl : s.vm.findClass E = some ce.cls)
    (kk : W p l e R s m args below meth c H locs cells slots Q (F0 m x.handlerPc ls [.ref q])) : vx_W p l e R s m args below meth c H locs cells slots Q (F0 m pc ls rest) q := by
  intro T hT X
  have hpl : e.platform.magicAccessors = ({} : Platform).magicAccessors := by rw [X.admits.platform]
  obtain ⟨c3, c4, hc3, hc4, hasg⟩ := Cond.castable_spec hcast
  cases Option.some.inj (hc3.symm.trans hcl)
  obtain ⟨c5, hc5, hcl5⟩ := Cond.classLink_spec hown hlink e.platform hpl
  cases Option.some.inj (hc4.symm.trans hc5)
  obtain ⟨vm', X', st⟩ := X.thenCaughtThrough q (g := F0 m pc ls rest) rfl (Steps.refl _) (by rw [hT]; exact hcell) (by rw [hv]; rfl) (by obtain ⟨k9, h9, -⟩ := Vm.findClass_spec hcl; exact ⟨k9, h9⟩) pre x suf hsplit
    (fun z hz => by
      rcases hpass z hz with h | ⟨hz0, nm, hl1, hn1⟩
      · exact Or.inl h
      · obtain ⟨c6, hc6, hcl6⟩ := Cond.classLink_spec hown hl1 e.platform hpl
        obtain ⟨a8, b8, h1, h2, h3⟩ := hn1
        cases Option.some.inj (h1.symm.trans hcl)
        cases Option.some.inj (h2.symm.trans hc6)
        exact Or.inr ⟨hz0, _, hcl6, h3⟩) hx (Or.inr ⟨h0, c4, hcl5, hasg⟩)
  obtain ⟨t, a1, b1⟩ := kk (T.setVm vm') hT X'
  exact ⟨t, st.trans a1, b1⟩
end Rows
section Ends
variable {p : Program} {l : Launch} {e : Env} {R : Room} {s : State} {m : MethodId} {args : Array Value} {below : List Frame} {meth : Method} {c : Code} {H : Heap} {locs : List Loc} {cells slots : Nat} {Q : State → Prop}
variable {mc ms : Nat} {free : Addr → Prop} {A0 A1 : Nat → Prop} {H0 : Heap} {a : Array Value} {ls : Array Slot} {st0 rest : List Value}
variable {Qc : Array Value → State → Outcome → State → Prop} {XC : String → State → State → Prop}
/-- what a body that may throw owes at its end -/
def vx_MQ (below : List Frame) (Qc : Array Value → State → Outcome → State → Prop) (XC : String → State → State → Prop) (a : Array Value) (s : State) (mc ms : Nat) (free : Addr → Prop) : State → Prop := fun t =>
  ∃ o, t.status = .running ∧ Ended t below o ∧ vx_Q Qc XC mc ms free a s o t
theorem vx_ret {g : JFrame} {mc ms : Nat} (k : W p l e R s m args below meth c H locs cells slots (MQ below Qc args s mc ms free) g) : W p l e R s m args below meth c H locs cells slots (vx_MQ below Qc XC args s mc ms free) g := by
  intro T hT X
  obtain ⟨t, a1, o, b1, b2, b3, b4⟩ := k T hT X
  exact ⟨t, a1, o, b1, b2, Or.inl ⟨b3, b4⟩⟩
/-- not caught here: it goes on to the caller -/
theorem vx_widen {g : JFrame} {q : Addr} {k n : Nat} (h1 : cells ≤ k) (h2 : slots ≤ n) (kk : vx_W p l e R s m args below meth c H locs k n Q g q) : vx_W p l e R s m args below meth c H locs cells slots Q g q := fun T hT X => kk T hT (stand_widen X h1 h2)
theorem vx_out {pc : Nat} {E : String} {ce : Cell} {q : Addr} {mc ms : Nat} (hout : ∀ x ∈ c.exceptionTable.toList, covers x pc = false) (hlocks : meth.locks = false) (hcell : H[q]? = some ce) (hv : ce.vm = .none) (hcl : s.vm.findClass E = some ce.cls)
    (hx : ∀ t : State, t.heap = H → s.vm.Alike t.vm → XC E s t) (hf : ∀ z ∈ locs, free z.base) (hc : cells ≤ mc) (hs : slots ≤ ms) :
    vx_W p l e R s m args below meth c H locs cells slots (vx_MQ below Qc XC args s mc ms free) (F0 m pc ls rest) q := by
  intro T hT X
  obtain ⟨st1, hrun, hend, hW, hsm⟩ := X.leaveThrown q (g := F0 m pc ls rest) rfl rfl rfl hout hlocks
  have hcell9 : (T.setFrames (.throwing q :: below)).heap[q]? = some ce := by
    show T.heap[q]? = some ce
    rw [hT]; exact hcell
  exact ⟨_, st1, .threw q, hrun, hend, Or.inr ⟨q, rfl, E, ce, locs, hx _ hT hW.alike, hcell9, hv, hcl, hW, hsm.mono hc hs, hf⟩⟩
theorem vx_frame {U : State} {k n : Nat} (h : s.sameButNew ({ U with vm := s.vm } : State) locs k n) : s.heap.size ≤ U.heap.size ∧ ∀ q : Nat, q < s.heap.size → (∀ z ∈ locs, z.base ≠ q) → U.heap[q]? = s.heap[q]? := by
  obtain ⟨-, h2, -, -, -, h6⟩ := h
  refine ⟨h2, fun q hq hz => ?_⟩
  obtain ⟨c9, e1, e2, e3, e4⟩ := h6 q _ (Array.getElem?_eq_getElem hq)
  have hs : c9.slots = (s.heap[q]).slots := Array.ext_getElem? fun i => e4 i fun hm => hz _ hm rfl
  have h9 : c9 = s.heap[q] := by
    rw [hs] at e2
    exact e2
  have e5 : U.heap[q]? = some c9 := e1
  rw [e5, h9, Array.getElem?_eq_getElem hq]
/-- the words of a throw but the four that speak of the heap -/
def vx_no (w : Cond) : Bool := decide (w ≠ .isRef (.static Bundle.tN "UNASSIGNED_STACK" Bundle.steD)) && decide (w ≠ .isRef (.static Bundle.tN "SUPPRESSED_SENTINEL" Bundle.listD)) && decide (w ≠ .laysStatic Bundle.tN "UNASSIGNED_STACK" Bundle.steD) && decide (w ≠ .laysStatic Bundle.tN "SUPPRESSED_SENTINEL" Bundle.listD)
def vx_at0 (own : String) (ic : Nat) (X : String) (names : List String) : List Cond := (Bundle.ownAtoms0 own ic X names).filter vx_no
def vx_atS (own : String) (ic : Nat) (X : String) (names : List String) : List Cond := (Bundle.ownAtoms own ic X names).filter vx_no
/-- a word that the tables alone decide, or a good one -/
def vx_ot (w : Cond) : Bool := w.onTables || goodWord w
theorem vx_ot_at {args a' : Array Value} {s U : State} {w : Cond} (hW : s.WarmedH U.vm) (hvm : s.vm = U.vm) (hg : vx_ot w = true) (h : w.before args s = true) : w.before a' U = true := by
  simp only [vx_ot, Bool.or_eq_true] at hg
  rcases hg with hg | hg
  · exact va_tabs hg hvm h
  · exact word_at hW (good_of_word hg) h
/-- a list's words: the good ones out of the method's own list, the others by premises of their own -/
theorem vx_hat {args : Array Value} {s : State} {L B : List Cond} (h1 : ∀ w ∈ L.filter goodWord, w.before args s = true) (h2 : ∀ w ∈ L.filter (fun w => !goodWord w), w ∈ B) (h3 : ∀ w ∈ B, w.before args s = true) : ∀ w ∈ L, w.before args s = true := by
  intro w hw
  by_cases g : goodWord w = true
  · exact h1 w (List.mem_filter.mpr ⟨hw, g⟩)
  · refine h3 w (h2 w (List.mem_filter.mpr ⟨hw, ?_⟩))
    show (!goodWord w) = true
    cases hgw : goodWord w
    · rfl
    · exact absurd hgw g
theorem vx_c {args : Array Value} {s : State} {w : Cond} {B : List Cond} (h : w.before args s = true) (t : ∀ w ∈ B, w.before args s = true) : ∀ w' ∈ w :: B, w'.before args s = true := fun w' h' => (List.mem_cons.mp h').elim (fun e => by rw [e]; exact h) (t w')
theorem vx_n {args : Array Value} {s : State} : ∀ w ∈ ([] : List Cond), w.before args s = true := fun _ h => nomatch h
theorem vx_own {args : Array Value} {s : State} {L : List Cond} (h1 : ∀ w ∈ L.filter vx_no, w.before args s = true)
    (hU : (Cond.isRef (.static Bundle.tN "UNASSIGNED_STACK" Bundle.steD)).before args s = true) (hN : (Cond.isRef (.static Bundle.tN "SUPPRESSED_SENTINEL" Bundle.listD)).before args s = true)
    (lU : (Cond.laysStatic Bundle.tN "UNASSIGNED_STACK" Bundle.steD).before args s = true) (lN : (Cond.laysStatic Bundle.tN "SUPPRESSED_SENTINEL" Bundle.listD).before args s = true) : ∀ w ∈ L, w.before args s = true := by
  intro w hw
  by_cases e1 : w = .isRef (.static Bundle.tN "UNASSIGNED_STACK" Bundle.steD)
  · rw [e1]; exact hU
  · by_cases e2 : w = .isRef (.static Bundle.tN "SUPPRESSED_SENTINEL" Bundle.listD)
    · rw [e2]; exact hN
    · by_cases e3 : w = .laysStatic Bundle.tN "UNASSIGNED_STACK" Bundle.steD
      · rw [e3]; exact lU
      · by_cases e4 : w = .laysStatic Bundle.tN "SUPPRESSED_SENTINEL" Bundle.listD
        · rw [e4]; exact lN
        · exact h1 w (List.mem_filter.mpr ⟨hw, by unfold vx_no; rw [decide_eq_true e1, decide_eq_true e2, decide_eq_true e3, decide_eq_true e4]; rfl⟩)
/-- where a static field lies, its class's statics cell in H -/
def vx_L (C n d : String) (A : Nat → Prop) (U : State) (H : Heap) : Prop := ∃ (c : ClassId) (k : Class) (i : Nat) (f : Field) (a : Nat) (cell : Cell), U.vm.findClass C = some c ∧ U.fieldFound? C n d = some (c, k, i, f) ∧ f.isStatic = true ∧ k.statics = some a ∧ H[a]? = some cell ∧ cell.vm.isStatics = true ∧ cell.cls = c ∧ f.slot < cell.slots.size ∧ k.staticTypes[f.slot]? = some f.type ∧ ¬ A a
theorem vx_L.moved {C n d : String} {A : Nat → Prop} {u U : State} {H : Heap} (hvm : u.vm.Alike U.vm) (h : vx_L C n d A u H) : vx_L C n d A U H := by
  obtain ⟨c, k, i, f, a, cell, h1, h2, h3, h4, h5, h6, h7, h8, h9, h10⟩ := h
  obtain ⟨k', hi', he⟩ := State.fieldFound?_setVm hvm h2
  exact ⟨c, k', i, f, a, cell, by rw [hvm.findClass]; exact h1, hi', h3, by rw [he]; exact h4, h5, h6, h7, h8, by rw [he]; exact h9, h10⟩
theorem vx_L.kept {C n d : String} {A : Nat → Prop} {U : State} {H H1 : Heap} (h : vx_L C n d A U H) (hq : ∀ a : Nat, a < H.size → ¬ A a → H1[a]? = H[a]?) : vx_L C n d A U H1 := by
  obtain ⟨c, k, i, f, a, cell, h1, h2, h3, h4, h5, h6, h7, h8, h9, h10⟩ := h
  exact ⟨c, k, i, f, a, cell, h1, h2, h3, h4, by rw [hq a (Array.getElem?_eq_some_iff.mp h5).1 h10]; exact h5, h6, h7, h8, h9, h10⟩
theorem vx_L.narrow {C n d : String} {A B : Nat → Prop} {U : State} {H : Heap} (h : vx_L C n d A U H) (hAB : ∀ q, B q → A q) : vx_L C n d B U H := by
  obtain ⟨c, k, i, f, a, cell, h1, h2, h3, h4, h5, h6, h7, h8, h9, h10⟩ := h
  exact ⟨c, k, i, f, a, cell, h1, h2, h3, h4, h5, h6, h7, h8, h9, fun z => h10 (hAB _ z)⟩
theorem vx_L.word {C n d : String} {A : Nat → Prop} {s : State} {args : Array Value} (h : vx_L C n d A s s.heap) : (Cond.laysStatic C n d).before args s = true := by
  obtain ⟨c, k, i, f, a, cell, h1, h2, h3, h4, h5, h6, h7, h8, h9, -⟩ := h
  show (Cond.laysStatic C n d).holds args s none s [] = true
  exact Cond.laysStatic_of h1 h2 h3 h4 h5 h6 h7 h8 h9
/-- .. and what it holds: null or some reference -/
def vx_Zq (C n d : String) (A : Nat → Prop) (U : State) (H : Heap) : Prop := va_Zq C n d A U H ∧ vx_L C n d A U H
theorem vx_Zq.moved {C n d : String} {A : Nat → Prop} {u U : State} {H : Heap} (hvm : u.vm.Alike U.vm) (h : vx_Zq C n d A u H) : vx_Zq C n d A U H := ⟨va_Zq.moved hvm h.1, vx_L.moved hvm h.2⟩
theorem vx_Zq.kept {C n d : String} {A : Nat → Prop} {U : State} {H H1 : Heap} (h : vx_Zq C n d A U H) (hq : ∀ a : Nat, a < H.size → ¬ A a → H1[a]? = H[a]?) : vx_Zq C n d A U H1 := ⟨va_Zq.kept h.1 hq, vx_L.kept h.2 hq⟩
theorem vx_Zq.narrow {C n d : String} {A B : Nat → Prop} {U : State} {H : Heap} (h : vx_Zq C n d A U H) (hAB : ∀ q, B q → A q) : vx_Zq C n d B U H := ⟨va_Zq.narrow h.1 hAB, vx_L.narrow h.2 hAB⟩
theorem vx_Zqof {args : Array Value} {s : State} {C n d : String} {A : Nat → Prop} (hl : (Cond.laysStatic C n d).before args s = true) (hini : (Cond.initialized C).before args s = true) (h : (Cond.isRef (.static C n d)).before args s = true) (hA : ∀ a : Nat, a < s.heap.size → ¬ A a) : vx_Zq C n d A s s.heap := by
  refine ⟨va_Zqof hl hini h hA, ?_⟩
  obtain ⟨c, k, i, f, a, cell, h1, h2, h3, h4, h5, h6, h7, h8, h9⟩ := Cond.laysStatic_spec hl
  exact ⟨c, k, i, f, a, cell, h1, h2, h3, h4, h5, h6, h7, h8, h9, hA a (Array.getElem?_eq_some_iff.mp h5).1⟩
theorem vx_isRef {C n d : String} {v : Value} {A : Nat → Prop} {s : State} {args : Array Value} (h : va_Z C n d v A s s.heap) (hv : v.isRef = true) : (Cond.isRef (.static C n d)).before args s = true := by
  obtain ⟨cf, kf, fi, f, a, cell, h1, h2, h3, h4, h5, h6, h7, -⟩ := h
  have he : (Term.static C n d).eval args s none [] s = some v := by
    simp [Term.eval, State.fieldNamed?, h1, h2, h4, h5, h6, h7]
  simp only [Cond.before, Cond.holds, Cond.value, he]
  cases v <;> simp_all [Value.isRef]
theorem vx_isRefq {C n d : String} {A : Nat → Prop} {s : State} {args : Array Value} (h : va_Zq C n d A s s.heap) : (Cond.isRef (.static C n d)).before args s = true := by
  rcases h with h | ⟨t, h⟩
  · exact vx_isRef h rfl
  · exact vx_isRef h rfl
/-- the same frame, seen from here: as if the method were called anew in this heap -/
theorem vx_rebase {T : State} (X : Stand p l e R s m args below meth c T locs cells slots) {R' : Room} (hf : R'.frames ≤ R.frames) (hl : R'.locals ≤ R.locals) (hc : cells + R'.cells ≤ R.cells) (hs : slots + R'.slots ≤ R.slots) :
    Stand p l e R' ((T.setVm s.vm).setFrames (.invoking m args :: below)) m args below meth c T [] 0 0 := by
  have htop : (T.setVm s.vm).topJava?.isSome := X.here.top
  have hF : ((T.setVm s.vm).setFrames (.invoking m args :: below)).frames = .invoking m args :: below := State.frames_setFrames _ (State.cur_lt_of_top htop)
  obtain ⟨g₀, hg0⟩ := Option.isSome_iff_exists.mp htop
  obtain ⟨r, hr⟩ := State.topJava?_eq_some.mp hg0
  have hl9 : e.platform.stackLimits (T.setVm s.vm).me = e.platform.stackLimits s.me := X.limits
  have hb9 : (T.setVm s.vm).me.stackBytes = s.me.stackBytes := X.bytes
  refine ⟨X.admits, X.cas, X.clock, hF, ?_, X.hears, X.method, X.code, X.here, X.tail, X.warmed, ?_, ?_, ?_⟩
  · have h := X.room
    have hU : ((T.setVm s.vm).setFrames (.invoking m args :: below)).localsInUse = s.localsInUse := by
      rw [State.localsInUse_invoking hF (meth := meth) (c := c) X.method X.code, State.localsInUse_invoking X.frames X.method X.code]
    simp only [State.hasRoom, Bool.and_eq_true, decide_eq_true_eq] at h ⊢
    obtain ⟨⟨⟨⟨h1, h2, h3, h4, h5, h6⟩, h7⟩, h8⟩, h9⟩ := h
    rw [X.frames, List.length_cons] at h2 h3
    have q1 := X.heapSize
    have q2 := X.used
    simp only [hF, hU, List.length_cons, State.stackLimits_setFrames, State.stackBytes_setFrames, hl9, hb9]
    refine ⟨⟨⟨⟨by omega, by omega, by omega, by omega, by omega, h6⟩, ?_⟩, ?_⟩, X.book⟩
    · show T.heap.size + R'.cells ≤ e.platform.maxCells
      omega
    · show T.slotsUsed + R'.slots ≤ e.platform.maxSlots
      omega
  · rw [State.stackLimits_setFrames]; rfl
  · rw [State.stackBytes_setFrames]; rfl
  · refine ⟨?_, Nat.le_refl _, Nat.le_refl _, ?_, ?_, fun a c9 h9 => ⟨c9, h9, rfl, rfl, fun _ _ => rfl⟩⟩
    · obtain ⟨t, ht, -⟩ := State.frames_cons hr
      show T.setVm s.vm = { ((T.setVm s.vm).setFrames (.invoking m args :: below)).setFrames (T.setVm s.vm).frames with heap := T.heap, slotsUsed := T.slotsUsed }
      rw [State.setFrames_setFrames, State.setFrames_self ht]
      rfl
    · show T.slotsUsed = T.slotsUsed + ((T.heap.toList.drop T.heap.size).map (·.slots.size)).sum
      rw [List.drop_eq_nil_of_le (Nat.le_of_eq Array.length_toList)]
      rfl
    · show ((T.heap.toList.drop T.heap.size).map (·.slots.size)).sum ≤ 0
      rw [List.drop_eq_nil_of_le (Nat.le_of_eq Array.length_toList)]
      exact Nat.le_refl _
/-- 'throw new E()': new; dup; invokespecial; athrow -/
theorem vx_throw0 {cc : ByteArray} {pc : Nat} (hexec : p.tables.exec = Jvm.exec) (hb : c.code = cc) (hl : l.stackTraces = false) {own cls : String} {names : List String} {ik ic mc ms : Nat} {A : Nat → Prop}
    (hown : s.vm.findClass own = some m.cls) (hcls : Bundle.fit cls = true) (hnames : ∀ n ∈ names, Bundle.fit n = true)
    (hk : (Cond.classLink own ik cls).before args s = true) (hini : (Cond.initialized cls).before args s = true) (hat : ∀ w ∈ vx_at0 own ic cls names, w.before args s = true)
    (hgood : ∀ w ∈ Cond.classLink own ik cls :: Cond.initialized cls :: vx_at0 own ic cls names, vx_ot w = true)
    (hU : vx_Zq Bundle.tN "UNASSIGNED_STACK" Bundle.steD A s s.heap) (hN : vx_Zq Bundle.tN "SUPPRESSED_SENTINEL" Bundle.listD A s s.heap) (hS : va_S A s.heap H locs) (hsize : ls.size = c.maxLocals)
    (d0 : decode cc pc = .ok (.new ik, 3)) (d3 : decode cc (pc + 3) = .ok (.dup, 1)) (d4 : decode cc (pc + 4) = .ok (.invokespecial ic, 3)) (d7 : decode cc (pc + 7) = .ok (.athrow, 1))
    (hout : ∀ x ∈ c.exceptionTable.toList, covers x (pc + 7) = false)
    (hRframes : names.length + 3 < R.frames) (hRlocals : (rest.map fun v => v.category).sum + (13 * (names.length + 1) + 42) ≤ R.locals) (hRcells : cells + 1 ≤ R.cells) (hRslots : slots + 6 ≤ R.slots) (hlocks : meth.locks = false)
    (hx : ∀ t : State, s.vm.Alike t.vm → H.size ≤ t.heap.size → (∀ q : Nat, q < H.size → t.heap[q]? = H[q]?) → XC cls s t)
    (hf : ∀ z ∈ locs, free z.base) (hc : cells + 1 ≤ mc) (hs : slots + 6 ≤ ms) :
    W p l e R s m args below meth c H locs cells slots (vx_MQ below Qc XC args s mc ms free) (F0 m pc ls rest) := by
  intro T hT X
  have htr : e.platform.stackTraces = false := (show e.platform.stackTraces = l.stackTraces by rw [X.admits.platform]).trans hl
  have Y := vx_rebase X (R' := { frames := R.frames, locals := R.locals, cells := 1, slots := 6 }) (Nat.le_refl _) (Nat.le_refl _) hRcells hRslots
  obtain ⟨s', hA⟩ : ∃ z, z = (T.setVm s.vm).setFrames (.invoking m args :: below) := ⟨_, rfl⟩
  rw [← hA] at Y
  have hvm : s'.vm = s.vm := by rw [hA]; rfl
  have hhp : s'.heap = H := by rw [hA]; exact hT
  have hW0 : s.WarmedH s'.vm := by rw [hvm]; exact State.WarmedH.refl s
  have hat' : ∀ w ∈ vx_at0 own ic cls names, w.before args s' = true := fun w hw => vx_ot_at hW0 hvm.symm (hgood w (List.mem_cons_of_mem _ (List.mem_cons_of_mem _ hw))) (hat w hw)
  have hk' : (Cond.classLink own ik cls).before args s' = true := vx_ot_at hW0 hvm.symm (hgood _ List.mem_cons_self) hk
  have hini' : (Cond.initialized cls).before args s' = true := vx_ot_at hW0 hvm.symm (hgood _ (List.mem_cons_of_mem _ List.mem_cons_self)) hini
  have hU' : vx_Zq Bundle.tN "UNASSIGNED_STACK" Bundle.steD A s' s'.heap := by rw [hhp]; exact vx_Zq.moved hW0.alike (hU.kept hS.2.1)
  have hN' : vx_Zq Bundle.tN "SUPPRESSED_SENTINEL" Bundle.listD A s' s'.heap := by rw [hhp]; exact vx_Zq.moved hW0.alike (hN.kept hS.2.1)
  have h : ∀ w ∈ Bundle.ownAtoms0 own ic cls names, w.before args s' = true := vx_own hat' (vx_isRefq hU'.1) (vx_isRefq hN'.1) hU'.2.word hN'.2.word
  have hown' : s'.vm.findClass own = some m.cls := by rw [hvm]; exact hown
  have hins : (Cond.instantiable cls 6).before args s' = true := h _ (by simp [Bundle.ownAtoms0])
  obtain ⟨vm₁, cX, kX, hfX, hkX, -, -, X₁, st1⟩ := Y.newCold hexec (own := own) (C := cls) (index := ik) (n := 6) hown' hk' hins hini'
    (g := F0 m pc ls rest) rfl (by rw [hb]; exact d0) (Nat.le_refl _) (Nat.le_refl _)
  generalize hT1 : (T.setVm vm₁).pushCell { cls := cX, slots := kX.instanceTypes.map defaultValue, vm := .none } = T1 at X₁ st1
  have hcat : (Value.ref T.heap.size).category = 1 := rfl
  have hcellA : T1.heap[T.heap.size]? = some (freshCell cX kX) := by rw [← hT1]; exact State.heap_pushCell_size _ _
  have d3' : decode c.code (pc + 3) = .ok (.dup, 1) := by rw [hb]; exact d3
  obtain ⟨U, hsteps, hrun, hend, hW, hsame, ce, hce, hO⟩ := X₁.ctorThrow0 hexec htr (own := own) (cls := cls) (names := names) (ic := ic) hown' hcls hnames h (fun x hx => nomatch hx) hfX hkX hcellA (by rw [hhp, hT]; exact Nat.le_refl _)
    (g := { method := m, pc := pc + 4, locals := ls, stack := .ref T.heap.size :: .ref T.heap.size :: rest, locked := none }) rfl hsize rfl rfl (rest := rest) rfl
    (by rw [hb]; exact d4) (by rw [hb]; exact d7) hout hRframes (by simp only [List.map_cons, List.sum_cons, hcat]; omega) hlocks
  obtain ⟨f1, f2⟩ := vx_frame hsame
  rw [hhp] at f1 f2
  have hWs : s.WarmedH U.vm := State.WarmedH.trans hW0 hW
  have hcl : s.vm.findClass cls = some ce.cls := by
    have h9 := hO.cls
    rw [hvm] at h9
    exact h9
  have hall : s.sameButNew ({ U with vm := s.vm } : State) locs mc ms := by
    subst hA
    obtain ⟨e1, e2⟩ := hsame
    rw [State.setFrames_setFrames] at e1
    have h2 : (T.setVm s.vm).sameButNew ({ U with vm := s.vm } : State) [] (0 + 1) (0 + 6) := ⟨e1, e2⟩
    have h3 := X.same.trans h2
    rw [List.append_nil] at h3
    exact h3.mono hc hs
  refine ⟨U, ?_, .threw T.heap.size, hrun, hend, Or.inr ⟨T.heap.size, rfl, cls, ce, locs, hx U hWs.alike f1 (fun q hq => f2 q hq (fun z hz => nomatch hz)), hce, hO.vm, hcl, hWs, hall, hf⟩⟩
  refine st1 _ ?_
  show Steps p.tables e below (T1.setTop { method := m, pc := pc + 3, locals := ls, stack := .ref T.heap.size :: rest, locked := none }) _
  jvm_step X₁.here [X₁.here.top, hexec, d3', Value.category]
  exact hsteps
/-- 'throw new E("text")': new; dup; ldc; invokespecial; athrow -/
theorem vx_throwS {cc : ByteArray} {pc : Nat} (hexec : p.tables.exec = Jvm.exec) (hb : c.code = cc) (hl : l.stackTraces = false) {own cls text : String} {names : List String} {ik is ic mc ms sa : Nat} {A : Nat → Prop}
    (hown : s.vm.findClass own = some m.cls) (hcls : Bundle.fit cls = true) (hnames : ∀ n ∈ names, Bundle.fit n = true)
    (hk : (Cond.classLink own ik cls).before args s = true) (hini : (Cond.initialized cls).before args s = true) (hstr : vk_R own is text sa s) (hat : ∀ w ∈ vx_atS own ic cls names, w.before args s = true)
    (hgood : ∀ w ∈ Cond.classLink own ik cls :: Cond.initialized cls :: vx_atS own ic cls names, vx_ot w = true)
    (hU : vx_Zq Bundle.tN "UNASSIGNED_STACK" Bundle.steD A s s.heap) (hN : vx_Zq Bundle.tN "SUPPRESSED_SENTINEL" Bundle.listD A s s.heap) (hS : va_S A s.heap H locs) (hsize : ls.size = c.maxLocals)
    (d0 : decode cc pc = .ok (.new ik, 3)) (d3 : decode cc (pc + 3) = .ok (.dup, 1)) (d4 : decode cc (pc + 4) = .ok (.ldc is, 2)) (d6 : decode cc (pc + 6) = .ok (.invokespecial ic, 3)) (d9 : decode cc (pc + 9) = .ok (.athrow, 1))
    (hout : ∀ x ∈ c.exceptionTable.toList, covers x (pc + 9) = false)
    (hRframes : names.length + 3 < R.frames) (hRlocals : (rest.map fun v => v.category).sum + (13 * (names.length + 1) + 43) ≤ R.locals) (hRcells : cells + 1 ≤ R.cells) (hRslots : slots + 6 ≤ R.slots) (hlocks : meth.locks = false)
    (hx : ∀ t : State, s.vm.Alike t.vm → H.size ≤ t.heap.size → (∀ q : Nat, q < H.size → t.heap[q]? = H[q]?) → XC cls s t)
    (hf : ∀ z ∈ locs, free z.base) (hc : cells + 1 ≤ mc) (hs : slots + 6 ≤ ms) :
    W p l e R s m args below meth c H locs cells slots (vx_MQ below Qc XC args s mc ms free) (F0 m pc ls rest) := by
  intro T hT X
  have htr : e.platform.stackTraces = false := (show e.platform.stackTraces = l.stackTraces by rw [X.admits.platform]).trans hl
  have Y := vx_rebase X (R' := { frames := R.frames, locals := R.locals, cells := 1, slots := 6 }) (Nat.le_refl _) (Nat.le_refl _) hRcells hRslots
  obtain ⟨s', hA⟩ : ∃ z, z = (T.setVm s.vm).setFrames (.invoking m args :: below) := ⟨_, rfl⟩
  rw [← hA] at Y
  have hvm : s'.vm = s.vm := by rw [hA]; rfl
  have hhp : s'.heap = H := by rw [hA]; exact hT
  have hW0 : s.WarmedH s'.vm := by rw [hvm]; exact State.WarmedH.refl s
  have hat' : ∀ w ∈ vx_atS own ic cls names, w.before args s' = true := fun w hw => vx_ot_at hW0 hvm.symm (hgood w (List.mem_cons_of_mem _ (List.mem_cons_of_mem _ hw))) (hat w hw)
  have hk' : (Cond.classLink own ik cls).before args s' = true := vx_ot_at hW0 hvm.symm (hgood _ List.mem_cons_self) hk
  have hini' : (Cond.initialized cls).before args s' = true := vx_ot_at hW0 hvm.symm (hgood _ (List.mem_cons_of_mem _ List.mem_cons_self)) hini
  have hU' : vx_Zq Bundle.tN "UNASSIGNED_STACK" Bundle.steD A s' s'.heap := by rw [hhp]; exact vx_Zq.moved hW0.alike (hU.kept hS.2.1)
  have hN' : vx_Zq Bundle.tN "SUPPRESSED_SENTINEL" Bundle.listD A s' s'.heap := by rw [hhp]; exact vx_Zq.moved hW0.alike (hN.kept hS.2.1)
  have h : ∀ w ∈ Bundle.ownAtoms own ic cls names, w.before args s' = true := vx_own hat' (vx_isRefq hU'.1) (vx_isRefq hN'.1) hU'.2.word hN'.2.word
  have hown' : s'.vm.findClass own = some m.cls := by rw [hvm]; exact hown
  have hins : (Cond.instantiable cls 6).before args s' = true := h _ (by simp [Bundle.ownAtoms])
  obtain ⟨vm₁, cX, kX, hfX, hkX, -, -, X₁, st1⟩ := Y.newCold hexec (own := own) (C := cls) (index := ik) (n := 6) hown' hk' hins hini'
    (g := F0 m pc ls rest) rfl (by rw [hb]; exact d0) (Nat.le_refl _) (Nat.le_refl _)
  generalize hT1 : (T.setVm vm₁).pushCell { cls := cX, slots := kX.instanceTypes.map defaultValue, vm := .none } = T1 at X₁ st1
  have hcat : (Value.ref T.heap.size).category = 1 := rfl
  have hcellA : T1.heap[T.heap.size]? = some (freshCell cX kX) := by rw [← hT1]; exact State.heap_pushCell_size _ _
  have d3' : decode c.code (pc + 3) = .ok (.dup, 1) := by rw [hb]; exact d3
  have d4' : decode c.code (pc + 4) = .ok (.ldc is, 2) := by rw [hb]; exact d4
  have hstr' : vk_R own is text sa s' := vk_R.warm hW0 hstr
  obtain ⟨U, hsteps, hrun, hend, hW, hsame, ce, hce, hO⟩ := X₁.ctorThrowS hexec htr (own := own) (cls := cls) (names := names) (ic := ic) hown' hcls hnames h (fun x hx => nomatch hx) hfX hkX hcellA (by rw [hhp, hT]; exact Nat.le_refl _) (msg := .ref sa) rfl
    (g := { method := m, pc := pc + 6, locals := ls, stack := .ref sa :: .ref T.heap.size :: .ref T.heap.size :: rest, locked := none }) rfl hsize rfl rfl (rest := rest) rfl
    (by rw [hb]; exact d6) (by rw [hb]; exact d9) hout hRframes (by simp only [List.map_cons, List.sum_cons, hcat]; omega) hlocks
  obtain ⟨f1, f2⟩ := vx_frame hsame
  rw [hhp] at f1 f2
  have hWs : s.WarmedH U.vm := State.WarmedH.trans hW0 hW
  have hcl : s.vm.findClass cls = some ce.cls := by
    have h9 := hO.cls
    rw [hvm] at h9
    exact h9
  have hall : s.sameButNew ({ U with vm := s.vm } : State) locs mc ms := by
    subst hA
    obtain ⟨e1, e2⟩ := hsame
    rw [State.setFrames_setFrames] at e1
    have h2 : (T.setVm s.vm).sameButNew ({ U with vm := s.vm } : State) [] (0 + 1) (0 + 6) := ⟨e1, e2⟩
    have h3 := X.same.trans h2
    rw [List.append_nil] at h3
    exact h3.mono hc hs
  refine ⟨U, ?_, .threw T.heap.size, hrun, hend, Or.inr ⟨T.heap.size, rfl, cls, ce, locs, hx U hWs.alike f1 (fun q hq => f2 q hq (fun z hz => nomatch hz)), hce, hO.vm, hcl, hWs, hall, hf⟩⟩
  refine st1 _ ?_
  show Steps p.tables e below (T1.setTop { method := m, pc := pc + 3, locals := ls, stack := .ref T.heap.size :: rest, locked := none }) _
  jvm_step X₁.here [X₁.here.top, hexec, d3', Value.category]
  exact X₁.ldcString hexec (own := own) (text := text) (index := is) (a := sa) hown' hstr'.1 hstr'.2
    (g := { method := m, pc := pc + 4, locals := ls, stack := .ref T.heap.size :: .ref T.heap.size :: rest, locked := none }) rfl d4' _ hsteps
/-- 'throw new E("text")', the text by a wide index -/
theorem vx_throwSW {cc : ByteArray} {pc : Nat} (hexec : p.tables.exec = Jvm.exec) (hb : c.code = cc) (hl : l.stackTraces = false) {own cls text : String} {names : List String} {ik is ic mc ms sa : Nat} {A : Nat → Prop}
    (hown : s.vm.findClass own = some m.cls) (hcls : Bundle.fit cls = true) (hnames : ∀ n ∈ names, Bundle.fit n = true)
    (hk : (Cond.classLink own ik cls).before args s = true) (hini : (Cond.initialized cls).before args s = true) (hstr : vk_R own is text sa s) (hat : ∀ w ∈ vx_atS own ic cls names, w.before args s = true)
    (hgood : ∀ w ∈ Cond.classLink own ik cls :: Cond.initialized cls :: vx_atS own ic cls names, vx_ot w = true)
    (hU : vx_Zq Bundle.tN "UNASSIGNED_STACK" Bundle.steD A s s.heap) (hN : vx_Zq Bundle.tN "SUPPRESSED_SENTINEL" Bundle.listD A s s.heap) (hS : va_S A s.heap H locs) (hsize : ls.size = c.maxLocals)
    (d0 : decode cc pc = .ok (.new ik, 3)) (d3 : decode cc (pc + 3) = .ok (.dup, 1)) (d4 : decode cc (pc + 4) = .ok (.ldc_w is, 3)) (d7 : decode cc (pc + 7) = .ok (.invokespecial ic, 3)) (d10 : decode cc (pc + 10) = .ok (.athrow, 1))
    (hout : ∀ x ∈ c.exceptionTable.toList, covers x (pc + 10) = false)
    (hRframes : names.length + 3 < R.frames) (hRlocals : (rest.map fun v => v.category).sum + (13 * (names.length + 1) + 43) ≤ R.locals) (hRcells : cells + 1 ≤ R.cells) (hRslots : slots + 6 ≤ R.slots) (hlocks : meth.locks = false)
    (hx : ∀ t : State, s.vm.Alike t.vm → H.size ≤ t.heap.size → (∀ q : Nat, q < H.size → t.heap[q]? = H[q]?) → XC cls s t)
    (hf : ∀ z ∈ locs, free z.base) (hc : cells + 1 ≤ mc) (hs : slots + 6 ≤ ms) :
    W p l e R s m args below meth c H locs cells slots (vx_MQ below Qc XC args s mc ms free) (F0 m pc ls rest) := by
  intro T hT X
  have htr : e.platform.stackTraces = false := (show e.platform.stackTraces = l.stackTraces by rw [X.admits.platform]).trans hl
  have Y := vx_rebase X (R' := { frames := R.frames, locals := R.locals, cells := 1, slots := 6 }) (Nat.le_refl _) (Nat.le_refl _) hRcells hRslots
  obtain ⟨s', hA⟩ : ∃ z, z = (T.setVm s.vm).setFrames (.invoking m args :: below) := ⟨_, rfl⟩
  rw [← hA] at Y
  have hvm : s'.vm = s.vm := by rw [hA]; rfl
  have hhp : s'.heap = H := by rw [hA]; exact hT
  have hW0 : s.WarmedH s'.vm := by rw [hvm]; exact State.WarmedH.refl s
  have hat' : ∀ w ∈ vx_atS own ic cls names, w.before args s' = true := fun w hw => vx_ot_at hW0 hvm.symm (hgood w (List.mem_cons_of_mem _ (List.mem_cons_of_mem _ hw))) (hat w hw)
  have hk' : (Cond.classLink own ik cls).before args s' = true := vx_ot_at hW0 hvm.symm (hgood _ List.mem_cons_self) hk
  have hini' : (Cond.initialized cls).before args s' = true := vx_ot_at hW0 hvm.symm (hgood _ (List.mem_cons_of_mem _ List.mem_cons_self)) hini
  have hU' : vx_Zq Bundle.tN "UNASSIGNED_STACK" Bundle.steD A s' s'.heap := by rw [hhp]; exact vx_Zq.moved hW0.alike (hU.kept hS.2.1)
  have hN' : vx_Zq Bundle.tN "SUPPRESSED_SENTINEL" Bundle.listD A s' s'.heap := by rw [hhp]; exact vx_Zq.moved hW0.alike (hN.kept hS.2.1)
  have h : ∀ w ∈ Bundle.ownAtoms own ic cls names, w.before args s' = true := vx_own hat' (vx_isRefq hU'.1) (vx_isRefq hN'.1) hU'.2.word hN'.2.word
  have hown' : s'.vm.findClass own = some m.cls := by rw [hvm]; exact hown
  have hins : (Cond.instantiable cls 6).before args s' = true := h _ (by simp [Bundle.ownAtoms])
  obtain ⟨vm₁, cX, kX, hfX, hkX, -, -, X₁, st1⟩ := Y.newCold hexec (own := own) (C := cls) (index := ik) (n := 6) hown' hk' hins hini'
    (g := F0 m pc ls rest) rfl (by rw [hb]; exact d0) (Nat.le_refl _) (Nat.le_refl _)
  generalize hT1 : (T.setVm vm₁).pushCell { cls := cX, slots := kX.instanceTypes.map defaultValue, vm := .none } = T1 at X₁ st1
  have hcat : (Value.ref T.heap.size).category = 1 := rfl
  have hcellA : T1.heap[T.heap.size]? = some (freshCell cX kX) := by rw [← hT1]; exact State.heap_pushCell_size _ _
  have d3' : decode c.code (pc + 3) = .ok (.dup, 1) := by rw [hb]; exact d3
  have d4' : decode c.code (pc + 4) = .ok (.ldc_w is, 3) := by rw [hb]; exact d4
  have hstr' : vk_R own is text sa s' := vk_R.warm hW0 hstr
  obtain ⟨U, hsteps, hrun, hend, hW, hsame, ce, hce, hO⟩ := X₁.ctorThrowS hexec htr (own := own) (cls := cls) (names := names) (ic := ic) hown' hcls hnames h (fun x hx => nomatch hx) hfX hkX hcellA (by rw [hhp, hT]; exact Nat.le_refl _) (msg := .ref sa) rfl
    (g := { method := m, pc := pc + 7, locals := ls, stack := .ref sa :: .ref T.heap.size :: .ref T.heap.size :: rest, locked := none }) rfl hsize rfl rfl (rest := rest) rfl
    (by rw [hb]; exact d7) (by rw [hb]; exact d10) hout hRframes (by simp only [List.map_cons, List.sum_cons, hcat]; omega) hlocks
  obtain ⟨f1, f2⟩ := vx_frame hsame
  rw [hhp] at f1 f2
  have hWs : s.WarmedH U.vm := State.WarmedH.trans hW0 hW
  have hcl : s.vm.findClass cls = some ce.cls := by
    have h9 := hO.cls
    rw [hvm] at h9
    exact h9
  have hall : s.sameButNew ({ U with vm := s.vm } : State) locs mc ms := by
    subst hA
    obtain ⟨e1, e2⟩ := hsame
    rw [State.setFrames_setFrames] at e1
    have h2 : (T.setVm s.vm).sameButNew ({ U with vm := s.vm } : State) [] (0 + 1) (0 + 6) := ⟨e1, e2⟩
    have h3 := X.same.trans h2
    rw [List.append_nil] at h3
    exact h3.mono hc hs
  refine ⟨U, ?_, .threw T.heap.size, hrun, hend, Or.inr ⟨T.heap.size, rfl, cls, ce, locs, hx U hWs.alike f1 (fun q hq => f2 q hq (fun z hz => nomatch hz)), hce, hO.vm, hcl, hWs, hall, hf⟩⟩
  refine st1 _ ?_
  show Steps p.tables e below (T1.setTop { method := m, pc := pc + 3, locals := ls, stack := .ref T.heap.size :: rest, locked := none }) _
  jvm_step X₁.here [X₁.here.top, hexec, d3', Value.category]
  exact X₁.ldcStringW hexec (own := own) (text := text) (index := is) (a := sa) hown' hstr'.1 hstr'.2
    (g := { method := m, pc := pc + 4, locals := ls, stack := .ref T.heap.size :: .ref T.heap.size :: rest, locked := none }) rfl d4' _ hsteps
end Ends
section Bodies
variable {l : Launch}
theorem vx_ofW {y : MethodName} {ws ws' : List Cond} {rm : Room} {Pc : Array Value → State → Prop} {Qc : Array Value → State → Outcome → State → Prop} {XC : String → State → State → Prop} {mc ms : Nat} {free : Addr → Prop} {cc : ByteArray} {maxL : Nat} {ret : Option FieldType}
    (hy : plainName y.cls = true) (hw : ws = Cond.code y cc maxL ret :: ws')
    (body : ∀ p e s m args below meth c s₁, BodyLoose p l y (headSpec ws rm) cc maxL ret e s m args below meth c s₁ → c.maxLocals = maxL → (∀ x ∈ c.exceptionTable.toList, False) → Pc args s →
      W p l e (headSpec ws rm).room s m args below meth c s.heap [] 0 0 (vx_MQ below Qc XC args s mc ms free) (entryFrame m args maxL)) : vx_Met l y ws rm Pc Qc XC mc ms free := by
  refine MetFree.of_bodyS (code := cc) (maxLocals := maxL) (ret := ret) hy ?_ ?_
  · intro args s m h hn
    obtain ⟨meth, c, h1, h2, h3, h4, h5, h6, -, -⟩ := Cond.code_spec hn (atoms_spec (ws := ws) h _ (by rw [hw]; exact List.mem_cons_self))
    exact ⟨meth, c, h1, h2, h3, h4, h5, h6⟩
  · intro p e s m args below meth c s₁ B hml hP _
    have hh0 : s₁.heap = s.heap := by rw [B.state]; rfl
    have ht : ∀ x ∈ c.exceptionTable.toList, False := by
      obtain ⟨meth9, c9, h1, h2, -, -, -, -, h7, -⟩ := Cond.code_spec B.named (atoms_spec (ws := ws) B.pre _ (by rw [hw]; exact List.mem_cons_self))
      cases Option.some.inj (h1.symm.trans B.method)
      cases Option.some.inj (h2.symm.trans (Stand.of_body B).code)
      intro x hx
      rw [Array.isEmpty_iff.mp h7] at hx
      cases hx
    obtain ⟨t, a1, o, b1, b2, b3⟩ := body p e s m args below meth c s₁ B hml ht hP s₁ hh0 (Stand.of_body B)
    exact ⟨t, o, a1, b1, b2, b3⟩
/-- the table of a body with handlers -/
theorem vx_table {p : Program} {x y : MethodName} {S : Spec} {cc bytes : ByteArray} {maxL maxL' : Nat} {ret ret' : Option FieldType} {e : Env} {s s₁ : State} {m : MethodId} {args : Array Value} {below : List Frame} {meth : Method} {c : Code} {hh : List (Nat × Nat × Nat × Nat)}
    (B : BodyLoose p l y S cc maxL ret e s m args below meth c s₁) (h : (Cond.codeWith y bytes maxL' ret' hh).before args s = true) : c.exceptionTable.toList = tableOf hh := by
  obtain ⟨m9, meth9, c9, hn9, h1, h2, -, -, h6, -⟩ := Cond.codeWith_spec h
  cases Option.some.inj (hn9.symm.trans B.named)
  cases Option.some.inj (h1.symm.trans B.method)
  cases Option.some.inj (h2.symm.trans (Stand.of_body B).code)
  rw [← h6, table_eq]
end Bodies
end VXA
/-! ===== END ===== -/
/-! ===== BEGIN a static call of a method with an exception table ===== -/
section VXS
variable {p : Program} {l : Launch} {e : Env} {R : Room} {s : State} {m : MethodId} {args : Array Value} {below : List Frame} {meth : Method} {c : Code} {T : State} {H : Heap} {locs : List Loc} {cells slots : Nat}
abbrev vx_CSW (R : Room) (s : State) (args : Array Value) (own : String) (index : Nat) (y : MethodName) (bytes : ByteArray) (maxL : Nat) (ret : Option FieldType) (hh : List (Nat × Nat × Nat × Nat)) (ws : List Cond) (rm : Room) (mc ms n : Nat) : Prop :=
  (rm.cells = mc ∧ rm.slots = ms ∧ rm.frames + 1 ≤ R.frames ∧ 8 + (maxL + 11) + rm.locals ≤ R.locals ∧ (∀ w ∈ ws, ∀ (a' : Array Value) (U : State), s.WarmedH U.vm → w.before a' U = true) ∧ Cond.codeWith y bytes maxL ret hh ∈ ws) ∧
  (Cond.codeWith y bytes maxL ret hh).before args s = true ∧ (Cond.initialized y.cls).before args s = true ∧ (y.cls ≠ "java/lang/invoke/MethodHandle" ∧ y.cls ≠ "java/lang/invoke/VarHandle") ∧
  (∀ sig, parseMethodDescriptor y.desc = some sig → n = sig.parameters.length) ∧ (Cond.methodLink own index y).before args s = true ∧ (Cond.static y).before args s = true
theorem vx_cwSW {own : String} {index maxL mc ms : Nat} {y : MethodName} {bytes : ByteArray} {ret : Option FieldType} {hh : List (Nat × Nat × Nat × Nat)} {Ts ws ws' : List Cond} {rm : Room} (n : Nat) (ht : ∀ w ∈ Ts, w.before args s = true) (hT : GoodIn Ts (va_wsS own index y ws)) (hw : ws = Cond.codeWith y bytes maxL ret hh :: ws') (hrc : rm.cells = mc) (hrs : rm.slots = ms)
    (hd : y.cls ≠ "java/lang/invoke/MethodHandle" ∧ y.cls ≠ "java/lang/invoke/VarHandle" ∧ (parseMethodDescriptor y.desc).map (fun d => d.parameters.length) = some n) (hR : rm.frames + 1 ≤ R.frames ∧ 8 + (maxL + 11) + rm.locals ≤ R.locals) :
    vx_CSW R s args own index y bytes maxL ret hh ws rm mc ms n := by
  have ok : ∀ w ∈ va_wsS own index y ws, w.before args s = true := fun w h => ht w (hT w h).1
  have hG : GoodIn Ts ws := fun w h => hT w (by unfold va_wsS; exact List.mem_append_right _ h)
  have hc : Cond.codeWith y bytes maxL ret hh ∈ ws := by rw [hw]; exact List.mem_cons_self
  refine ⟨⟨hrc, hrs, hR.1, hR.2, pay_in ht hG, hc⟩, ht _ (hG _ hc).1, ok _ (by simp [va_wsS]), ⟨hd.1, hd.2.1⟩, fun sig h => ?_, ok _ (by simp [va_wsS]), ok _ (by simp [va_wsS])⟩
  have h2 := hd.2.2
  rw [h] at h2
  exact (Option.some.inj h2).symm
theorem vx_callSW (X : Stand p l e R s m args below meth c T locs cells slots) (hexec : p.tables.exec = Jvm.exec) {own : String} {index : Nat} {y : MethodName} {bytes : ByteArray} {maxL : Nat} {ret : Option FieldType} {hh : List (Nat × Nat × Nat × Nat)}
    (hown : s.vm.findClass own = some m.cls) (hlink : (Cond.methodLink own index y).before args s = true) (hstat : (Cond.static y).before args s = true) (hinit : (Cond.initialized y.cls).before args s = true)
    (hcode : (Cond.codeWith y bytes maxL ret hh).before args s = true) (hy : y.cls ≠ "java/lang/invoke/MethodHandle" ∧ y.cls ≠ "java/lang/invoke/VarHandle")
    {W9 : Nat} {Pre : Pt → Array Value → Prop} {Post : Pt → Array Value → Option Value → Pt → Prop} (hK : Back l R p e below s args y 3 W9 Pre Post)
    {g : JFrame} (hg : g.method = m) (hsize : g.locals.size = c.maxLocals) {argsL rest : List Value} (hlen : ∀ sig, parseMethodDescriptor y.desc = some sig → argsL.length = sig.parameters.length)
    (hstack : g.stack = argsL.reverse ++ rest) (hW : 2 * g.monitorRoom + (rest.map fun v => v.category).sum ≤ W9) (hdg : decode c.code g.pc = .ok (.invokestatic index, 3))
    (hpre : ∀ vm₁, s.WarmedH vm₁ → Pre ⟨T.setVm vm₁, locs, cells, slots⟩ argsL.toArray) :
    ∃ (v : Option Value) (vm₁ : Vm) (B : Pt), s.WarmedH vm₁ ∧ Stand p l e R s m args below meth c B.U B.locs B.cells B.slots ∧ Post ⟨T.setVm vm₁, locs, cells, slots⟩ argsL.toArray v B ∧
      ∀ target, Steps p.tables e below (B.U.setTop { g with pc := g.pc + 3, stack := v.toList ++ rest }) target → Steps p.tables e below (T.setTop g) target := by
  obtain ⟨mk, methM, cM, hnamed, hmethM, -, -, -, -, -, -, hsigM⟩ := Cond.codeWith_spec hcode
  have hstatic : methM.isStatic = true := Cond.static_spec hnamed hmethM hstat
  obtain ⟨kP, hkP, -⟩ := className_of_methodNamed hnamed
  have hinitP : kP.init = .initialized := Cond.initialized_spec (findClass_of_methodNamed hnamed) hkP hinit
  obtain ⟨vm₁, X₁, hstep₁⟩ := X.invokestatic hexec hown hlink hnamed hmethM hstatic hkP hinitP hy (g := g) hg (argsL := argsL) (rest := rest) (hlen _ hsigM) hstack hdg
  obtain ⟨v, B, X', hpost, hsteps⟩ := hK m meth c ⟨T.setVm vm₁, locs, cells, slots⟩ { g with stack := rest } (.invokestatic index) mk argsL.toArray X₁ hg hsize hdg hW (X₁.named hnamed) (hpre vm₁ X₁.warmed)
  exact ⟨v, vm₁, B, X₁.warmed, X', hpost, fun target h => hstep₁ _ fun acts => by rw [doInvoke_state]; exact hsteps.trans h⟩
theorem vx_runSW {y : MethodName} {bytes cc : ByteArray} {maxL nL mc ms n index : Nat} {ret : Option FieldType} {hh : List (Nat × Nat × Nat × Nat)} {ws : List Cond} {rm : Room} {Pc : Array Value → State → Prop} {Qc : Array Value → State → Outcome → State → Prop} {free : Addr → Prop} {Ts : List Cond} {own : String} {As rest : List Value} {g : JFrame}
    (S : CallFix p m c cc nL s args Ts own) (hM : Met l y ws rm Pc Qc mc ms free) (cw : vx_CSW R s args own index y bytes maxL ret hh ws rm mc ms n) (hp : PreS s H Pc As)
    (hg : g.method = m) (hn : As.length = n) (hsize : g.locals.size = nL) (hstack : g.stack = As.reverse ++ rest) (hW : 2 * g.monitorRoom + (rest.map fun v => v.category).sum ≤ 8) (hdg : decode cc g.pc = .ok (.invokestatic index, 3)) (hf : cells + mc ≤ R.cells ∧ slots + ms ≤ R.slots) :
    va_Run p l e R s m args below meth c H locs cells slots mc ms g rest (Qc As.toArray) (free) := by
  obtain ⟨⟨hrc, hrs, hfr, hlo, hws, hcw⟩, hcode, hini, hy, hlen, hl, hstt⟩ := cw
  have hK : Back l R p e below s args y 3 8 (PreOf R mc ms Pc) (PostOf Qc mc ms free) := va_backW (hh := hh) (bytes := bytes) (maxL := maxL) (ret := ret) hM hp.1 hrc hrs hfr hlo hws hcw (fun a' U hW => word_at hW (Or.inl (by first | rfl | simp [Cond.onTables, Cond.keeps, Cond.steady])) hini)
  obtain ⟨hx, hb, hml, ho, -⟩ := S
  intro T hT X
  obtain ⟨v, vm₁, ⟨U', l2, c2, s2⟩, hW₁, X', ⟨g', mk, t, L, e1, e2, hq, h1, hL, h2, h3⟩, st⟩ := vx_callSW X hx (hh := hh) (bytes := bytes) (maxL := maxL) (ret := ret) ho hl hstt hini hcode hy hK hg (hsize.trans hml.symm) (argsL := As) (rest := rest) (fun sig h => hn.trans (hlen sig h)) hstack hW (by rw [hb]; exact hdg)
    (fun vm₁ hW₁ => ⟨hf.1, hf.2, hp.2 (T.setVm vm₁) hT hW₁⟩)
  dsimp only [Pt.U, Pt.locs, Pt.cells, Pt.slots] at X' e1 e2 h1 h2 h3 st
  subst h1; subst h2; subst h3
  exact ⟨v, (T.setVm vm₁).calling g' mk As.toArray, t, U', L, hT, X', hL, e1, e2, hq, st⟩
/-- not caught here, past rows that name other classes: it goes on to the caller -/
theorem vx_outP {p : Program} {l : Launch} {e : Env} {R : Room} {s : State} {m : MethodId} {args : Array Value} {below : List Frame} {meth : Method} {c : Code} {H : Heap} {locs : List Loc} {cells slots : Nat} {free : Addr → Prop} {ls : Array Slot} {rest : List Value} {Qc : Array Value → State → Outcome → State → Prop} {XC : String → State → State → Prop}
    {pc : Nat} {own E : String} {ce : Cell} {q : Addr} {mc ms : Nat} (hown : s.vm.findClass own = some m.cls) (hlocks : meth.locks = false)
    (hpass : ∀ z ∈ c.exceptionTable.toList, covers z pc = false ∨ (z.catchType ≠ 0 ∧ ∃ nm : String, (Cond.classLink own z.catchType nm).before args s = true ∧ va_Nc E nm s)) (hcell : H[q]? = some ce) (hv : ce.vm = .none) (hcl : s.vm.findClass E = some ce.cls)
    (hx : ∀ t : State, t.heap = H → s.vm.Alike t.vm → XC E s t) (hf : ∀ z ∈ locs, free z.base) (hc : cells ≤ mc) (hs : slots ≤ ms) :
    vx_W p l e R s m args below meth c H locs cells slots (vx_MQ below Qc XC args s mc ms free) (F0 m pc ls rest) q := by
  intro T hT X
  have hpl : e.platform.magicAccessors = ({} : Platform).magicAccessors := by rw [X.admits.platform]
  obtain ⟨vm', hW', X', st⟩ := X.outThrough hlocks q (g := F0 m pc ls rest) rfl rfl rfl (cell := ce) (by rw [hT]; exact hcell) (by rw [hv]; rfl)
    (by obtain ⟨k9, h9, -⟩ := Vm.findClass_spec hcl; exact ⟨k9, h9⟩) (fun z hz => by
      rcases hpass z hz with h | ⟨hz0, nm, hl1, hn1⟩
      · exact Or.inl h
      · obtain ⟨c6, hc6, hcl6⟩ := Cond.classLink_spec hown hl1 e.platform hpl
        obtain ⟨a8, b8, h1, h2, h3⟩ := hn1
        cases Option.some.inj (h1.symm.trans hcl)
        cases Option.some.inj (h2.symm.trans hc6)
        exact Or.inr ⟨hz0, _, hcl6, h3⟩)
  obtain ⟨g₀, hfr⟩ := X'.frames_eq
  have hcell9 : ((T.setVm vm').setFrames (.throwing q :: below)).heap[q]? = some ce := by
    show T.heap[q]? = some ce
    rw [hT]; exact hcell
  have hend : Ended ((T.setVm vm').setFrames (.throwing q :: below)) below (.threw q) := State.frames_setFrames _ (State.cur_lt_of_frames hfr)
  refine ⟨(T.setVm vm').setFrames (.throwing q :: below), ?_, .threw q, X'.here.running, hend, Or.inr ⟨q, rfl, E, ce, locs, hx _ hT (X'.ends _).1.alike, hcell9, hv, hcl, (X'.ends _).1, (X'.ends _).2.mono hc hs, hf⟩⟩
  rw [X.pushThrowing_eq]
  exact st
/-- a thing of a world lies in the heap -/
theorem vx_lt {D : va_G} {cl : List vw_C} {ws : va_W} {H1 : Heap} (h : va_P D cl ws H1) {k : Nat} {q : Nat × va_E} (hk : ws[k]? = some q) : q.1 < H1.size := (h k q hk).lt
end VXS
/-! ===== END ===== -/
/-! ===== BEGIN methods with a table of their own: called by a name, returning or throwing ===== -/
section VXH
/-! vx_backW, vx_callVX, vx_callSX, vx_callVW, vx_runVW, vx_runVX, vx_runSX, vx_ofWH follow the same proofs as their sisters above (Free/Laws.lean, Shelf42/LK1.lean); vx_outP calls Shelf42/NT130.lean (outThrough). -/
section
variable {l : Launch} {R : Room} {p : Program} {e : Env} {below : List Frame} {s : State} {sargs : Array Value} {y : MethodName} {len W9 : Nat}
theorem vx_backW {ws : List Cond} {rm : Room} {Pc : Array Value → State → Prop} {Qc : Array Value → State → Outcome → State → Prop} {XC : String → State → State → Prop} {mc ms : Nat} {free : Addr → Prop} {bytes : ByteArray} {maxL : Nat} {ret : Option FieldType} {hh : List (Nat × Nat × Nat × Nat)}
    (hM : vx_Met l y ws rm Pc Qc XC mc ms free) (hblind : FrameBlind Pc) (hrc : rm.cells = mc) (hrs : rm.slots = ms)
    (hframes : rm.frames + 1 ≤ R.frames) (hlocals : W9 + (maxL + 11) + rm.locals ≤ R.locals)
    (hws : ∀ w ∈ ws, ∀ a' U, s.WarmedH U.vm → w.before a' U = true) (hcode : Cond.codeWith y bytes maxL ret hh ∈ ws) (hinit : ∀ a' U, s.WarmedH U.vm → (Cond.initialized y.cls).before a' U = true) :
    vx_Back l R p e below s sargs y len W9 (PreOf R mc ms Pc) (PostOf Qc mc ms free) (vx_Post XC mc ms free) := by
  intro m meth c A g ig mk a X hg hsize hdg hW hn hp
  have h1 : (headSpec ws rm).pre.before a A.U = true := atoms_intro fun w hw => hws w hw _ _ X.warmed
  have h2 : (Cond.codeWith y bytes maxL ret hh).before a A.U = true := hws _ hcode _ _ X.warmed
  have h3 : (Cond.initialized y.cls).before a A.U = true := hinit _ _ X.warmed
  have h4 : A.cells + (headSpec ws rm).room.cells ≤ R.cells := by rw [show (headSpec ws rm).room.cells = mc from hrc]; exact hp.1
  have h5 : A.slots + (headSpec ws rm).room.slots ≤ R.slots := by rw [show (headSpec ws rm).room.slots = ms from hrs]; exact hp.2.1
  have hPc : Pc a (A.U.calling g mk a) := hblind _ _ _ _ hp.2.2
  obtain ⟨U, Ls, c0, s0⟩ := A
  dsimp only [Pt.U, Pt.locs, Pt.cells, Pt.slots] at h1 h2 h3 h4 h5 X hn hPc ⊢
  obtain ⟨m9, methY, cY, hn9, hmY, hcY, -, hlY, -⟩ := Cond.codeWith_spec h2
  cases Option.some.inj (hn9.symm.trans hn)
  obtain ⟨kY, hkY, -⟩ := className_of_methodNamed hn
  have hinitY : kY.init = .initialized := Cond.initialized_spec (findClass_of_methodNamed hn) hkY h3
  have h : At U g.method c below := by rw [hg]; exact X.here
  have hlocals9 : W9 + (maxL + 11) + (headSpec ws rm).room.locals ≤ R.locals := hlocals
  have happ : (headSpec ws rm).appliesLoose y e.platform (U.calling g mk a) = true :=
    Spec.appliesLoose_calling (g := g) h hdg hn hkY hinitY
      (X.room_calling (g := g) (R' := (headSpec ws rm).room) hsize hmY hcY hframes (by rw [hlY]; omega) h4 h5) h1
  obtain ⟨mid, hmid⟩ := h.above
  have hfr : (U.setTop g).frames = (.java g :: mid) ++ below := by rw [State.frames_setTop' g h.top, hmid]; rfl
  obtain ⟨o, s₂, hsteps, -, hend, hq⟩ := Steps.callFree hM p X.admits X.cas X.clock (acts := []) hfr happ hPc trivial
  have hq' : vx_Q Qc XC mc ms free a (U.calling g mk a) o s₂ := hq
  rw [State.frames_setTop' g h.top] at hend
  obtain ⟨g₀, hg0⟩ := Option.isSome_iff_exists.mp h.top
  obtain ⟨r, hr⟩ := State.topJava?_eq_some.mp hg0
  have hr' : (({ U with heap := s₂.heap, slotsUsed := s₂.slotsUsed } : State).setVm s₂.vm).frames = .java g₀ :: r := hr
  rcases hq' with ⟨hqc, L, hfe, hL⟩ | ⟨q, rfl, E, ce, L, hx, hce, hcv, hcl, hW₂, hsm, hL⟩
  · obtain ⟨⟨v, rfl⟩, hW₂, e2, q2, q3, q4, q5, q6⟩ := id hfe
    have e3 : s₂ = ({ (U.calling g mk a).setFrames s₂.frames with heap := s₂.heap, slotsUsed := s₂.slotsUsed } : State).setVm s₂.vm := by
      have : s₂ = ({ s₂ with vm := (U.calling g mk a).vm } : State).setVm s₂.vm := rfl
      rw [e2] at this
      exact this
    obtain ⟨c₂, i₂, len₂, hc₂, hd₂, hf₂⟩ := hend
    have hW' : U.WarmedH s₂.vm := hW₂
    have hcc : c₂ = c := by
      have h1 : s₂.code? g.method = U.code? g.method := by
        rw [State.code?_eq, State.code?_eq, hW'.alike.method?]
      exact Option.some.inj (hc₂.symm.trans (h1.trans h.code))
    subst hcc
    have hlen : len₂ = len := by rw [hdg] at hd₂; cases hd₂; rfl
    subst hlen
    have hs₂ : s₂ = (({ U with heap := s₂.heap, slotsUsed := s₂.slotsUsed } : State).setVm s₂.vm).setTop { g with pc := g.pc + len₂, stack := v.toList ++ g.stack } := by
      refine e3.trans ?_
      rw [hf₂, State.calling_eq h.top, State.setFrames_setFrames, State.setTop_of_frames _ hr', hr]
      rfl
    have hsame : U.sameButNew ({ U with heap := s₂.heap, slotsUsed := s₂.slotsUsed } : State) L mc ms := by
      refine ⟨?_, q2, q3, q4, q5, q6⟩
      obtain ⟨t, ht, -⟩ := State.frames_cons hr
      show ({ U with heap := s₂.heap, slotsUsed := s₂.slotsUsed } : State) = { U.setFrames U.frames with heap := s₂.heap, slotsUsed := s₂.slotsUsed }
      rw [State.setFrames_self ht]
    subst hg
    refine Or.inl ⟨v, ⟨(({ U with heap := s₂.heap, slotsUsed := s₂.slotsUsed } : State).setVm s₂.vm), Ls ++ L, c0 + mc, s0 + ms⟩,
      ⟨X.admits, X.cas, X.clock, X.frames, X.room, X.hears, X.method, X.code, (X.here.setHeapUsed s₂.heap s₂.slotsUsed).setVm hW'.alike, X.tail, State.WarmedH.trans X.warmed hW', X.limits, X.bytes, X.same.trans (hsame.setVm s.vm)⟩,
      ⟨g, mk, s₂, L, rfl, rfl, hqc, rfl, hL, rfl, rfl⟩, ?_⟩
    show Steps p.tables e below _ ((({ U with heap := s₂.heap, slotsUsed := s₂.slotsUsed } : State).setVm s₂.vm).setTop { g with pc := g.pc + len₂, stack := v.toList ++ g.stack })
    rw [← hs₂]
    exact hsteps
  · obtain ⟨e2, q2, q3, q4, q5, q6⟩ := id hsm
    have e3 : s₂ = ({ (U.calling g mk a).setFrames s₂.frames with heap := s₂.heap, slotsUsed := s₂.slotsUsed } : State).setVm s₂.vm := by
      have : s₂ = ({ s₂ with vm := (U.calling g mk a).vm } : State).setVm s₂.vm := rfl
      rw [e2] at this
      exact this
    have hf₂ : s₂.frames = .throwing q :: .java g :: U.frames.tail := hend
    have hW' : U.WarmedH s₂.vm := hW₂
    have hs₂ : s₂ = ((({ U with heap := s₂.heap, slotsUsed := s₂.slotsUsed } : State).setVm s₂.vm).setTop g).pushFrame (.throwing q) := by
      refine e3.trans ?_
      rw [hf₂, State.calling_eq h.top, State.setFrames_setFrames, State.pushFrame, State.frames_setTop _ hr', State.setTop_of_frames _ hr', State.setFrames_setFrames, hr]
      rfl
    have hsame : U.sameButNew ({ U with heap := s₂.heap, slotsUsed := s₂.slotsUsed } : State) L mc ms := by
      refine ⟨?_, q2, q3, q4, q5, q6⟩
      obtain ⟨t, ht, -⟩ := State.frames_cons hr
      show ({ U with heap := s₂.heap, slotsUsed := s₂.slotsUsed } : State) = { U.setFrames U.frames with heap := s₂.heap, slotsUsed := s₂.slotsUsed }
      rw [State.setFrames_self ht]
    subst hg
    refine Or.inr ⟨q, ⟨(({ U with heap := s₂.heap, slotsUsed := s₂.slotsUsed } : State).setVm s₂.vm), Ls ++ L, c0 + mc, s0 + ms⟩,
      ⟨X.admits, X.cas, X.clock, X.frames, X.room, X.hears, X.method, X.code, (X.here.setHeapUsed s₂.heap s₂.slotsUsed).setVm hW'.alike, X.tail, State.WarmedH.trans X.warmed hW', X.limits, X.bytes, X.same.trans (hsame.setVm s.vm)⟩,
      ⟨g, mk, s₂, L, E, ce, rfl, rfl, hx, hce, hcv, hcl, rfl, hL, rfl, rfl⟩, ?_⟩
    show Steps p.tables e below _ (((({ U with heap := s₂.heap, slotsUsed := s₂.slotsUsed } : State).setVm s₂.vm).setTop g).pushFrame (.throwing q))
    rw [← hs₂]
    exact hsteps
end
variable {p : Program} {l : Launch} {e : Env} {R : Room} {s : State} {m : MethodId} {args : Array Value} {below : List Frame} {meth : Method} {c : Code} {T : State} {H : Heap} {locs : List Loc} {cells slots : Nat}
theorem vx_callVX (X : Stand p l e R s m args below meth c T locs cells slots) (hexec : p.tables.exec = Jvm.exec) {own C : String} {index : Nat} {y : MethodName} {bytes : ByteArray} {maxL : Nat} {ret : Option FieldType} {hh : List (Nat × Nat × Nat × Nat)}
    (hown : s.vm.findClass own = some m.cls) (hlink : (Cond.methodLink own index y).before args s = true) (hinst : (Cond.instanceMethod y).before args s = true) (hsel : (Cond.selects C y y).before args s = true)
    (hcode : (Cond.codeWith y bytes maxL ret hh).before args s = true) (hy : y.cls ≠ "java/lang/invoke/MethodHandle" ∧ y.cls ≠ "java/lang/invoke/VarHandle")
    {W9 : Nat} {Pre : Pt → Array Value → Prop} {Post : Pt → Array Value → Option Value → Pt → Prop} {PostX : Pt → Array Value → Addr → Pt → Prop} (hK : vx_Back l R p e below s args y 3 W9 Pre Post PostX)
    {b : Addr} {cellB : Cell} (hcell : T.heap[b]? = some cellB) (hobj : cellB.vm.isStatics = false) (hcls : s.vm.findClass C = some cellB.cls)
    {g : JFrame} (hg : g.method = m) (hsize : g.locals.size = c.maxLocals) {argsL rest : List Value} (hlen : ∀ sig, parseMethodDescriptor y.desc = some sig → argsL.length = sig.parameters.length)
    (hstack : g.stack = argsL.reverse ++ .ref b :: rest) (hW : 2 * g.monitorRoom + (rest.map fun v => v.category).sum ≤ W9) (hdg : decode c.code g.pc = .ok (.invokevirtual index, 3))
    (hpre : ∀ vm₁, s.WarmedH vm₁ → Pre ⟨T.setVm vm₁, locs, cells, slots⟩ (Value.ref b :: argsL).toArray) :
    (∃ (v : Option Value) (vm₁ : Vm) (B : Pt), s.WarmedH vm₁ ∧ Stand p l e R s m args below meth c B.U B.locs B.cells B.slots ∧ Post ⟨T.setVm vm₁, locs, cells, slots⟩ (Value.ref b :: argsL).toArray v B ∧
      ∀ target, Steps p.tables e below (B.U.setTop { g with pc := g.pc + 3, stack := v.toList ++ rest }) target → Steps p.tables e below (T.setTop g) target) ∨
    (∃ (q : Addr) (vm₁ : Vm) (B : Pt), s.WarmedH vm₁ ∧ Stand p l e R s m args below meth c B.U B.locs B.cells B.slots ∧ PostX ⟨T.setVm vm₁, locs, cells, slots⟩ (Value.ref b :: argsL).toArray q B ∧
      Steps p.tables e below (T.setTop g) ((B.U.setTop { g with stack := rest }).pushFrame (.throwing q))) := by
  obtain ⟨mk, methM, hnamed, hmethM, hstM, habM⟩ := Cond.instanceMethod_spec hinst
  obtain ⟨m8, methM', cM, hn8, hmethM', -, -, -, -, -, -, hsigM⟩ := Cond.codeWith_spec hcode
  cases Option.some.inj (hn8.symm.trans hnamed)
  cases hmethM.symm.trans hmethM'
  obtain ⟨c2, r2, m2, q1, q2, q3, q4, kP, hkP, hkPi⟩ := Cond.selects_spec hsel
  cases hcls.symm.trans q1
  cases (State.methodFound?_of_named hnamed hy).symm.trans q2
  cases hnamed.symm.trans q3
  have hselP : selectMethod e.platform s.vm cellB.cls mk = .method mk := by rw [Launch.admits_selectMethod X.admits]; exact q4
  obtain ⟨vm₁, X₁, hstep₁⟩ := X.invokevirtual hexec hown hlink hnamed hmethM hstM hkP hkPi hy (a := b) (cell := cellB) hcell
    (fun z h => by rw [h] at hobj; cases hobj) hselP hmethM habM hkP hkPi (g := g) hg (argsL := argsL) (rest := rest) (hlen _ hsigM) hstack hdg
  rcases hK m meth c ⟨T.setVm vm₁, locs, cells, slots⟩ { g with stack := rest } (.invokevirtual index) mk (Value.ref b :: argsL).toArray X₁ hg hsize hdg hW (X₁.named hnamed) (hpre vm₁ X₁.warmed) with ⟨v, B, X', hpost, hsteps⟩ | ⟨q, B, X', hpost, hsteps⟩
  · exact Or.inl ⟨v, vm₁, B, X₁.warmed, X', hpost, fun target h => hstep₁ _ fun acts => by rw [doInvoke_state]; exact hsteps.trans h⟩
  · exact Or.inr ⟨q, vm₁, B, X₁.warmed, X', hpost, hstep₁ _ fun acts => by rw [doInvoke_state]; exact hsteps⟩
theorem vx_callSX (X : Stand p l e R s m args below meth c T locs cells slots) (hexec : p.tables.exec = Jvm.exec) {own : String} {index : Nat} {y : MethodName} {bytes : ByteArray} {maxL : Nat} {ret : Option FieldType} {hh : List (Nat × Nat × Nat × Nat)}
    (hown : s.vm.findClass own = some m.cls) (hlink : (Cond.methodLink own index y).before args s = true) (hstat : (Cond.static y).before args s = true) (hinit : (Cond.initialized y.cls).before args s = true)
    (hcode : (Cond.codeWith y bytes maxL ret hh).before args s = true) (hy : y.cls ≠ "java/lang/invoke/MethodHandle" ∧ y.cls ≠ "java/lang/invoke/VarHandle")
    {W9 : Nat} {Pre : Pt → Array Value → Prop} {Post : Pt → Array Value → Option Value → Pt → Prop} {PostX : Pt → Array Value → Addr → Pt → Prop} (hK : vx_Back l R p e below s args y 3 W9 Pre Post PostX)
    {g : JFrame} (hg : g.method = m) (hsize : g.locals.size = c.maxLocals) {argsL rest : List Value} (hlen : ∀ sig, parseMethodDescriptor y.desc = some sig → argsL.length = sig.parameters.length)
    (hstack : g.stack = argsL.reverse ++ rest) (hW : 2 * g.monitorRoom + (rest.map fun v => v.category).sum ≤ W9) (hdg : decode c.code g.pc = .ok (.invokestatic index, 3))
    (hpre : ∀ vm₁, s.WarmedH vm₁ → Pre ⟨T.setVm vm₁, locs, cells, slots⟩ argsL.toArray) :
    (∃ (v : Option Value) (vm₁ : Vm) (B : Pt), s.WarmedH vm₁ ∧ Stand p l e R s m args below meth c B.U B.locs B.cells B.slots ∧ Post ⟨T.setVm vm₁, locs, cells, slots⟩ argsL.toArray v B ∧
      ∀ target, Steps p.tables e below (B.U.setTop { g with pc := g.pc + 3, stack := v.toList ++ rest }) target → Steps p.tables e below (T.setTop g) target) ∨
    (∃ (q : Addr) (vm₁ : Vm) (B : Pt), s.WarmedH vm₁ ∧ Stand p l e R s m args below meth c B.U B.locs B.cells B.slots ∧ PostX ⟨T.setVm vm₁, locs, cells, slots⟩ argsL.toArray q B ∧
      Steps p.tables e below (T.setTop g) ((B.U.setTop { g with stack := rest }).pushFrame (.throwing q))) := by
  obtain ⟨mk, methM, cM, hnamed, hmethM, -, -, -, -, -, -, hsigM⟩ := Cond.codeWith_spec hcode
  have hstatic : methM.isStatic = true := Cond.static_spec hnamed hmethM hstat
  obtain ⟨kP, hkP, -⟩ := className_of_methodNamed hnamed
  have hinitP : kP.init = .initialized := Cond.initialized_spec (findClass_of_methodNamed hnamed) hkP hinit
  obtain ⟨vm₁, X₁, hstep₁⟩ := X.invokestatic hexec hown hlink hnamed hmethM hstatic hkP hinitP hy (g := g) hg (argsL := argsL) (rest := rest) (hlen _ hsigM) hstack hdg
  rcases hK m meth c ⟨T.setVm vm₁, locs, cells, slots⟩ { g with stack := rest } (.invokestatic index) mk argsL.toArray X₁ hg hsize hdg hW (X₁.named hnamed) (hpre vm₁ X₁.warmed) with ⟨v, B, X', hpost, hsteps⟩ | ⟨q, B, X', hpost, hsteps⟩
  · exact Or.inl ⟨v, vm₁, B, X₁.warmed, X', hpost, fun target h => hstep₁ _ fun acts => by rw [doInvoke_state]; exact hsteps.trans h⟩
  · exact Or.inr ⟨q, vm₁, B, X₁.warmed, X', hpost, hstep₁ _ fun acts => by rw [doInvoke_state]; exact hsteps⟩
theorem vx_callVW (X : Stand p l e R s m args below meth c T locs cells slots) (hexec : p.tables.exec = Jvm.exec) {own C : String} {index : Nat} {y : MethodName} {bytes : ByteArray} {maxL : Nat} {ret : Option FieldType} {hh : List (Nat × Nat × Nat × Nat)}
    (hown : s.vm.findClass own = some m.cls) (hlink : (Cond.methodLink own index y).before args s = true) (hinst : (Cond.instanceMethod y).before args s = true) (hsel : (Cond.selects C y y).before args s = true)
    (hcode : (Cond.codeWith y bytes maxL ret hh).before args s = true) (hy : y.cls ≠ "java/lang/invoke/MethodHandle" ∧ y.cls ≠ "java/lang/invoke/VarHandle")
    {W9 : Nat} {Pre : Pt → Array Value → Prop} {Post : Pt → Array Value → Option Value → Pt → Prop} (hK : Back l R p e below s args y 3 W9 Pre Post)
    {b : Addr} {cellB : Cell} (hcell : T.heap[b]? = some cellB) (hobj : cellB.vm.isStatics = false) (hcls : s.vm.findClass C = some cellB.cls)
    {g : JFrame} (hg : g.method = m) (hsize : g.locals.size = c.maxLocals) {argsL rest : List Value} (hlen : ∀ sig, parseMethodDescriptor y.desc = some sig → argsL.length = sig.parameters.length)
    (hstack : g.stack = argsL.reverse ++ .ref b :: rest) (hW : 2 * g.monitorRoom + (rest.map fun v => v.category).sum ≤ W9) (hdg : decode c.code g.pc = .ok (.invokevirtual index, 3))
    (hpre : ∀ vm₁, s.WarmedH vm₁ → Pre ⟨T.setVm vm₁, locs, cells, slots⟩ (Value.ref b :: argsL).toArray) :
    ∃ (v : Option Value) (vm₁ : Vm) (B : Pt), s.WarmedH vm₁ ∧ Stand p l e R s m args below meth c B.U B.locs B.cells B.slots ∧ Post ⟨T.setVm vm₁, locs, cells, slots⟩ (Value.ref b :: argsL).toArray v B ∧
      ∀ target, Steps p.tables e below (B.U.setTop { g with pc := g.pc + 3, stack := v.toList ++ rest }) target → Steps p.tables e below (T.setTop g) target := by
  obtain ⟨mk, methM, hnamed, hmethM, hstM, habM⟩ := Cond.instanceMethod_spec hinst
  obtain ⟨m8, methM', cM, hn8, hmethM', -, -, -, -, -, -, hsigM⟩ := Cond.codeWith_spec hcode
  cases Option.some.inj (hn8.symm.trans hnamed)
  cases hmethM.symm.trans hmethM'
  obtain ⟨c2, r2, m2, q1, q2, q3, q4, kP, hkP, hkPi⟩ := Cond.selects_spec hsel
  cases hcls.symm.trans q1
  cases (State.methodFound?_of_named hnamed hy).symm.trans q2
  cases hnamed.symm.trans q3
  have hselP : selectMethod e.platform s.vm cellB.cls mk = .method mk := by rw [Launch.admits_selectMethod X.admits]; exact q4
  obtain ⟨vm₁, X₁, hstep₁⟩ := X.invokevirtual hexec hown hlink hnamed hmethM hstM hkP hkPi hy (a := b) (cell := cellB) hcell
    (fun z h => by rw [h] at hobj; cases hobj) hselP hmethM habM hkP hkPi (g := g) hg (argsL := argsL) (rest := rest) (hlen _ hsigM) hstack hdg
  obtain ⟨v, B, X', hpost, hsteps⟩ := hK m meth c ⟨T.setVm vm₁, locs, cells, slots⟩ { g with stack := rest } (.invokevirtual index) mk (Value.ref b :: argsL).toArray X₁ hg hsize hdg hW (X₁.named hnamed) (hpre vm₁ X₁.warmed)
  exact ⟨v, vm₁, B, X₁.warmed, X', hpost, fun target h => hstep₁ _ fun acts => by rw [doInvoke_state]; exact hsteps.trans h⟩
abbrev vx_CVW (R : Room) (s : State) (args : Array Value) (own C : String) (index : Nat) (y : MethodName) (bytes : ByteArray) (maxL : Nat) (ret : Option FieldType) (hh : List (Nat × Nat × Nat × Nat)) (ws : List Cond) (rm : Room) (mc ms n : Nat) : Prop :=
  (rm.cells = mc ∧ rm.slots = ms ∧ rm.frames + 1 ≤ R.frames ∧ 8 + (maxL + 11) + rm.locals ≤ R.locals ∧ (∀ w ∈ ws, ∀ (a' : Array Value) (U : State), s.WarmedH U.vm → w.before a' U = true) ∧ Cond.codeWith y bytes maxL ret hh ∈ ws) ∧
  (Cond.codeWith y bytes maxL ret hh).before args s = true ∧ (Cond.initialized y.cls).before args s = true ∧ (y.cls ≠ "java/lang/invoke/MethodHandle" ∧ y.cls ≠ "java/lang/invoke/VarHandle") ∧
  (∀ sig, parseMethodDescriptor y.desc = some sig → n = sig.parameters.length) ∧ (Cond.methodLink own index y).before args s = true ∧ (Cond.instanceMethod y).before args s = true ∧ (Cond.selects C y y).before args s = true
theorem vx_cwVW {own C : String} {index maxL mc ms : Nat} {y : MethodName} {bytes : ByteArray} {ret : Option FieldType} {hh : List (Nat × Nat × Nat × Nat)} {Ts ws ws' : List Cond} {rm : Room} (n : Nat) (ht : ∀ w ∈ Ts, w.before args s = true) (hT : GoodIn Ts (wsV own index C y ws)) (hw : ws = Cond.codeWith y bytes maxL ret hh :: ws') (hrc : rm.cells = mc) (hrs : rm.slots = ms)
    (hd : y.cls = C ∧ y.cls ≠ "java/lang/invoke/MethodHandle" ∧ y.cls ≠ "java/lang/invoke/VarHandle" ∧ (parseMethodDescriptor y.desc).map (fun d => d.parameters.length) = some n) (hR : rm.frames + 1 ≤ R.frames ∧ 8 + (maxL + 11) + rm.locals ≤ R.locals) :
    vx_CVW R s args own C index y bytes maxL ret hh ws rm mc ms n := by
  obtain ⟨hC, hd⟩ := hd
  subst hC
  have ok : ∀ w ∈ wsV own index y.cls y ws, w.before args s = true := fun w h => ht w (hT w h).1
  have hG : GoodIn Ts ws := fun w h => hT w (by unfold wsV; exact List.mem_append_right _ h)
  have hc : Cond.codeWith y bytes maxL ret hh ∈ ws := by rw [hw]; exact List.mem_cons_self
  refine ⟨⟨hrc, hrs, hR.1, hR.2, pay_in ht hG, hc⟩, ht _ (hG _ hc).1, ok _ (by simp [wsV]), ⟨hd.1, hd.2.1⟩, fun sig h => ?_, ok _ (by simp [wsV]), ok _ (by simp [wsV]), ok _ (by simp [wsV])⟩
  have h2 := hd.2.2
  rw [h] at h2
  exact (Option.some.inj h2).symm
theorem vx_runVW {y : MethodName} {bytes cc : ByteArray} {maxL nL mc ms n index : Nat} {ret : Option FieldType} {hh : List (Nat × Nat × Nat × Nat)} {ws : List Cond} {rm : Room} {Pc : Array Value → State → Prop} {Qc : Array Value → State → Outcome → State → Prop} {free : Addr → Prop} {Ts : List Cond} {own C : String} {b : Addr} {As rest : List Value} {g : JFrame}
    (S : CallFix p m c cc nL s args Ts own) (hM : Met l y ws rm Pc Qc mc ms free) (cw : vx_CVW R s args own C index y bytes maxL ret hh ws rm mc ms n) (hp : PreV s H C b Pc As)
    (hg : g.method = m) (hn : As.length = n) (hsize : g.locals.size = nL) (hstack : g.stack = As.reverse ++ .ref b :: rest) (hW : 2 * g.monitorRoom + (rest.map fun v => v.category).sum ≤ 8) (hdg : decode cc g.pc = .ok (.invokevirtual index, 3)) (hf : cells + mc ≤ R.cells ∧ slots + ms ≤ R.slots) :
    va_Run p l e R s m args below meth c H locs cells slots mc ms g rest (Qc (Value.ref b :: As).toArray) free := by
  obtain ⟨⟨hrc, hrs, hfr, hlo, hws, hcw⟩, hcode, hini, hy, hlen, hl, hin, hse⟩ := cw
  have hK : Back l R p e below s args y 3 8 (PreOf R mc ms Pc) (PostOf Qc mc ms free) := va_backW (hh := hh) (bytes := bytes) (maxL := maxL) (ret := ret) hM hp.1 hrc hrs hfr hlo hws hcw (fun a' U hW => word_at hW (Or.inl (by first | rfl | simp [Cond.onTables, Cond.keeps, Cond.steady])) hini)
  obtain ⟨hx, hb, hml, ho, -⟩ := S
  obtain ⟨-, ⟨cellB, hcB, hoB, hclB⟩, hPc⟩ := hp
  intro T hT X
  obtain ⟨v, vm₁, ⟨U', l2, c2, s2⟩, hW₁, X', ⟨g', mk, t, L, e1, e2, hq, h1, hL, h2, h3⟩, st⟩ := vx_callVW X hx (C := C) (hh := hh) (bytes := bytes) (maxL := maxL) (ret := ret) ho hl hin hse hcode hy hK (by rw [hT]; exact hcB) hoB hclB hg (hsize.trans hml.symm) (argsL := As) (rest := rest) (fun sig h => hn.trans (hlen sig h)) hstack hW (by rw [hb]; exact hdg)
    (fun vm₁ hW₁ => ⟨hf.1, hf.2, hPc (T.setVm vm₁) hT hW₁⟩)
  dsimp only [Pt.U, Pt.locs, Pt.cells, Pt.slots] at X' e1 e2 h1 h2 h3 st
  subst h1; subst h2; subst h3
  exact ⟨v, (T.setVm vm₁).calling g' mk (Value.ref b :: As).toArray, t, U', L, hT, X', hL, e1, e2, hq, st⟩
section
variable {y : MethodName} {bytes cc : ByteArray} {maxL nL mc ms n index : Nat} {ret : Option FieldType} {ws : List Cond} {rm : Room} {Pc : Array Value → State → Prop} {Qc : Array Value → State → Outcome → State → Prop} {XC : String → State → State → Prop} {free : Addr → Prop} {Ts : List Cond} {own C : String} {b : Addr} {As rest : List Value} {g : JFrame}
theorem vx_runVX {hh : List (Nat × Nat × Nat × Nat)} (S : CallFix p m c cc nL s args Ts own) (hM : vx_Met l y ws rm Pc Qc XC mc ms free) (cw : vx_CVW R s args own C index y bytes maxL ret hh ws rm mc ms n) (hp : PreV s H C b Pc As)
    (hg : g.method = m) (hn : As.length = n) (hsize : g.locals.size = nL) (hstack : g.stack = As.reverse ++ .ref b :: rest) (hW : 2 * g.monitorRoom + (rest.map fun v => v.category).sum ≤ 8) (hdg : decode cc g.pc = .ok (.invokevirtual index, 3)) (hf : cells + mc ≤ R.cells ∧ slots + ms ≤ R.slots) :
    vx_Run p l e R s m args below meth c H locs cells slots mc ms g rest (Qc (Value.ref b :: As).toArray) XC free := by
  obtain ⟨⟨hrc, hrs, hfr, hlo, hws, hcw⟩, hcode, hini, hy, hlen, hl, hin, hse⟩ := cw
  have hK : vx_Back l R p e below s args y 3 8 (PreOf R mc ms Pc) (PostOf Qc mc ms free) (vx_Post XC mc ms free) := vx_backW (hh := hh) (bytes := bytes) (maxL := maxL) (ret := ret) hM hp.1 hrc hrs hfr hlo hws hcw (fun a' U hW => word_at hW (Or.inl (by first | rfl | simp [Cond.onTables, Cond.keeps, Cond.steady])) hini)
  obtain ⟨hx, hb, hml, ho, -⟩ := S
  obtain ⟨-, ⟨cellB, hcB, hoB, hclB⟩, hPc⟩ := hp
  intro T hT X
  rcases vx_callVX X hx (C := C) (hh := hh) (bytes := bytes) (maxL := maxL) (ret := ret) ho hl hin hse hcode hy hK (by rw [hT]; exact hcB) hoB hclB hg (hsize.trans hml.symm) (argsL := As) (rest := rest) (fun sig h => hn.trans (hlen sig h)) hstack hW (by rw [hb]; exact hdg)
    (fun vm₁ hW₁ => ⟨hf.1, hf.2, hPc (T.setVm vm₁) hT hW₁⟩) with ⟨v, vm₁, ⟨U', l2, c2, s2⟩, hW₁, X', ⟨g', mk, t, L, e1, e2, hq, h1, hL, h2, h3⟩, st⟩ | ⟨q, vm₁, ⟨U', l2, c2, s2⟩, hW₁, X', ⟨g', mk, t, L, E, ce, e1, e2, hq, hce, hcv, hcl, h1, hL, h2, h3⟩, st⟩
  · dsimp only [Pt.U, Pt.locs, Pt.cells, Pt.slots] at X' e1 e2 h1 h2 h3 st
    subst h1; subst h2; subst h3
    exact Or.inl ⟨v, (T.setVm vm₁).calling g' mk (Value.ref b :: As).toArray, t, U', L, hT, X', hL, e1, e2, hq, st⟩
  · dsimp only [Pt.U, Pt.locs, Pt.cells, Pt.slots] at X' e1 e2 h1 h2 h3 st hcl
    subst h1; subst h2; subst h3
    exact Or.inr ⟨q, (T.setVm vm₁).calling g' mk (Value.ref b :: As).toArray, t, U', L, E, ce, hT, X', hL, e1, e2, hq, hce, hcv, vx_cls hW₁ hcl, st⟩
theorem vx_runSX {hh : List (Nat × Nat × Nat × Nat)} (S : CallFix p m c cc nL s args Ts own) (hM : vx_Met l y ws rm Pc Qc XC mc ms free) (cw : vx_CSW R s args own index y bytes maxL ret hh ws rm mc ms n) (hp : PreS s H Pc As)
    (hg : g.method = m) (hn : As.length = n) (hsize : g.locals.size = nL) (hstack : g.stack = As.reverse ++ rest) (hW : 2 * g.monitorRoom + (rest.map fun v => v.category).sum ≤ 8) (hdg : decode cc g.pc = .ok (.invokestatic index, 3)) (hf : cells + mc ≤ R.cells ∧ slots + ms ≤ R.slots) :
    vx_Run p l e R s m args below meth c H locs cells slots mc ms g rest (Qc As.toArray) XC free := by
  obtain ⟨⟨hrc, hrs, hfr, hlo, hws, hcw⟩, hcode, hini, hy, hlen, hl, hstt⟩ := cw
  have hK : vx_Back l R p e below s args y 3 8 (PreOf R mc ms Pc) (PostOf Qc mc ms free) (vx_Post XC mc ms free) := vx_backW (hh := hh) (bytes := bytes) (maxL := maxL) (ret := ret) hM hp.1 hrc hrs hfr hlo hws hcw (fun a' U hW => word_at hW (Or.inl (by first | rfl | simp [Cond.onTables, Cond.keeps, Cond.steady])) hini)
  obtain ⟨hx, hb, hml, ho, -⟩ := S
  intro T hT X
  rcases vx_callSX X hx (hh := hh) (bytes := bytes) (maxL := maxL) (ret := ret) ho hl hstt hini hcode hy hK hg (hsize.trans hml.symm) (argsL := As) (rest := rest) (fun sig h => hn.trans (hlen sig h)) hstack hW (by rw [hb]; exact hdg)
    (fun vm₁ hW₁ => ⟨hf.1, hf.2, hp.2 (T.setVm vm₁) hT hW₁⟩) with ⟨v, vm₁, ⟨U', l2, c2, s2⟩, hW₁, X', ⟨g', mk, t, L, e1, e2, hq, h1, hL, h2, h3⟩, st⟩ | ⟨q, vm₁, ⟨U', l2, c2, s2⟩, hW₁, X', ⟨g', mk, t, L, E, ce, e1, e2, hq, hce, hcv, hcl, h1, hL, h2, h3⟩, st⟩
  · dsimp only [Pt.U, Pt.locs, Pt.cells, Pt.slots] at X' e1 e2 h1 h2 h3 st
    subst h1; subst h2; subst h3
    exact Or.inl ⟨v, (T.setVm vm₁).calling g' mk As.toArray, t, U', L, hT, X', hL, e1, e2, hq, st⟩
  · dsimp only [Pt.U, Pt.locs, Pt.cells, Pt.slots] at X' e1 e2 h1 h2 h3 st hcl
    subst h1; subst h2; subst h3
    exact Or.inr ⟨q, (T.setVm vm₁).calling g' mk As.toArray, t, U', L, E, ce, hT, X', hL, e1, e2, hq, hce, hcv, vx_cls hW₁ hcl, st⟩
end
end VXH
theorem vx_ofWH {l : Launch} {y : MethodName} {ws ws' : List Cond} {rm : Room} {Pc : Array Value → State → Prop} {Qc : Array Value → State → Outcome → State → Prop} {XC : String → State → State → Prop} {mc ms : Nat} {free : Addr → Prop} {cc : ByteArray} {maxL : Nat} {ret : Option FieldType} {hh : List (Nat × Nat × Nat × Nat)}
    (hy : plainName y.cls = true) (hw : ws = Cond.codeWith y cc maxL ret hh :: ws')
    (body : ∀ p e s m args below meth c s₁, BodyLoose p l y (headSpec ws rm) cc maxL ret e s m args below meth c s₁ → c.maxLocals = maxL → Pc args s →
      W p l e (headSpec ws rm).room s m args below meth c s.heap [] 0 0 (vx_MQ below Qc XC args s mc ms free) (entryFrame m args maxL)) : vx_Met l y ws rm Pc Qc XC mc ms free := by
  refine MetFree.of_bodyS (code := cc) (maxLocals := maxL) (ret := ret) hy ?_ ?_
  · intro args s m h hn
    obtain ⟨m9, meth, c, hn9, h1, h2, h3, h4, -, h5, h6, -⟩ := Cond.codeWith_spec (atoms_spec (ws := ws) h _ (by rw [hw]; exact List.mem_cons_self))
    cases hn.symm.trans hn9
    exact ⟨meth, c, h1, h2, h3, h4, h5, h6⟩
  · intro p e s m args below meth c s₁ B hml hP _
    have hh0 : s₁.heap = s.heap := by rw [B.state]; rfl
    obtain ⟨t, a1, o, b1, b2, b3⟩ := body p e s m args below meth c s₁ B hml hP s₁ hh0 (Stand.of_body B)
    exact ⟨t, o, a1, b1, b2, b3⟩
/-! ===== END ===== -/
end
section
-- names: classes, fields, methods, the tables' words, decoded instructions (written by wip/whole/gen)
def R_D : String := "DiagramBench"
def F_D : u_T := fun k => match k with
  | 0 => ("DiagramBench", "held", "[[J", true)
  | 1 => ("DiagramBench", "work", "[J", true)
  | 2 => ("DiagramBench", "spare", "[J", true)
  | _ => ("DiagramBench", "diagram", "LDiagramBench$Diagram;", true)
def t_D : Nat → FieldType := fun k => match k with
  | 0 => .array (.array .long)
  | 1 => .array .long
  | 2 => .array .long
  | _ => .object "DiagramBench$Diagram"
theorem n_D : ∀ a, a < 4 → ∀ b, b < 4 → a ≠ b → (F_D a).2.1 ≠ (F_D b).2.1 := by decide +kernel
theorem t_D_ok : ∀ k, k < 4 → parseFieldDescriptor (F_D k).2.2.1 = some (t_D k) := by decide +kernel
def R_G : String := "DiagramBench$Diagram"
def F_G : u_T := fun k => match k with
  | 0 => ("DiagramBench$Diagram", "keys", "[I", true)
  | 1 => ("DiagramBench$Diagram", "names", "[I", true)
  | _ => ("DiagramBench$Diagram", "nodeCount", "I", false)
def t_G : Nat → FieldType := fun k => match k with
  | 0 => .array .int
  | 1 => .array .int
  | _ => .int
theorem n_G : ∀ a, a < 3 → ∀ b, b < 3 → a ≠ b → (F_G a).2.1 ≠ (F_G b).2.1 := by decide +kernel
theorem t_G_ok : ∀ k, k < 3 → parseFieldDescriptor (F_G k).2.2.1 = some (t_G k) := by decide +kernel
def R_M : String := "DiagramBenchModel"
def F_M : u_T := fun k => match k with
  | 0 => ("DiagramBenchModel", "thrown", "I", false)
  | 1 => ("DiagramBenchModel", "register", "[[Z", true)
  | 2 => ("DiagramBenchModel", "work", "[Z", true)
  | 3 => ("DiagramBenchModel", "foundIn", "[I", true)
  | _ => ("DiagramBenchModel", "foundAt", "[I", true)
def t_M : Nat → FieldType := fun k => match k with
  | 0 => .int
  | 1 => .array (.array .boolean)
  | 2 => .array .boolean
  | 3 => .array .int
  | _ => .array .int
theorem n_M : ∀ a, a < 5 → ∀ b, b < 5 → a ≠ b → (F_M a).2.1 ≠ (F_M b).2.1 := by decide +kernel
theorem t_M_ok : ∀ k, k < 5 → parseFieldDescriptor (F_M k).2.2.1 = some (t_M k) := by decide +kernel
abbrev cls : List vw_C := [(R_D, F_D, 4), (R_G, F_G, 3), (R_M, F_M, 5)]
theorem w_0 : (Jvm.Cond.initialized "DiagramBenchLaw") ∈ TT := TT_of 0 (by decide +kernel) rfl
theorem w_1 : (Jvm.Cond.initialized "DiagramBench") ∈ TT := TT_of 1 (by decide +kernel) rfl
theorem w_2 : (Jvm.Cond.initialized "DiagramBench$Diagram") ∈ TT := TT_of 2 (by decide +kernel) rfl
theorem w_3 : (Jvm.Cond.initialized "DiagramBenchModel") ∈ TT := TT_of 3 (by decide +kernel) rfl
theorem w_4 : (Jvm.Cond.initialized "java/lang/Throwable") ∈ TT := TT_of 4 (by decide +kernel) rfl
theorem w_5 : (Jvm.Cond.initialized "java/lang/Exception") ∈ TT := TT_of 5 (by decide +kernel) rfl
theorem w_6 : (Jvm.Cond.initialized "java/lang/RuntimeException") ∈ TT := TT_of 6 (by decide +kernel) rfl
theorem w_7 : (Jvm.Cond.initialized "java/lang/IllegalArgumentException") ∈ TT := TT_of 7 (by decide +kernel) rfl
theorem w_8 : (Jvm.Cond.initialized "java/util/Arrays") ∈ TT := TT_of 8 (by decide +kernel) rfl
theorem w_9 : (Jvm.Cond.initialized "java/lang/System") ∈ TT := TT_of 9 (by decide +kernel) rfl
theorem w_10 : (Jvm.Cond.initialized "java/lang/Long") ∈ TT := TT_of 10 (by decide +kernel) rfl
theorem w_11 : (Jvm.Cond.initialized "java/util/NoSuchElementException") ∈ TT := TT_of 11 (by decide +kernel) rfl
theorem w_12 : (Jvm.Cond.initialized "java/lang/Math") ∈ TT := TT_of 12 (by decide +kernel) rfl
theorem w_13 : (Jvm.Cond.classLink "DiagramBenchLaw" 8 "DiagramBench") ∈ TT := TT_of 13 (by decide +kernel) rfl
theorem w_14 : (Jvm.Cond.instantiable "DiagramBench" 4) ∈ TT := TT_of 14 (by decide +kernel) rfl
theorem w_15 : (Jvm.Cond.methodLink "DiagramBenchLaw" 64 (⟨"DiagramBench", "<init>", "()V"⟩ : MethodName)) ∈ TT := TT_of 15 (by decide +kernel) rfl
theorem w_16 : (Jvm.Cond.instanceMethod (⟨"DiagramBench", "<init>", "()V"⟩ : MethodName)) ∈ TT := TT_of 16 (by decide +kernel) rfl
theorem w_17 : (Jvm.Cond.code (⟨"DiagramBench", "<init>", "()V"⟩ : MethodName) prog_1_method_1_code 1 (Option.none : Option Jvm.ClassFile.FieldType)) ∈ TT := TT_of 17 rfl rfl
theorem w_18 : (Jvm.Cond.methodLink "DiagramBench" 3 (⟨"java/lang/Object", "<init>", "()V"⟩ : MethodName)) ∈ TT := TT_of 18 (by decide +kernel) rfl
theorem w_19 : (Jvm.Cond.instanceMethod (⟨"java/lang/Object", "<init>", "()V"⟩ : MethodName)) ∈ TT := TT_of 19 (by decide +kernel) rfl
theorem w_20 : (Jvm.Cond.code (⟨"java/lang/Object", "<init>", "()V"⟩ : MethodName) object_method_1_code 1 (Option.none : Option Jvm.ClassFile.FieldType)) ∈ TT := TT_of 20 rfl rfl
theorem w_21 : (Jvm.Cond.classLink "DiagramBench" 9 "[[J") ∈ TT := TT_of 21 (by decide +kernel) rfl
theorem w_23 : (Jvm.Cond.classLink "DiagramBench" 21 "DiagramBench$Diagram") ∈ TT := TT_of 23 (by decide +kernel) rfl
theorem w_24 : (Jvm.Cond.instantiable "DiagramBench$Diagram" 3) ∈ TT := TT_of 24 (by decide +kernel) rfl
theorem w_26 : (Jvm.Cond.instanceMethod (⟨"DiagramBench$Diagram", "<init>", "()V"⟩ : MethodName)) ∈ TT := TT_of 26 (by decide +kernel) rfl
theorem w_27 : (Jvm.Cond.code (⟨"DiagramBench$Diagram", "<init>", "()V"⟩ : MethodName) prog_2_method_1_code 1 (Option.none : Option Jvm.ClassFile.FieldType)) ∈ TT := TT_of 27 rfl rfl
theorem w_28 : (Jvm.Cond.methodLink "DiagramBench$Diagram" 5 (⟨"java/lang/Object", "<init>", "()V"⟩ : MethodName)) ∈ TT := TT_of 28 (by decide +kernel) rfl
theorem w_29 : (Jvm.Cond.fieldLink "DiagramBench$Diagram" 11 "DiagramBench$Diagram" "keys" "[I") ∈ TT := TT_of 29 (by decide +kernel) rfl
theorem w_30 : (Jvm.Cond.fieldLink "DiagramBench$Diagram" 15 "DiagramBench$Diagram" "names" "[I") ∈ TT := TT_of 30 (by decide +kernel) rfl
theorem w_31 : (Jvm.Cond.fieldLink "DiagramBench$Diagram" 18 "DiagramBench$Diagram" "nodeCount" "I") ∈ TT := TT_of 31 (by decide +kernel) rfl
theorem w_33 : (Jvm.Cond.laysFinal "DiagramBench$Diagram" "DiagramBench$Diagram" "keys" "[I") ∈ TT := TT_of 33 (by decide +kernel) rfl
theorem w_34 : (Jvm.Cond.soleField "DiagramBench$Diagram" "keys") ∈ TT := TT_of 34 (by decide +kernel) rfl
theorem w_35 : (Jvm.Cond.laysFinal "DiagramBench$Diagram" "DiagramBench$Diagram" "names" "[I") ∈ TT := TT_of 35 (by decide +kernel) rfl
theorem w_36 : (Jvm.Cond.soleField "DiagramBench$Diagram" "names") ∈ TT := TT_of 36 (by decide +kernel) rfl
theorem w_37 : (Jvm.Cond.lays "DiagramBench$Diagram" "DiagramBench$Diagram" "nodeCount" "I") ∈ TT := TT_of 37 (by decide +kernel) rfl
theorem w_38 : (Jvm.Cond.soleField "DiagramBench$Diagram" "nodeCount") ∈ TT := TT_of 38 (by decide +kernel) rfl
theorem w_39 : (Jvm.Cond.superclass "DiagramBench$Diagram" "java/lang/Object") ∈ TT := TT_of 39 (by decide +kernel) rfl
theorem w_40 : (Jvm.Cond.arrayClass Jvm.ClassFile.FieldType.long) ∈ TT := TT_of 40 (by decide +kernel) rfl
theorem w_41 : (Jvm.Cond.arrayClass Jvm.ClassFile.FieldType.int) ∈ TT := TT_of 41 (by decide +kernel) rfl
theorem w_42 : (Jvm.Cond.fieldLink "DiagramBench" 11 "DiagramBench" "held" "[[J") ∈ TT := TT_of 42 (by decide +kernel) rfl
theorem w_43 : (Jvm.Cond.fieldLink "DiagramBench" 14 "DiagramBench" "work" "[J") ∈ TT := TT_of 43 (by decide +kernel) rfl
theorem w_44 : (Jvm.Cond.fieldLink "DiagramBench" 18 "DiagramBench" "spare" "[J") ∈ TT := TT_of 44 (by decide +kernel) rfl
theorem w_45 : (Jvm.Cond.fieldLink "DiagramBench" 24 "DiagramBench" "diagram" "LDiagramBench$Diagram;") ∈ TT := TT_of 45 (by decide +kernel) rfl
theorem w_46 : (Jvm.Cond.laysFinal "DiagramBench" "DiagramBench" "held" "[[J") ∈ TT := TT_of 46 (by decide +kernel) rfl
theorem w_47 : (Jvm.Cond.soleField "DiagramBench" "held") ∈ TT := TT_of 47 (by decide +kernel) rfl
theorem w_48 : (Jvm.Cond.laysFinal "DiagramBench" "DiagramBench" "work" "[J") ∈ TT := TT_of 48 (by decide +kernel) rfl
theorem w_49 : (Jvm.Cond.soleField "DiagramBench" "work") ∈ TT := TT_of 49 (by decide +kernel) rfl
theorem w_50 : (Jvm.Cond.laysFinal "DiagramBench" "DiagramBench" "spare" "[J") ∈ TT := TT_of 50 (by decide +kernel) rfl
theorem w_51 : (Jvm.Cond.soleField "DiagramBench" "spare") ∈ TT := TT_of 51 (by decide +kernel) rfl
theorem w_52 : (Jvm.Cond.laysFinal "DiagramBench" "DiagramBench" "diagram" "LDiagramBench$Diagram;") ∈ TT := TT_of 52 (by decide +kernel) rfl
theorem w_53 : (Jvm.Cond.soleField "DiagramBench" "diagram") ∈ TT := TT_of 53 (by decide +kernel) rfl
theorem w_54 : (Jvm.Cond.superclass "DiagramBench" "java/lang/Object") ∈ TT := TT_of 54 (by decide +kernel) rfl
theorem w_55 : (Jvm.Cond.methodLink "DiagramBenchLaw" 68 (⟨"DiagramBenchLaw", "variable", "(LDiagramBench;II)I"⟩ : MethodName)) ∈ TT := TT_of 55 (by decide +kernel) rfl
theorem w_56 : (Jvm.Cond.static (⟨"DiagramBenchLaw", "variable", "(LDiagramBench;II)I"⟩ : MethodName)) ∈ TT := TT_of 56 (by decide +kernel) rfl
theorem w_57 : (Jvm.Cond.codeWith (⟨"DiagramBenchLaw", "variable", "(LDiagramBench;II)I"⟩ : MethodName) method_3_code 4 (Option.some Jvm.ClassFile.FieldType.int) [(0, 6, 9, 13)]) ∈ TT := TT_of 57 rfl rfl
theorem w_58 : (Jvm.Cond.classLink "DiagramBenchLaw" 13 "java/lang/IllegalArgumentException") ∈ TT := TT_of 58 (by decide +kernel) rfl
theorem w_59 : (Jvm.Cond.methodLink "DiagramBenchLaw" 7 (⟨"DiagramBench", "variable", "(II)V"⟩ : MethodName)) ∈ TT := TT_of 59 (by decide +kernel) rfl
theorem w_60 : (Jvm.Cond.instanceMethod (⟨"DiagramBench", "variable", "(II)V"⟩ : MethodName)) ∈ TT := TT_of 60 (by decide +kernel) rfl
theorem w_61 : (Jvm.Cond.selects "DiagramBench" (⟨"DiagramBench", "variable", "(II)V"⟩ : MethodName) (⟨"DiagramBench", "variable", "(II)V"⟩ : MethodName)) ∈ TT := TT_of 61 (by decide +kernel) rfl
theorem w_62 : (Jvm.Cond.code (⟨"DiagramBench", "variable", "(II)V"⟩ : MethodName) prog_1_method_2_code 4 (Option.none : Option Jvm.ClassFile.FieldType)) ∈ TT := TT_of 62 rfl rfl
theorem w_63 : (Jvm.Cond.methodLink "DiagramBench" 28 (⟨"DiagramBench", "checkRegister", "(I)V"⟩ : MethodName)) ∈ TT := TT_of 63 (by decide +kernel) rfl
theorem w_64 : (Jvm.Cond.static (⟨"DiagramBench", "checkRegister", "(I)V"⟩ : MethodName)) ∈ TT := TT_of 64 (by decide +kernel) rfl
theorem w_65 : (Jvm.Cond.code (⟨"DiagramBench", "checkRegister", "(I)V"⟩ : MethodName) prog_1_method_17_code 1 (Option.none : Option Jvm.ClassFile.FieldType)) ∈ TT := TT_of 65 rfl rfl
theorem w_66 : (Jvm.Cond.classLink "DiagramBench" 121 "java/lang/IllegalArgumentException") ∈ TT := TT_of 66 (by decide +kernel) rfl
theorem w_67 : (Jvm.Cond.instantiable "java/lang/IllegalArgumentException" 6) ∈ TT := TT_of 67 (by decide +kernel) rfl
theorem w_75 : (Jvm.Cond.selects "java/lang/IllegalArgumentException" (⟨"java/lang/Throwable", "fillInStackTrace", "(I)Ljava/lang/Throwable;"⟩ : MethodName) (⟨"java/lang/Throwable", "fillInStackTrace", "(I)Ljava/lang/Throwable;"⟩ : MethodName)) ∈ TT := TT_of 75 (by decide +kernel) rfl
theorem w_76 : (Jvm.Cond.selects "java/lang/IllegalArgumentException" (⟨"java/lang/Throwable", "fillInStackTrace", "()Ljava/lang/Throwable;"⟩ : MethodName) (⟨"java/lang/Throwable", "fillInStackTrace", "()Ljava/lang/Throwable;"⟩ : MethodName)) ∈ TT := TT_of 76 (by decide +kernel) rfl
theorem w_77 : (Jvm.Cond.lays "java/lang/IllegalArgumentException" "java/lang/Throwable" "cause" "Ljava/lang/Throwable;") ∈ TT := TT_of 77 (by decide +kernel) rfl
theorem w_78 : (Jvm.Cond.lays "java/lang/Throwable" "java/lang/Throwable" "cause" "Ljava/lang/Throwable;") ∈ TT := TT_of 78 (by decide +kernel) rfl
theorem w_79 : (Jvm.Cond.lays "java/lang/IllegalArgumentException" "java/lang/Throwable" "stackTrace" "[Ljava/lang/StackTraceElement;") ∈ TT := TT_of 79 (by decide +kernel) rfl
theorem w_80 : (Jvm.Cond.lays "java/lang/Throwable" "java/lang/Throwable" "stackTrace" "[Ljava/lang/StackTraceElement;") ∈ TT := TT_of 80 (by decide +kernel) rfl
theorem w_81 : (Jvm.Cond.lays "java/lang/IllegalArgumentException" "java/lang/Throwable" "suppressedExceptions" "Ljava/util/List;") ∈ TT := TT_of 81 (by decide +kernel) rfl
theorem w_82 : (Jvm.Cond.lays "java/lang/Throwable" "java/lang/Throwable" "suppressedExceptions" "Ljava/util/List;") ∈ TT := TT_of 82 (by decide +kernel) rfl
theorem w_83 : (Jvm.Cond.lays "java/lang/IllegalArgumentException" "java/lang/Throwable" "detailMessage" "Ljava/lang/String;") ∈ TT := TT_of 83 (by decide +kernel) rfl
theorem w_84 : (Jvm.Cond.lays "java/lang/Throwable" "java/lang/Throwable" "detailMessage" "Ljava/lang/String;") ∈ TT := TT_of 84 (by decide +kernel) rfl
theorem w_85 : (Jvm.Cond.lays "java/lang/IllegalArgumentException" "java/lang/Throwable" "backtrace" "Ljava/lang/Object;") ∈ TT := TT_of 85 (by decide +kernel) rfl
theorem w_86 : (Jvm.Cond.lays "java/lang/Throwable" "java/lang/Throwable" "backtrace" "Ljava/lang/Object;") ∈ TT := TT_of 86 (by decide +kernel) rfl
theorem w_87 : (Jvm.Cond.fieldLink "java/lang/Throwable" 198 "java/lang/Throwable" "backtrace" "Ljava/lang/Object;") ∈ TT := TT_of 87 (by decide +kernel) rfl
theorem w_88 : (Jvm.Cond.superclass "java/lang/Throwable" "java/lang/Object") ∈ TT := TT_of 88 (by decide +kernel) rfl
theorem w_89 : (Jvm.Cond.instanceMethod (⟨"java/lang/Throwable", "<init>", "()V"⟩ : MethodName)) ∈ TT := TT_of 89 (by decide +kernel) rfl
theorem w_90 : (Jvm.Cond.code (⟨"java/lang/Throwable", "<init>", "()V"⟩ : MethodName) prog_12_method_1_code 1 (Option.none : Option Jvm.ClassFile.FieldType)) ∈ TT := TT_of 90 rfl rfl
theorem w_91 : (Jvm.Cond.methodLink "java/lang/Throwable" 1 (⟨"java/lang/Object", "<init>", "()V"⟩ : MethodName)) ∈ TT := TT_of 91 (by decide +kernel) rfl
theorem w_92 : (Jvm.Cond.fieldLink "java/lang/Throwable" 13 "java/lang/Throwable" "UNASSIGNED_STACK" "[Ljava/lang/StackTraceElement;") ∈ TT := TT_of 92 (by decide +kernel) rfl
theorem w_94 : (Jvm.Cond.fieldLink "java/lang/Throwable" 20 "java/lang/Throwable" "SUPPRESSED_SENTINEL" "Ljava/util/List;") ∈ TT := TT_of 94 (by decide +kernel) rfl
theorem w_96 : (Jvm.Cond.methodLink "java/lang/Throwable" 27 (⟨"java/lang/Throwable", "fillInStackTrace", "()Ljava/lang/Throwable;"⟩ : MethodName)) ∈ TT := TT_of 96 (by decide +kernel) rfl
theorem w_97 : (Jvm.Cond.instanceMethod (⟨"java/lang/Throwable", "fillInStackTrace", "()Ljava/lang/Throwable;"⟩ : MethodName)) ∈ TT := TT_of 97 (by decide +kernel) rfl
theorem w_98 : (Jvm.Cond.sameMethod "java/lang/Throwable" "java/lang/Throwable" "fillInStackTrace" "()Ljava/lang/Throwable;") ∈ TT := TT_of 98 (by decide +kernel) rfl
theorem w_99 : (Jvm.Cond.selects "java/util/NoSuchElementException" (⟨"java/lang/Throwable", "fillInStackTrace", "()Ljava/lang/Throwable;"⟩ : MethodName) (⟨"java/lang/Throwable", "fillInStackTrace", "()Ljava/lang/Throwable;"⟩ : MethodName)) ∈ TT := TT_of 99 (by decide +kernel) rfl
theorem w_100 : (Jvm.Cond.codeSync (⟨"java/lang/Throwable", "fillInStackTrace", "()Ljava/lang/Throwable;"⟩ : MethodName) prog_12_method_18_code 1 (Option.some (Jvm.ClassFile.FieldType.object "java/lang/Throwable"))) ∈ TT := TT_of 100 rfl rfl
theorem w_101 : (Jvm.Cond.methodLink "java/lang/Throwable" 202 (⟨"java/lang/Throwable", "fillInStackTrace", "(I)Ljava/lang/Throwable;"⟩ : MethodName)) ∈ TT := TT_of 101 (by decide +kernel) rfl
theorem w_103 : (Jvm.Cond.instanceMethod (⟨"java/lang/Throwable", "fillInStackTrace", "(I)Ljava/lang/Throwable;"⟩ : MethodName)) ∈ TT := TT_of 103 (by decide +kernel) rfl
theorem w_104 : (Jvm.Cond.instantiable "java/lang/Throwable" 6) ∈ TT := TT_of 104 (by decide +kernel) rfl
theorem w_105 : (Jvm.Cond.native (⟨"java/lang/Throwable", "fillInStackTrace", "(I)Ljava/lang/Throwable;"⟩ : MethodName)) ∈ TT := TT_of 105 (by decide +kernel) rfl
theorem w_107 : (Jvm.Cond.methodLink "DiagramBench" 125 (⟨"java/lang/IllegalArgumentException", "<init>", "(Ljava/lang/String;)V"⟩ : MethodName)) ∈ TT := TT_of 107 (by decide +kernel) rfl
theorem w_108 : (Jvm.Cond.instanceMethod (⟨"java/lang/IllegalArgumentException", "<init>", "(Ljava/lang/String;)V"⟩ : MethodName)) ∈ TT := TT_of 108 (by decide +kernel) rfl
theorem w_109 : (Jvm.Cond.code (⟨"java/lang/IllegalArgumentException", "<init>", "(Ljava/lang/String;)V"⟩ : MethodName) prog_6_method_2_code 2 (Option.none : Option Jvm.ClassFile.FieldType)) ∈ TT := TT_of 109 rfl rfl
theorem w_110 : (Jvm.Cond.methodLink "java/lang/IllegalArgumentException" 7 (⟨"java/lang/RuntimeException", "<init>", "(Ljava/lang/String;)V"⟩ : MethodName)) ∈ TT := TT_of 110 (by decide +kernel) rfl
theorem w_111 : (Jvm.Cond.instanceMethod (⟨"java/lang/RuntimeException", "<init>", "(Ljava/lang/String;)V"⟩ : MethodName)) ∈ TT := TT_of 111 (by decide +kernel) rfl
theorem w_112 : (Jvm.Cond.code (⟨"java/lang/RuntimeException", "<init>", "(Ljava/lang/String;)V"⟩ : MethodName) prog_9_method_2_code 2 (Option.none : Option Jvm.ClassFile.FieldType)) ∈ TT := TT_of 112 rfl rfl
theorem w_113 : (Jvm.Cond.methodLink "java/lang/RuntimeException" 7 (⟨"java/lang/Exception", "<init>", "(Ljava/lang/String;)V"⟩ : MethodName)) ∈ TT := TT_of 113 (by decide +kernel) rfl
theorem w_114 : (Jvm.Cond.instanceMethod (⟨"java/lang/Exception", "<init>", "(Ljava/lang/String;)V"⟩ : MethodName)) ∈ TT := TT_of 114 (by decide +kernel) rfl
theorem w_115 : (Jvm.Cond.code (⟨"java/lang/Exception", "<init>", "(Ljava/lang/String;)V"⟩ : MethodName) prog_5_method_2_code 2 (Option.none : Option Jvm.ClassFile.FieldType)) ∈ TT := TT_of 115 rfl rfl
theorem w_116 : (Jvm.Cond.methodLink "java/lang/Exception" 7 (⟨"java/lang/Throwable", "<init>", "(Ljava/lang/String;)V"⟩ : MethodName)) ∈ TT := TT_of 116 (by decide +kernel) rfl
theorem w_117 : (Jvm.Cond.instanceMethod (⟨"java/lang/Throwable", "<init>", "(Ljava/lang/String;)V"⟩ : MethodName)) ∈ TT := TT_of 117 (by decide +kernel) rfl
theorem w_118 : (Jvm.Cond.code (⟨"java/lang/Throwable", "<init>", "(Ljava/lang/String;)V"⟩ : MethodName) prog_12_method_2_code 2 (Option.none : Option Jvm.ClassFile.FieldType)) ∈ TT := TT_of 118 rfl rfl
theorem w_119 : (Jvm.Cond.fieldLink "java/lang/Throwable" 198 "java/lang/Throwable" "backtrace" "Ljava/lang/Object;") ∈ TT := TT_of 119 (by decide +kernel) rfl
theorem w_120 : (Jvm.Cond.fieldLink "java/lang/Throwable" 31 "java/lang/Throwable" "detailMessage" "Ljava/lang/String;") ∈ TT := TT_of 120 (by decide +kernel) rfl
theorem w_121 : (Jvm.Cond.fieldLink "java/lang/Throwable" 7 "java/lang/Throwable" "cause" "Ljava/lang/Throwable;") ∈ TT := TT_of 121 (by decide +kernel) rfl
theorem w_122 : (Jvm.Cond.fieldLink "java/lang/Throwable" 17 "java/lang/Throwable" "stackTrace" "[Ljava/lang/StackTraceElement;") ∈ TT := TT_of 122 (by decide +kernel) rfl
theorem w_123 : (Jvm.Cond.fieldLink "java/lang/Throwable" 24 "java/lang/Throwable" "suppressedExceptions" "Ljava/util/List;") ∈ TT := TT_of 123 (by decide +kernel) rfl
theorem w_124 : (Jvm.Cond.soleField "java/lang/Throwable" "backtrace") ∈ TT := TT_of 124 (by decide +kernel) rfl
theorem w_125 : (Jvm.Cond.soleField "java/lang/Throwable" "detailMessage") ∈ TT := TT_of 125 (by decide +kernel) rfl
theorem w_126 : (Jvm.Cond.soleField "java/lang/Throwable" "cause") ∈ TT := TT_of 126 (by decide +kernel) rfl
theorem w_127 : (Jvm.Cond.soleField "java/lang/Throwable" "stackTrace") ∈ TT := TT_of 127 (by decide +kernel) rfl
theorem w_128 : (Jvm.Cond.lays "java/lang/IllegalArgumentException" "java/lang/Throwable" "depth" "I") ∈ TT := TT_of 128 (by decide +kernel) rfl
theorem w_129 : (Jvm.Cond.soleField "java/lang/Throwable" "depth") ∈ TT := TT_of 129 (by decide +kernel) rfl
theorem w_130 : (Jvm.Cond.soleField "java/lang/Throwable" "suppressedExceptions") ∈ TT := TT_of 130 (by decide +kernel) rfl
theorem w_131 : (Jvm.Cond.superclass "java/lang/IllegalArgumentException" "java/lang/RuntimeException") ∈ TT := TT_of 131 (by decide +kernel) rfl
theorem w_132 : (Jvm.Cond.arrayClass Jvm.ClassFile.FieldType.byte) ∈ TT := TT_of 132 (by decide +kernel) rfl
theorem w_133 : (Jvm.Cond.methodLink "DiagramBench" 32 (⟨"DiagramBench", "checkVariable", "(I)V"⟩ : MethodName)) ∈ TT := TT_of 133 (by decide +kernel) rfl
theorem w_134 : (Jvm.Cond.static (⟨"DiagramBench", "checkVariable", "(I)V"⟩ : MethodName)) ∈ TT := TT_of 134 (by decide +kernel) rfl
theorem w_135 : (Jvm.Cond.code (⟨"DiagramBench", "checkVariable", "(I)V"⟩ : MethodName) prog_1_method_18_code 1 (Option.none : Option Jvm.ClassFile.FieldType)) ∈ TT := TT_of 135 rfl rfl
theorem w_137 : (Jvm.Cond.methodLink "DiagramBench" 35 (⟨"DiagramBench", "variableWord", "(II)J"⟩ : MethodName)) ∈ TT := TT_of 137 (by decide +kernel) rfl
theorem w_138 : (Jvm.Cond.static (⟨"DiagramBench", "variableWord", "(II)J"⟩ : MethodName)) ∈ TT := TT_of 138 (by decide +kernel) rfl
theorem w_139 : (Jvm.Cond.code (⟨"DiagramBench", "variableWord", "(II)J"⟩ : MethodName) prog_1_method_26_code 2 (Option.some Jvm.ClassFile.FieldType.long)) ∈ TT := TT_of 139 rfl rfl
theorem w_140 : (Jvm.Cond.fieldLink "DiagramBench" 138 "DiagramBench" "TRUE_PLACES" "[J") ∈ TT := TT_of 140 (by decide +kernel) rfl
theorem w_142 : (Jvm.Cond.methodLink "DiagramBench" 76 (⟨"DiagramBench", "isIn", "(II)Z"⟩ : MethodName)) ∈ TT := TT_of 142 (by decide +kernel) rfl
theorem w_143 : (Jvm.Cond.static (⟨"DiagramBench", "isIn", "(II)Z"⟩ : MethodName)) ∈ TT := TT_of 143 (by decide +kernel) rfl
theorem w_144 : (Jvm.Cond.code (⟨"DiagramBench", "isIn", "(II)Z"⟩ : MethodName) prog_1_method_22_code 2 (Option.some Jvm.ClassFile.FieldType.boolean)) ∈ TT := TT_of 144 rfl rfl
theorem w_145 : (Jvm.Cond.constantLong "DiagramBench" 136 (-1 : Int64)) ∈ TT := TT_of 145 (by decide +kernel) rfl
theorem w_146 : (Jvm.Cond.methodLink "DiagramBenchLaw" 78 (⟨"DiagramBenchLaw", "only", "(LDiagramBench;II)I"⟩ : MethodName)) ∈ TT := TT_of 146 (by decide +kernel) rfl
theorem w_147 : (Jvm.Cond.static (⟨"DiagramBenchLaw", "only", "(LDiagramBench;II)I"⟩ : MethodName)) ∈ TT := TT_of 147 (by decide +kernel) rfl
theorem w_148 : (Jvm.Cond.codeWith (⟨"DiagramBenchLaw", "only", "(LDiagramBench;II)I"⟩ : MethodName) method_4_code 4 (Option.some Jvm.ClassFile.FieldType.int) [(0, 6, 9, 13)]) ∈ TT := TT_of 148 rfl rfl
theorem w_149 : (Jvm.Cond.methodLink "DiagramBenchLaw" 15 (⟨"DiagramBench", "only", "(II)V"⟩ : MethodName)) ∈ TT := TT_of 149 (by decide +kernel) rfl
theorem w_150 : (Jvm.Cond.instanceMethod (⟨"DiagramBench", "only", "(II)V"⟩ : MethodName)) ∈ TT := TT_of 150 (by decide +kernel) rfl
theorem w_151 : (Jvm.Cond.selects "DiagramBench" (⟨"DiagramBench", "only", "(II)V"⟩ : MethodName) (⟨"DiagramBench", "only", "(II)V"⟩ : MethodName)) ∈ TT := TT_of 151 (by decide +kernel) rfl
theorem w_152 : (Jvm.Cond.code (⟨"DiagramBench", "only", "(II)V"⟩ : MethodName) prog_1_method_3_code 3 (Option.none : Option Jvm.ClassFile.FieldType)) ∈ TT := TT_of 152 rfl rfl
theorem w_153 : (Jvm.Cond.methodLink "DiagramBench" 39 (⟨"DiagramBench", "checkAssignment", "(I)V"⟩ : MethodName)) ∈ TT := TT_of 153 (by decide +kernel) rfl
theorem w_154 : (Jvm.Cond.static (⟨"DiagramBench", "checkAssignment", "(I)V"⟩ : MethodName)) ∈ TT := TT_of 154 (by decide +kernel) rfl
theorem w_155 : (Jvm.Cond.code (⟨"DiagramBench", "checkAssignment", "(I)V"⟩ : MethodName) prog_1_method_19_code 1 (Option.none : Option Jvm.ClassFile.FieldType)) ∈ TT := TT_of 155 rfl rfl
theorem w_157 : (Jvm.Cond.methodLink "DiagramBench" 42 (⟨"java/util/Arrays", "fill", "([JJ)V"⟩ : MethodName)) ∈ TT := TT_of 157 (by decide +kernel) rfl
theorem w_158 : (Jvm.Cond.static (⟨"java/util/Arrays", "fill", "([JJ)V"⟩ : MethodName)) ∈ TT := TT_of 158 (by decide +kernel) rfl
theorem w_159 : (Jvm.Cond.code (⟨"java/util/Arrays", "fill", "([JJ)V"⟩ : MethodName) prog_13_method_101_code 5 (Option.none : Option Jvm.ClassFile.FieldType)) ∈ TT := TT_of 159 rfl rfl
theorem w_160 : (Jvm.Cond.methodLink "DiagramBenchLaw" 81 (⟨"DiagramBenchLaw", "join", "(LDiagramBench;IIII)I"⟩ : MethodName)) ∈ TT := TT_of 160 (by decide +kernel) rfl
theorem w_161 : (Jvm.Cond.static (⟨"DiagramBenchLaw", "join", "(LDiagramBench;IIII)I"⟩ : MethodName)) ∈ TT := TT_of 161 (by decide +kernel) rfl
theorem w_162 : (Jvm.Cond.codeWith (⟨"DiagramBenchLaw", "join", "(LDiagramBench;IIII)I"⟩ : MethodName) method_5_code 6 (Option.some Jvm.ClassFile.FieldType.int) [(0, 9, 12, 13)]) ∈ TT := TT_of 162 rfl rfl
theorem w_163 : (Jvm.Cond.methodLink "DiagramBenchLaw" 18 (⟨"DiagramBench", "join", "(IIII)V"⟩ : MethodName)) ∈ TT := TT_of 163 (by decide +kernel) rfl
theorem w_164 : (Jvm.Cond.instanceMethod (⟨"DiagramBench", "join", "(IIII)V"⟩ : MethodName)) ∈ TT := TT_of 164 (by decide +kernel) rfl
theorem w_165 : (Jvm.Cond.selects "DiagramBench" (⟨"DiagramBench", "join", "(IIII)V"⟩ : MethodName) (⟨"DiagramBench", "join", "(IIII)V"⟩ : MethodName)) ∈ TT := TT_of 165 (by decide +kernel) rfl
theorem w_166 : (Jvm.Cond.code (⟨"DiagramBench", "join", "(IIII)V"⟩ : MethodName) prog_1_method_4_code 6 (Option.none : Option Jvm.ClassFile.FieldType)) ∈ TT := TT_of 166 rfl rfl
theorem w_167 : (Jvm.Cond.methodLink "DiagramBench" 48 (⟨"DiagramBench", "checkKind", "(I)V"⟩ : MethodName)) ∈ TT := TT_of 167 (by decide +kernel) rfl
theorem w_168 : (Jvm.Cond.static (⟨"DiagramBench", "checkKind", "(I)V"⟩ : MethodName)) ∈ TT := TT_of 168 (by decide +kernel) rfl
theorem w_169 : (Jvm.Cond.code (⟨"DiagramBench", "checkKind", "(I)V"⟩ : MethodName) prog_1_method_21_code 1 (Option.none : Option Jvm.ClassFile.FieldType)) ∈ TT := TT_of 169 rfl rfl
theorem w_171 : (Jvm.Cond.methodLink "DiagramBench" 51 (⟨"DiagramBench", "joinedWord", "(IJJ)J"⟩ : MethodName)) ∈ TT := TT_of 171 (by decide +kernel) rfl
theorem w_172 : (Jvm.Cond.static (⟨"DiagramBench", "joinedWord", "(IJJ)J"⟩ : MethodName)) ∈ TT := TT_of 172 (by decide +kernel) rfl
theorem w_173 : (Jvm.Cond.code (⟨"DiagramBench", "joinedWord", "(IJJ)J"⟩ : MethodName) prog_1_method_24_code 5 (Option.some Jvm.ClassFile.FieldType.long)) ∈ TT := TT_of 173 rfl rfl
theorem w_174 : (Jvm.Cond.methodLink "DiagramBenchLaw" 85 (⟨"DiagramBenchLaw", "choose", "(LDiagramBench;IIII)I"⟩ : MethodName)) ∈ TT := TT_of 174 (by decide +kernel) rfl
theorem w_175 : (Jvm.Cond.static (⟨"DiagramBenchLaw", "choose", "(LDiagramBench;IIII)I"⟩ : MethodName)) ∈ TT := TT_of 175 (by decide +kernel) rfl
theorem w_176 : (Jvm.Cond.codeWith (⟨"DiagramBenchLaw", "choose", "(LDiagramBench;IIII)I"⟩ : MethodName) method_6_code 6 (Option.some Jvm.ClassFile.FieldType.int) [(0, 9, 12, 13)]) ∈ TT := TT_of 176 rfl rfl
theorem w_177 : (Jvm.Cond.methodLink "DiagramBenchLaw" 22 (⟨"DiagramBench", "choose", "(IIII)V"⟩ : MethodName)) ∈ TT := TT_of 177 (by decide +kernel) rfl
theorem w_178 : (Jvm.Cond.instanceMethod (⟨"DiagramBench", "choose", "(IIII)V"⟩ : MethodName)) ∈ TT := TT_of 178 (by decide +kernel) rfl
theorem w_179 : (Jvm.Cond.selects "DiagramBench" (⟨"DiagramBench", "choose", "(IIII)V"⟩ : MethodName) (⟨"DiagramBench", "choose", "(IIII)V"⟩ : MethodName)) ∈ TT := TT_of 179 (by decide +kernel) rfl
theorem w_180 : (Jvm.Cond.code (⟨"DiagramBench", "choose", "(IIII)V"⟩ : MethodName) prog_1_method_5_code 6 (Option.none : Option Jvm.ClassFile.FieldType)) ∈ TT := TT_of 180 rfl rfl
theorem w_181 : (Jvm.Cond.methodLink "DiagramBench" 55 (⟨"DiagramBench", "chosenWord", "(JJJ)J"⟩ : MethodName)) ∈ TT := TT_of 181 (by decide +kernel) rfl
theorem w_182 : (Jvm.Cond.static (⟨"DiagramBench", "chosenWord", "(JJJ)J"⟩ : MethodName)) ∈ TT := TT_of 182 (by decide +kernel) rfl
theorem w_183 : (Jvm.Cond.code (⟨"DiagramBench", "chosenWord", "(JJJ)J"⟩ : MethodName) prog_1_method_25_code 6 (Option.some Jvm.ClassFile.FieldType.long)) ∈ TT := TT_of 183 rfl rfl
theorem w_184 : (Jvm.Cond.methodLink "DiagramBenchLaw" 88 (⟨"DiagramBenchLaw", "cut", "(LDiagramBench;IIIZ)I"⟩ : MethodName)) ∈ TT := TT_of 184 (by decide +kernel) rfl
theorem w_185 : (Jvm.Cond.static (⟨"DiagramBenchLaw", "cut", "(LDiagramBench;IIIZ)I"⟩ : MethodName)) ∈ TT := TT_of 185 (by decide +kernel) rfl
theorem w_186 : (Jvm.Cond.codeWith (⟨"DiagramBenchLaw", "cut", "(LDiagramBench;IIIZ)I"⟩ : MethodName) method_7_code 6 (Option.some Jvm.ClassFile.FieldType.int) [(0, 9, 12, 13)]) ∈ TT := TT_of 186 rfl rfl
theorem w_187 : (Jvm.Cond.methodLink "DiagramBenchLaw" 25 (⟨"DiagramBench", "cut", "(IIIZ)V"⟩ : MethodName)) ∈ TT := TT_of 187 (by decide +kernel) rfl
theorem w_188 : (Jvm.Cond.instanceMethod (⟨"DiagramBench", "cut", "(IIIZ)V"⟩ : MethodName)) ∈ TT := TT_of 188 (by decide +kernel) rfl
theorem w_189 : (Jvm.Cond.selects "DiagramBench" (⟨"DiagramBench", "cut", "(IIIZ)V"⟩ : MethodName) (⟨"DiagramBench", "cut", "(IIIZ)V"⟩ : MethodName)) ∈ TT := TT_of 189 (by decide +kernel) rfl
theorem w_190 : (Jvm.Cond.code (⟨"DiagramBench", "cut", "(IIIZ)V"⟩ : MethodName) prog_1_method_6_code 6 (Option.none : Option Jvm.ClassFile.FieldType)) ∈ TT := TT_of 190 rfl rfl
theorem w_191 : (Jvm.Cond.methodLink "DiagramBench" 59 (⟨"DiagramBench", "fixedWord", "([JIZI)J"⟩ : MethodName)) ∈ TT := TT_of 191 (by decide +kernel) rfl
theorem w_192 : (Jvm.Cond.static (⟨"DiagramBench", "fixedWord", "([JIZI)J"⟩ : MethodName)) ∈ TT := TT_of 192 (by decide +kernel) rfl
theorem w_193 : (Jvm.Cond.code (⟨"DiagramBench", "fixedWord", "([JIZI)J"⟩ : MethodName) prog_1_method_28_code 6 (Option.some Jvm.ClassFile.FieldType.long)) ∈ TT := TT_of 193 rfl rfl
theorem w_194 : (Jvm.Cond.methodLink "DiagramBench" 84 (⟨"DiagramBench", "turnedWord", "([JII)J"⟩ : MethodName)) ∈ TT := TT_of 194 (by decide +kernel) rfl
theorem w_195 : (Jvm.Cond.static (⟨"DiagramBench", "turnedWord", "([JII)J"⟩ : MethodName)) ∈ TT := TT_of 195 (by decide +kernel) rfl
theorem w_196 : (Jvm.Cond.code (⟨"DiagramBench", "turnedWord", "([JII)J"⟩ : MethodName) prog_1_method_27_code 6 (Option.some Jvm.ClassFile.FieldType.long)) ∈ TT := TT_of 196 rfl rfl
theorem w_197 : (Jvm.Cond.methodLink "DiagramBench" 63 (⟨"DiagramBench", "store", "([JI)V"⟩ : MethodName)) ∈ TT := TT_of 197 (by decide +kernel) rfl
theorem w_199 : (Jvm.Cond.instanceMethod (⟨"DiagramBench", "store", "([JI)V"⟩ : MethodName)) ∈ TT := TT_of 199 (by decide +kernel) rfl
theorem w_200 : (Jvm.Cond.code (⟨"DiagramBench", "store", "([JI)V"⟩ : MethodName) prog_1_method_30_code 3 (Option.none : Option Jvm.ClassFile.FieldType)) ∈ TT := TT_of 200 rfl rfl
theorem w_201 : (Jvm.Cond.methodLink "DiagramBench" 70 (⟨"java/lang/System", "arraycopy", "(Ljava/lang/Object;ILjava/lang/Object;II)V"⟩ : MethodName)) ∈ TT := TT_of 201 (by decide +kernel) rfl
theorem w_202 : (Jvm.Cond.static (⟨"java/lang/System", "arraycopy", "(Ljava/lang/Object;ILjava/lang/Object;II)V"⟩ : MethodName)) ∈ TT := TT_of 202 (by decide +kernel) rfl
theorem w_203 : (Jvm.Cond.native (⟨"java/lang/System", "arraycopy", "(Ljava/lang/Object;ILjava/lang/Object;II)V"⟩ : MethodName)) ∈ TT := TT_of 203 (by decide +kernel) rfl
theorem w_204 : (Jvm.Cond.methodLink "DiagramBenchLaw" 92 (⟨"DiagramBenchLaw", "put", "(LDiagramBench;IIII)I"⟩ : MethodName)) ∈ TT := TT_of 204 (by decide +kernel) rfl
theorem w_205 : (Jvm.Cond.static (⟨"DiagramBenchLaw", "put", "(LDiagramBench;IIII)I"⟩ : MethodName)) ∈ TT := TT_of 205 (by decide +kernel) rfl
theorem w_206 : (Jvm.Cond.codeWith (⟨"DiagramBenchLaw", "put", "(LDiagramBench;IIII)I"⟩ : MethodName) method_8_code 6 (Option.some Jvm.ClassFile.FieldType.int) [(0, 9, 12, 13)]) ∈ TT := TT_of 206 rfl rfl
theorem w_207 : (Jvm.Cond.methodLink "DiagramBenchLaw" 29 (⟨"DiagramBench", "put", "(IIII)V"⟩ : MethodName)) ∈ TT := TT_of 207 (by decide +kernel) rfl
theorem w_208 : (Jvm.Cond.instanceMethod (⟨"DiagramBench", "put", "(IIII)V"⟩ : MethodName)) ∈ TT := TT_of 208 (by decide +kernel) rfl
theorem w_209 : (Jvm.Cond.selects "DiagramBench" (⟨"DiagramBench", "put", "(IIII)V"⟩ : MethodName) (⟨"DiagramBench", "put", "(IIII)V"⟩ : MethodName)) ∈ TT := TT_of 209 (by decide +kernel) rfl
theorem w_210 : (Jvm.Cond.code (⟨"DiagramBench", "put", "(IIII)V"⟩ : MethodName) prog_1_method_7_code 10 (Option.none : Option Jvm.ClassFile.FieldType)) ∈ TT := TT_of 210 rfl rfl
theorem w_211 : (Jvm.Cond.methodLink "DiagramBenchLaw" 95 (⟨"DiagramBenchLaw", "bound", "(LDiagramBench;IIIZ)I"⟩ : MethodName)) ∈ TT := TT_of 211 (by decide +kernel) rfl
theorem w_212 : (Jvm.Cond.static (⟨"DiagramBenchLaw", "bound", "(LDiagramBench;IIIZ)I"⟩ : MethodName)) ∈ TT := TT_of 212 (by decide +kernel) rfl
theorem w_213 : (Jvm.Cond.codeWith (⟨"DiagramBenchLaw", "bound", "(LDiagramBench;IIIZ)I"⟩ : MethodName) method_9_code 6 (Option.some Jvm.ClassFile.FieldType.int) [(0, 9, 12, 13)]) ∈ TT := TT_of 213 rfl rfl
theorem w_214 : (Jvm.Cond.methodLink "DiagramBenchLaw" 32 (⟨"DiagramBench", "bound", "(IIIZ)V"⟩ : MethodName)) ∈ TT := TT_of 214 (by decide +kernel) rfl
theorem w_215 : (Jvm.Cond.instanceMethod (⟨"DiagramBench", "bound", "(IIIZ)V"⟩ : MethodName)) ∈ TT := TT_of 215 (by decide +kernel) rfl
theorem w_216 : (Jvm.Cond.selects "DiagramBench" (⟨"DiagramBench", "bound", "(IIIZ)V"⟩ : MethodName) (⟨"DiagramBench", "bound", "(IIIZ)V"⟩ : MethodName)) ∈ TT := TT_of 216 (by decide +kernel) rfl
theorem w_217 : (Jvm.Cond.code (⟨"DiagramBench", "bound", "(IIIZ)V"⟩ : MethodName) prog_1_method_8_code 6 (Option.none : Option Jvm.ClassFile.FieldType)) ∈ TT := TT_of 217 rfl rfl
theorem w_218 : (Jvm.Cond.methodLink "DiagramBench" 67 (⟨"DiagramBench", "checkSet", "(I)V"⟩ : MethodName)) ∈ TT := TT_of 218 (by decide +kernel) rfl
theorem w_219 : (Jvm.Cond.static (⟨"DiagramBench", "checkSet", "(I)V"⟩ : MethodName)) ∈ TT := TT_of 219 (by decide +kernel) rfl
theorem w_220 : (Jvm.Cond.code (⟨"DiagramBench", "checkSet", "(I)V"⟩ : MethodName) prog_1_method_20_code 1 (Option.none : Option Jvm.ClassFile.FieldType)) ∈ TT := TT_of 220 rfl rfl
theorem w_222 : (Jvm.Cond.methodLink "DiagramBench" 80 (⟨"DiagramBench", "bindWork", "(IZ)V"⟩ : MethodName)) ∈ TT := TT_of 222 (by decide +kernel) rfl
theorem w_224 : (Jvm.Cond.instanceMethod (⟨"DiagramBench", "bindWork", "(IZ)V"⟩ : MethodName)) ∈ TT := TT_of 224 (by decide +kernel) rfl
theorem w_225 : (Jvm.Cond.code (⟨"DiagramBench", "bindWork", "(IZ)V"⟩ : MethodName) prog_1_method_31_code 6 (Option.none : Option Jvm.ClassFile.FieldType)) ∈ TT := TT_of 225 rfl rfl
theorem w_226 : (Jvm.Cond.methodLink "DiagramBenchLaw" 98 (⟨"DiagramBenchLaw", "swap", "(LDiagramBench;IIII)I"⟩ : MethodName)) ∈ TT := TT_of 226 (by decide +kernel) rfl
theorem w_227 : (Jvm.Cond.static (⟨"DiagramBenchLaw", "swap", "(LDiagramBench;IIII)I"⟩ : MethodName)) ∈ TT := TT_of 227 (by decide +kernel) rfl
theorem w_228 : (Jvm.Cond.codeWith (⟨"DiagramBenchLaw", "swap", "(LDiagramBench;IIII)I"⟩ : MethodName) method_10_code 6 (Option.some Jvm.ClassFile.FieldType.int) [(0, 9, 12, 13)]) ∈ TT := TT_of 228 rfl rfl
theorem w_229 : (Jvm.Cond.methodLink "DiagramBenchLaw" 35 (⟨"DiagramBench", "swap", "(IIII)V"⟩ : MethodName)) ∈ TT := TT_of 229 (by decide +kernel) rfl
theorem w_230 : (Jvm.Cond.instanceMethod (⟨"DiagramBench", "swap", "(IIII)V"⟩ : MethodName)) ∈ TT := TT_of 230 (by decide +kernel) rfl
theorem w_231 : (Jvm.Cond.selects "DiagramBench" (⟨"DiagramBench", "swap", "(IIII)V"⟩ : MethodName) (⟨"DiagramBench", "swap", "(IIII)V"⟩ : MethodName)) ∈ TT := TT_of 231 (by decide +kernel) rfl
theorem w_232 : (Jvm.Cond.code (⟨"DiagramBench", "swap", "(IIII)V"⟩ : MethodName) prog_1_method_9_code 8 (Option.none : Option Jvm.ClassFile.FieldType)) ∈ TT := TT_of 232 rfl rfl
theorem w_233 : (Jvm.Cond.methodLink "DiagramBenchLaw" 101 (⟨"DiagramBenchLaw", "is", "(LDiagramBench;II[J)I"⟩ : MethodName)) ∈ TT := TT_of 233 (by decide +kernel) rfl
theorem w_234 : (Jvm.Cond.static (⟨"DiagramBenchLaw", "is", "(LDiagramBench;II[J)I"⟩ : MethodName)) ∈ TT := TT_of 234 (by decide +kernel) rfl
theorem w_235 : (Jvm.Cond.codeWith (⟨"DiagramBenchLaw", "is", "(LDiagramBench;II[J)I"⟩ : MethodName) method_11_code 5 (Option.some Jvm.ClassFile.FieldType.int) [(0, 17, 20, 13)]) ∈ TT := TT_of 235 rfl rfl
theorem w_236 : (Jvm.Cond.methodLink "DiagramBenchLaw" 38 (⟨"DiagramBench", "is", "(II)Z"⟩ : MethodName)) ∈ TT := TT_of 236 (by decide +kernel) rfl
theorem w_237 : (Jvm.Cond.instanceMethod (⟨"DiagramBench", "is", "(II)Z"⟩ : MethodName)) ∈ TT := TT_of 237 (by decide +kernel) rfl
theorem w_238 : (Jvm.Cond.selects "DiagramBench" (⟨"DiagramBench", "is", "(II)Z"⟩ : MethodName) (⟨"DiagramBench", "is", "(II)Z"⟩ : MethodName)) ∈ TT := TT_of 238 (by decide +kernel) rfl
theorem w_239 : (Jvm.Cond.code (⟨"DiagramBench", "is", "(II)Z"⟩ : MethodName) prog_1_method_10_code 3 (Option.some Jvm.ClassFile.FieldType.boolean)) ∈ TT := TT_of 239 rfl rfl
theorem w_240 : (Jvm.Cond.methodLink "DiagramBench" 88 (⟨"DiagramBench", "bitOf", "([JI)I"⟩ : MethodName)) ∈ TT := TT_of 240 (by decide +kernel) rfl
theorem w_241 : (Jvm.Cond.static (⟨"DiagramBench", "bitOf", "([JI)I"⟩ : MethodName)) ∈ TT := TT_of 241 (by decide +kernel) rfl
theorem w_242 : (Jvm.Cond.code (⟨"DiagramBench", "bitOf", "([JI)I"⟩ : MethodName) prog_1_method_23_code 4 (Option.some Jvm.ClassFile.FieldType.int)) ∈ TT := TT_of 242 rfl rfl
theorem w_243 : (Jvm.Cond.methodLink "DiagramBenchLaw" 105 (⟨"DiagramBenchLaw", "ways", "(LDiagramBench;I[J)I"⟩ : MethodName)) ∈ TT := TT_of 243 (by decide +kernel) rfl
theorem w_244 : (Jvm.Cond.static (⟨"DiagramBenchLaw", "ways", "(LDiagramBench;I[J)I"⟩ : MethodName)) ∈ TT := TT_of 244 (by decide +kernel) rfl
theorem w_245 : (Jvm.Cond.codeWith (⟨"DiagramBenchLaw", "ways", "(LDiagramBench;I[J)I"⟩ : MethodName) method_12_code 4 (Option.some Jvm.ClassFile.FieldType.int) [(0, 9, 12, 13)]) ∈ TT := TT_of 245 rfl rfl
theorem w_246 : (Jvm.Cond.methodLink "DiagramBenchLaw" 42 (⟨"DiagramBench", "ways", "(I)I"⟩ : MethodName)) ∈ TT := TT_of 246 (by decide +kernel) rfl
theorem w_247 : (Jvm.Cond.instanceMethod (⟨"DiagramBench", "ways", "(I)I"⟩ : MethodName)) ∈ TT := TT_of 247 (by decide +kernel) rfl
theorem w_248 : (Jvm.Cond.selects "DiagramBench" (⟨"DiagramBench", "ways", "(I)I"⟩ : MethodName) (⟨"DiagramBench", "ways", "(I)I"⟩ : MethodName)) ∈ TT := TT_of 248 (by decide +kernel) rfl
theorem w_249 : (Jvm.Cond.code (⟨"DiagramBench", "ways", "(I)I"⟩ : MethodName) prog_1_method_11_code 4 (Option.some Jvm.ClassFile.FieldType.int)) ∈ TT := TT_of 249 rfl rfl
theorem w_250 : (Jvm.Cond.methodLink "DiagramBench" 92 (⟨"java/lang/Long", "bitCount", "(J)I"⟩ : MethodName)) ∈ TT := TT_of 250 (by decide +kernel) rfl
theorem w_251 : (Jvm.Cond.static (⟨"java/lang/Long", "bitCount", "(J)I"⟩ : MethodName)) ∈ TT := TT_of 251 (by decide +kernel) rfl
theorem w_252 : (Jvm.Cond.code (⟨"java/lang/Long", "bitCount", "(J)I"⟩ : MethodName) prog_7_method_50_code 2 (Option.some Jvm.ClassFile.FieldType.int)) ∈ TT := TT_of 252 rfl rfl
theorem w_253 : (Jvm.Cond.constantLong "java/lang/Long" 314 (6148914691236517205 : Int64)) ∈ TT := TT_of 253 (by decide +kernel) rfl
theorem w_254 : (Jvm.Cond.constantLong "java/lang/Long" 316 (3689348814741910323 : Int64)) ∈ TT := TT_of 254 (by decide +kernel) rfl
theorem w_255 : (Jvm.Cond.constantLong "java/lang/Long" 318 (1085102592571150095 : Int64)) ∈ TT := TT_of 255 (by decide +kernel) rfl
theorem w_256 : (Jvm.Cond.methodLink "DiagramBenchLaw" 109 (⟨"DiagramBenchLaw", "first", "(LDiagramBench;I[J)I"⟩ : MethodName)) ∈ TT := TT_of 256 (by decide +kernel) rfl
theorem w_257 : (Jvm.Cond.static (⟨"DiagramBenchLaw", "first", "(LDiagramBench;I[J)I"⟩ : MethodName)) ∈ TT := TT_of 257 (by decide +kernel) rfl
theorem w_258 : (Jvm.Cond.codeWith (⟨"DiagramBenchLaw", "first", "(LDiagramBench;I[J)I"⟩ : MethodName) method_13_code 4 (Option.some Jvm.ClassFile.FieldType.int) [(0, 9, 12, 13), (0, 9, 15, 49)]) ∈ TT := TT_of 258 rfl rfl
theorem w_259 : (Jvm.Cond.classLink "DiagramBenchLaw" 49 "java/util/NoSuchElementException") ∈ TT := TT_of 259 (by decide +kernel) rfl
theorem w_260 : (Jvm.Cond.methodLink "DiagramBenchLaw" 46 (⟨"DiagramBench", "first", "(I)I"⟩ : MethodName)) ∈ TT := TT_of 260 (by decide +kernel) rfl
theorem w_261 : (Jvm.Cond.instanceMethod (⟨"DiagramBench", "first", "(I)I"⟩ : MethodName)) ∈ TT := TT_of 261 (by decide +kernel) rfl
theorem w_262 : (Jvm.Cond.selects "DiagramBench" (⟨"DiagramBench", "first", "(I)I"⟩ : MethodName) (⟨"DiagramBench", "first", "(I)I"⟩ : MethodName)) ∈ TT := TT_of 262 (by decide +kernel) rfl
theorem w_263 : (Jvm.Cond.code (⟨"DiagramBench", "first", "(I)I"⟩ : MethodName) prog_1_method_12_code 4 (Option.some Jvm.ClassFile.FieldType.int)) ∈ TT := TT_of 263 rfl rfl
theorem w_264 : (Jvm.Cond.methodLink "DiagramBench" 98 (⟨"DiagramBench", "isEmptyWork", "()Z"⟩ : MethodName)) ∈ TT := TT_of 264 (by decide +kernel) rfl
theorem w_266 : (Jvm.Cond.instanceMethod (⟨"DiagramBench", "isEmptyWork", "()Z"⟩ : MethodName)) ∈ TT := TT_of 266 (by decide +kernel) rfl
theorem w_267 : (Jvm.Cond.code (⟨"DiagramBench", "isEmptyWork", "()Z"⟩ : MethodName) prog_1_method_32_code 2 (Option.some Jvm.ClassFile.FieldType.boolean)) ∈ TT := TT_of 267 rfl rfl
theorem w_268 : (Jvm.Cond.classLink "DiagramBench" 102 "java/util/NoSuchElementException") ∈ TT := TT_of 268 (by decide +kernel) rfl
theorem w_269 : (Jvm.Cond.instantiable "java/util/NoSuchElementException" 6) ∈ TT := TT_of 269 (by decide +kernel) rfl
theorem w_271 : (Jvm.Cond.selects "java/util/NoSuchElementException" (⟨"java/lang/Throwable", "fillInStackTrace", "(I)Ljava/lang/Throwable;"⟩ : MethodName) (⟨"java/lang/Throwable", "fillInStackTrace", "(I)Ljava/lang/Throwable;"⟩ : MethodName)) ∈ TT := TT_of 271 (by decide +kernel) rfl
theorem w_272 : (Jvm.Cond.lays "java/util/NoSuchElementException" "java/lang/Throwable" "cause" "Ljava/lang/Throwable;") ∈ TT := TT_of 272 (by decide +kernel) rfl
theorem w_273 : (Jvm.Cond.lays "java/util/NoSuchElementException" "java/lang/Throwable" "stackTrace" "[Ljava/lang/StackTraceElement;") ∈ TT := TT_of 273 (by decide +kernel) rfl
theorem w_274 : (Jvm.Cond.lays "java/util/NoSuchElementException" "java/lang/Throwable" "suppressedExceptions" "Ljava/util/List;") ∈ TT := TT_of 274 (by decide +kernel) rfl
theorem w_275 : (Jvm.Cond.lays "java/util/NoSuchElementException" "java/lang/Throwable" "detailMessage" "Ljava/lang/String;") ∈ TT := TT_of 275 (by decide +kernel) rfl
theorem w_276 : (Jvm.Cond.lays "java/util/NoSuchElementException" "java/lang/Throwable" "backtrace" "Ljava/lang/Object;") ∈ TT := TT_of 276 (by decide +kernel) rfl
theorem w_278 : (Jvm.Cond.methodLink "DiagramBench" 106 (⟨"java/util/NoSuchElementException", "<init>", "(Ljava/lang/String;)V"⟩ : MethodName)) ∈ TT := TT_of 278 (by decide +kernel) rfl
theorem w_279 : (Jvm.Cond.instanceMethod (⟨"java/util/NoSuchElementException", "<init>", "(Ljava/lang/String;)V"⟩ : MethodName)) ∈ TT := TT_of 279 (by decide +kernel) rfl
theorem w_280 : (Jvm.Cond.code (⟨"java/util/NoSuchElementException", "<init>", "(Ljava/lang/String;)V"⟩ : MethodName) prog_14_method_4_code 2 (Option.none : Option Jvm.ClassFile.FieldType)) ∈ TT := TT_of 280 rfl rfl
theorem w_281 : (Jvm.Cond.methodLink "java/util/NoSuchElementException" 13 (⟨"java/lang/RuntimeException", "<init>", "(Ljava/lang/String;)V"⟩ : MethodName)) ∈ TT := TT_of 281 (by decide +kernel) rfl
theorem w_282 : (Jvm.Cond.lays "java/util/NoSuchElementException" "java/lang/Throwable" "depth" "I") ∈ TT := TT_of 282 (by decide +kernel) rfl
theorem w_283 : (Jvm.Cond.superclass "java/util/NoSuchElementException" "java/lang/RuntimeException") ∈ TT := TT_of 283 (by decide +kernel) rfl
theorem w_284 : (Jvm.Cond.methodLink "DiagramBench" 109 (⟨"DiagramBench", "narrowWorkToFalse", "(I)Z"⟩ : MethodName)) ∈ TT := TT_of 284 (by decide +kernel) rfl
theorem w_286 : (Jvm.Cond.instanceMethod (⟨"DiagramBench", "narrowWorkToFalse", "(I)Z"⟩ : MethodName)) ∈ TT := TT_of 286 (by decide +kernel) rfl
theorem w_287 : (Jvm.Cond.code (⟨"DiagramBench", "narrowWorkToFalse", "(I)Z"⟩ : MethodName) prog_1_method_33_code 5 (Option.some Jvm.ClassFile.FieldType.boolean)) ∈ TT := TT_of 287 rfl rfl
theorem w_288 : (Jvm.Cond.methodLink "DiagramBenchLaw" 112 (⟨"DiagramBenchLaw", "hangs", "(LDiagramBench;I[J)I"⟩ : MethodName)) ∈ TT := TT_of 288 (by decide +kernel) rfl
theorem w_289 : (Jvm.Cond.static (⟨"DiagramBenchLaw", "hangs", "(LDiagramBench;I[J)I"⟩ : MethodName)) ∈ TT := TT_of 289 (by decide +kernel) rfl
theorem w_290 : (Jvm.Cond.codeWith (⟨"DiagramBenchLaw", "hangs", "(LDiagramBench;I[J)I"⟩ : MethodName) method_14_code 4 (Option.some Jvm.ClassFile.FieldType.int) [(0, 9, 12, 13)]) ∈ TT := TT_of 290 rfl rfl
theorem w_291 : (Jvm.Cond.methodLink "DiagramBenchLaw" 51 (⟨"DiagramBench", "hangs", "(I)I"⟩ : MethodName)) ∈ TT := TT_of 291 (by decide +kernel) rfl
theorem w_292 : (Jvm.Cond.instanceMethod (⟨"DiagramBench", "hangs", "(I)I"⟩ : MethodName)) ∈ TT := TT_of 292 (by decide +kernel) rfl
theorem w_293 : (Jvm.Cond.selects "DiagramBench" (⟨"DiagramBench", "hangs", "(I)I"⟩ : MethodName) (⟨"DiagramBench", "hangs", "(I)I"⟩ : MethodName)) ∈ TT := TT_of 293 (by decide +kernel) rfl
theorem w_294 : (Jvm.Cond.code (⟨"DiagramBench", "hangs", "(I)I"⟩ : MethodName) prog_1_method_13_code 4 (Option.some Jvm.ClassFile.FieldType.int)) ∈ TT := TT_of 294 rfl rfl
theorem w_295 : (Jvm.Cond.methodLink "DiagramBench" 113 (⟨"DiagramBench", "hangsOn", "([JI)Z"⟩ : MethodName)) ∈ TT := TT_of 295 (by decide +kernel) rfl
theorem w_296 : (Jvm.Cond.static (⟨"DiagramBench", "hangsOn", "([JI)Z"⟩ : MethodName)) ∈ TT := TT_of 296 (by decide +kernel) rfl
theorem w_297 : (Jvm.Cond.code (⟨"DiagramBench", "hangsOn", "([JI)Z"⟩ : MethodName) prog_1_method_29_code 3 (Option.some Jvm.ClassFile.FieldType.boolean)) ∈ TT := TT_of 297 rfl rfl
theorem w_298 : (Jvm.Cond.methodLink "DiagramBenchLaw" 115 (⟨"DiagramBenchLaw", "same", "(LDiagramBench;II[J)I"⟩ : MethodName)) ∈ TT := TT_of 298 (by decide +kernel) rfl
theorem w_299 : (Jvm.Cond.static (⟨"DiagramBenchLaw", "same", "(LDiagramBench;II[J)I"⟩ : MethodName)) ∈ TT := TT_of 299 (by decide +kernel) rfl
theorem w_300 : (Jvm.Cond.codeWith (⟨"DiagramBenchLaw", "same", "(LDiagramBench;II[J)I"⟩ : MethodName) method_15_code 5 (Option.some Jvm.ClassFile.FieldType.int) [(0, 17, 20, 13)]) ∈ TT := TT_of 300 rfl rfl
theorem w_301 : (Jvm.Cond.methodLink "DiagramBenchLaw" 54 (⟨"DiagramBench", "same", "(II)Z"⟩ : MethodName)) ∈ TT := TT_of 301 (by decide +kernel) rfl
theorem w_302 : (Jvm.Cond.instanceMethod (⟨"DiagramBench", "same", "(II)Z"⟩ : MethodName)) ∈ TT := TT_of 302 (by decide +kernel) rfl
theorem w_303 : (Jvm.Cond.selects "DiagramBench" (⟨"DiagramBench", "same", "(II)Z"⟩ : MethodName) (⟨"DiagramBench", "same", "(II)Z"⟩ : MethodName)) ∈ TT := TT_of 303 (by decide +kernel) rfl
theorem w_304 : (Jvm.Cond.code (⟨"DiagramBench", "same", "(II)Z"⟩ : MethodName) prog_1_method_14_code 4 (Option.some Jvm.ClassFile.FieldType.boolean)) ∈ TT := TT_of 304 rfl rfl
theorem w_305 : (Jvm.Cond.methodLink "DiagramBenchLaw" 118 (⟨"DiagramBenchLaw", "parts", "(LDiagramBench;I[J)I"⟩ : MethodName)) ∈ TT := TT_of 305 (by decide +kernel) rfl
theorem w_306 : (Jvm.Cond.static (⟨"DiagramBenchLaw", "parts", "(LDiagramBench;I[J)I"⟩ : MethodName)) ∈ TT := TT_of 306 (by decide +kernel) rfl
theorem w_307 : (Jvm.Cond.codeWith (⟨"DiagramBenchLaw", "parts", "(LDiagramBench;I[J)I"⟩ : MethodName) method_16_code 4 (Option.some Jvm.ClassFile.FieldType.int) [(0, 9, 12, 13)]) ∈ TT := TT_of 307 rfl rfl
theorem w_308 : (Jvm.Cond.methodLink "DiagramBenchLaw" 57 (⟨"DiagramBench", "parts", "(I)I"⟩ : MethodName)) ∈ TT := TT_of 308 (by decide +kernel) rfl
theorem w_309 : (Jvm.Cond.instanceMethod (⟨"DiagramBench", "parts", "(I)I"⟩ : MethodName)) ∈ TT := TT_of 309 (by decide +kernel) rfl
theorem w_310 : (Jvm.Cond.selects "DiagramBench" (⟨"DiagramBench", "parts", "(I)I"⟩ : MethodName) (⟨"DiagramBench", "parts", "(I)I"⟩ : MethodName)) ∈ TT := TT_of 310 (by decide +kernel) rfl
theorem w_311 : (Jvm.Cond.code (⟨"DiagramBench", "parts", "(I)I"⟩ : MethodName) prog_1_method_15_code 2 (Option.some Jvm.ClassFile.FieldType.int)) ∈ TT := TT_of 311 rfl rfl
theorem w_312 : (Jvm.Cond.methodLink "DiagramBench" 117 (⟨"DiagramBench", "countNodes", "(II)I"⟩ : MethodName)) ∈ TT := TT_of 312 (by decide +kernel) rfl
theorem w_314 : (Jvm.Cond.instanceMethod (⟨"DiagramBench", "countNodes", "(II)I"⟩ : MethodName)) ∈ TT := TT_of 314 (by decide +kernel) rfl
theorem w_315 : (Jvm.Cond.code (⟨"DiagramBench", "countNodes", "(II)I"⟩ : MethodName) prog_1_method_34_code 4 (Option.some Jvm.ClassFile.FieldType.int)) ∈ TT := TT_of 315 rfl rfl
theorem w_318 : (Jvm.Cond.instanceMethod (⟨"DiagramBench$Diagram", "clear", "()V"⟩ : MethodName)) ∈ TT := TT_of 318 (by decide +kernel) rfl
theorem w_319 : (Jvm.Cond.code (⟨"DiagramBench$Diagram", "clear", "()V"⟩ : MethodName) prog_2_method_2_code 1 (Option.none : Option Jvm.ClassFile.FieldType)) ∈ TT := TT_of 319 rfl rfl
theorem w_320 : (Jvm.Cond.methodLink "DiagramBench$Diagram" 22 (⟨"java/util/Arrays", "fill", "([II)V"⟩ : MethodName)) ∈ TT := TT_of 320 (by decide +kernel) rfl
theorem w_321 : (Jvm.Cond.static (⟨"java/util/Arrays", "fill", "([II)V"⟩ : MethodName)) ∈ TT := TT_of 321 (by decide +kernel) rfl
theorem w_322 : (Jvm.Cond.code (⟨"java/util/Arrays", "fill", "([II)V"⟩ : MethodName) prog_13_method_103_code 4 (Option.none : Option Jvm.ClassFile.FieldType)) ∈ TT := TT_of 322 rfl rfl
theorem w_325 : (Jvm.Cond.instanceMethod (⟨"DiagramBench$Diagram", "take", "([J)V"⟩ : MethodName)) ∈ TT := TT_of 325 (by decide +kernel) rfl
theorem w_326 : (Jvm.Cond.code (⟨"DiagramBench$Diagram", "take", "([J)V"⟩ : MethodName) prog_2_method_3_code 5 (Option.none : Option Jvm.ClassFile.FieldType)) ∈ TT := TT_of 326 rfl rfl
theorem w_328 : (Jvm.Cond.methodLink "DiagramBench$Diagram" 32 (⟨"DiagramBench$Diagram", "nameOf", "(III)I"⟩ : MethodName)) ∈ TT := TT_of 328 (by decide +kernel) rfl
theorem w_330 : (Jvm.Cond.instanceMethod (⟨"DiagramBench$Diagram", "nameOf", "(III)I"⟩ : MethodName)) ∈ TT := TT_of 330 (by decide +kernel) rfl
theorem w_331 : (Jvm.Cond.code (⟨"DiagramBench$Diagram", "nameOf", "(III)I"⟩ : MethodName) prog_2_method_4_code 5 (Option.some Jvm.ClassFile.FieldType.int)) ∈ TT := TT_of 331 rfl rfl
theorem w_332 : (Jvm.Cond.methodLink "DiagramBench$Diagram" 36 (⟨"DiagramBench$Diagram", "slotOf", "(I)I"⟩ : MethodName)) ∈ TT := TT_of 332 (by decide +kernel) rfl
theorem w_334 : (Jvm.Cond.instanceMethod (⟨"DiagramBench$Diagram", "slotOf", "(I)I"⟩ : MethodName)) ∈ TT := TT_of 334 (by decide +kernel) rfl
theorem w_335 : (Jvm.Cond.code (⟨"DiagramBench$Diagram", "slotOf", "(I)I"⟩ : MethodName) prog_2_method_5_code 4 (Option.some Jvm.ClassFile.FieldType.int)) ∈ TT := TT_of 335 rfl rfl
theorem w_336 : (Jvm.Cond.constant "DiagramBench$Diagram" 40 (-1640531535 : Int32)) ∈ TT := TT_of 336 (by decide +kernel) rfl
theorem w_337 : (Jvm.Cond.methodLink "DiagramBenchLaw" 121 (⟨"DiagramBenchLaw", "together", "(LDiagramBench;II[J)I"⟩ : MethodName)) ∈ TT := TT_of 337 (by decide +kernel) rfl
theorem w_338 : (Jvm.Cond.static (⟨"DiagramBenchLaw", "together", "(LDiagramBench;II[J)I"⟩ : MethodName)) ∈ TT := TT_of 338 (by decide +kernel) rfl
theorem w_339 : (Jvm.Cond.codeWith (⟨"DiagramBenchLaw", "together", "(LDiagramBench;II[J)I"⟩ : MethodName) method_17_code 5 (Option.some Jvm.ClassFile.FieldType.int) [(0, 10, 13, 13)]) ∈ TT := TT_of 339 rfl rfl
theorem w_340 : (Jvm.Cond.methodLink "DiagramBenchLaw" 60 (⟨"DiagramBench", "together", "(II)I"⟩ : MethodName)) ∈ TT := TT_of 340 (by decide +kernel) rfl
theorem w_341 : (Jvm.Cond.instanceMethod (⟨"DiagramBench", "together", "(II)I"⟩ : MethodName)) ∈ TT := TT_of 341 (by decide +kernel) rfl
theorem w_342 : (Jvm.Cond.selects "DiagramBench" (⟨"DiagramBench", "together", "(II)I"⟩ : MethodName) (⟨"DiagramBench", "together", "(II)I"⟩ : MethodName)) ∈ TT := TT_of 342 (by decide +kernel) rfl
theorem w_343 : (Jvm.Cond.code (⟨"DiagramBench", "together", "(II)I"⟩ : MethodName) prog_1_method_16_code 3 (Option.some Jvm.ClassFile.FieldType.int)) ∈ TT := TT_of 343 rfl rfl
theorem w_345 : (Jvm.Cond.classLink "DiagramBenchLaw" 65 "DiagramBenchModel") ∈ TT := TT_of 345 (by decide +kernel) rfl
theorem w_346 : (Jvm.Cond.instantiable "DiagramBenchModel" 5) ∈ TT := TT_of 346 (by decide +kernel) rfl
theorem w_347 : (Jvm.Cond.methodLink "DiagramBenchLaw" 67 (⟨"DiagramBenchModel", "<init>", "()V"⟩ : MethodName)) ∈ TT := TT_of 347 (by decide +kernel) rfl
theorem w_348 : (Jvm.Cond.instanceMethod (⟨"DiagramBenchModel", "<init>", "()V"⟩ : MethodName)) ∈ TT := TT_of 348 (by decide +kernel) rfl
theorem w_349 : (Jvm.Cond.code (⟨"DiagramBenchModel", "<init>", "()V"⟩ : MethodName) prog_4_method_1_code 1 (Option.none : Option Jvm.ClassFile.FieldType)) ∈ TT := TT_of 349 rfl rfl
theorem w_350 : (Jvm.Cond.methodLink "DiagramBenchModel" 1 (⟨"java/lang/Object", "<init>", "()V"⟩ : MethodName)) ∈ TT := TT_of 350 (by decide +kernel) rfl
theorem w_351 : (Jvm.Cond.classLink "DiagramBenchModel" 13 "[[Z") ∈ TT := TT_of 351 (by decide +kernel) rfl
theorem w_353 : (Jvm.Cond.fieldLink "DiagramBenchModel" 7 "DiagramBenchModel" "thrown" "I") ∈ TT := TT_of 353 (by decide +kernel) rfl
theorem w_354 : (Jvm.Cond.fieldLink "DiagramBenchModel" 15 "DiagramBenchModel" "register" "[[Z") ∈ TT := TT_of 354 (by decide +kernel) rfl
theorem w_355 : (Jvm.Cond.fieldLink "DiagramBenchModel" 18 "DiagramBenchModel" "work" "[Z") ∈ TT := TT_of 355 (by decide +kernel) rfl
theorem w_356 : (Jvm.Cond.fieldLink "DiagramBenchModel" 22 "DiagramBenchModel" "foundIn" "[I") ∈ TT := TT_of 356 (by decide +kernel) rfl
theorem w_357 : (Jvm.Cond.fieldLink "DiagramBenchModel" 26 "DiagramBenchModel" "foundAt" "[I") ∈ TT := TT_of 357 (by decide +kernel) rfl
theorem w_358 : (Jvm.Cond.lays "DiagramBenchModel" "DiagramBenchModel" "thrown" "I") ∈ TT := TT_of 358 (by decide +kernel) rfl
theorem w_359 : (Jvm.Cond.soleField "DiagramBenchModel" "thrown") ∈ TT := TT_of 359 (by decide +kernel) rfl
theorem w_360 : (Jvm.Cond.laysFinal "DiagramBenchModel" "DiagramBenchModel" "register" "[[Z") ∈ TT := TT_of 360 (by decide +kernel) rfl
theorem w_361 : (Jvm.Cond.soleField "DiagramBenchModel" "register") ∈ TT := TT_of 361 (by decide +kernel) rfl
theorem w_362 : (Jvm.Cond.laysFinal "DiagramBenchModel" "DiagramBenchModel" "work" "[Z") ∈ TT := TT_of 362 (by decide +kernel) rfl
theorem w_363 : (Jvm.Cond.soleField "DiagramBenchModel" "work") ∈ TT := TT_of 363 (by decide +kernel) rfl
theorem w_364 : (Jvm.Cond.laysFinal "DiagramBenchModel" "DiagramBenchModel" "foundIn" "[I") ∈ TT := TT_of 364 (by decide +kernel) rfl
theorem w_365 : (Jvm.Cond.soleField "DiagramBenchModel" "foundIn") ∈ TT := TT_of 365 (by decide +kernel) rfl
theorem w_366 : (Jvm.Cond.laysFinal "DiagramBenchModel" "DiagramBenchModel" "foundAt" "[I") ∈ TT := TT_of 366 (by decide +kernel) rfl
theorem w_367 : (Jvm.Cond.soleField "DiagramBenchModel" "foundAt") ∈ TT := TT_of 367 (by decide +kernel) rfl
theorem w_368 : (Jvm.Cond.superclass "DiagramBenchModel" "java/lang/Object") ∈ TT := TT_of 368 (by decide +kernel) rfl
theorem w_369 : (Jvm.Cond.arrayClass Jvm.ClassFile.FieldType.boolean) ∈ TT := TT_of 369 (by decide +kernel) rfl
theorem w_370 : (Jvm.Cond.methodLink "DiagramBenchLaw" 74 (⟨"DiagramBenchModel", "thrown", "()I"⟩ : MethodName)) ∈ TT := TT_of 370 (by decide +kernel) rfl
theorem w_371 : (Jvm.Cond.instanceMethod (⟨"DiagramBenchModel", "thrown", "()I"⟩ : MethodName)) ∈ TT := TT_of 371 (by decide +kernel) rfl
theorem w_372 : (Jvm.Cond.selects "DiagramBenchModel" (⟨"DiagramBenchModel", "thrown", "()I"⟩ : MethodName) (⟨"DiagramBenchModel", "thrown", "()I"⟩ : MethodName)) ∈ TT := TT_of 372 (by decide +kernel) rfl
theorem w_373 : (Jvm.Cond.code (⟨"DiagramBenchModel", "thrown", "()I"⟩ : MethodName) prog_4_method_2_code 1 (Option.some Jvm.ClassFile.FieldType.int)) ∈ TT := TT_of 373 rfl rfl
theorem w_374 : (Jvm.Cond.methodLink "DiagramBenchLaw" 73 (⟨"DiagramBenchModel", "variable", "(II)V"⟩ : MethodName)) ∈ TT := TT_of 374 (by decide +kernel) rfl
theorem w_375 : (Jvm.Cond.instanceMethod (⟨"DiagramBenchModel", "variable", "(II)V"⟩ : MethodName)) ∈ TT := TT_of 375 (by decide +kernel) rfl
theorem w_376 : (Jvm.Cond.selects "DiagramBenchModel" (⟨"DiagramBenchModel", "variable", "(II)V"⟩ : MethodName) (⟨"DiagramBenchModel", "variable", "(II)V"⟩ : MethodName)) ∈ TT := TT_of 376 (by decide +kernel) rfl
theorem w_377 : (Jvm.Cond.code (⟨"DiagramBenchModel", "variable", "(II)V"⟩ : MethodName) prog_4_method_8_code 4 (Option.none : Option Jvm.ClassFile.FieldType)) ∈ TT := TT_of 377 rfl rfl
theorem w_378 : (Jvm.Cond.methodLink "DiagramBenchModel" 35 (⟨"DiagramBenchModel", "none", "(I)Z"⟩ : MethodName)) ∈ TT := TT_of 378 (by decide +kernel) rfl
theorem w_379 : (Jvm.Cond.static (⟨"DiagramBenchModel", "none", "(I)Z"⟩ : MethodName)) ∈ TT := TT_of 379 (by decide +kernel) rfl
theorem w_380 : (Jvm.Cond.code (⟨"DiagramBenchModel", "none", "(I)Z"⟩ : MethodName) prog_4_method_4_code 1 (Option.some Jvm.ClassFile.FieldType.boolean)) ∈ TT := TT_of 380 rfl rfl
theorem w_381 : (Jvm.Cond.methodLink "DiagramBenchModel" 39 (⟨"DiagramBenchModel", "outside", "(I)Z"⟩ : MethodName)) ∈ TT := TT_of 381 (by decide +kernel) rfl
theorem w_382 : (Jvm.Cond.static (⟨"DiagramBenchModel", "outside", "(I)Z"⟩ : MethodName)) ∈ TT := TT_of 382 (by decide +kernel) rfl
theorem w_383 : (Jvm.Cond.code (⟨"DiagramBenchModel", "outside", "(I)Z"⟩ : MethodName) prog_4_method_5_code 1 (Option.some Jvm.ClassFile.FieldType.boolean)) ∈ TT := TT_of 383 rfl rfl
theorem w_384 : (Jvm.Cond.methodLink "DiagramBenchModel" 42 (⟨"DiagramBenchModel", "bad", "(Z)Z"⟩ : MethodName)) ∈ TT := TT_of 384 (by decide +kernel) rfl
theorem w_386 : (Jvm.Cond.instanceMethod (⟨"DiagramBenchModel", "bad", "(Z)Z"⟩ : MethodName)) ∈ TT := TT_of 386 (by decide +kernel) rfl
theorem w_387 : (Jvm.Cond.code (⟨"DiagramBenchModel", "bad", "(Z)Z"⟩ : MethodName) prog_4_method_3_code 2 (Option.some Jvm.ClassFile.FieldType.boolean)) ∈ TT := TT_of 387 rfl rfl
theorem w_388 : (Jvm.Cond.methodLink "DiagramBenchLaw" 80 (⟨"DiagramBenchModel", "only", "(II)V"⟩ : MethodName)) ∈ TT := TT_of 388 (by decide +kernel) rfl
theorem w_389 : (Jvm.Cond.instanceMethod (⟨"DiagramBenchModel", "only", "(II)V"⟩ : MethodName)) ∈ TT := TT_of 389 (by decide +kernel) rfl
theorem w_390 : (Jvm.Cond.selects "DiagramBenchModel" (⟨"DiagramBenchModel", "only", "(II)V"⟩ : MethodName) (⟨"DiagramBenchModel", "only", "(II)V"⟩ : MethodName)) ∈ TT := TT_of 390 (by decide +kernel) rfl
theorem w_391 : (Jvm.Cond.code (⟨"DiagramBenchModel", "only", "(II)V"⟩ : MethodName) prog_4_method_9_code 4 (Option.none : Option Jvm.ClassFile.FieldType)) ∈ TT := TT_of 391 rfl rfl
theorem w_392 : (Jvm.Cond.methodLink "DiagramBenchModel" 46 (⟨"DiagramBenchModel", "beyond", "(I)Z"⟩ : MethodName)) ∈ TT := TT_of 392 (by decide +kernel) rfl
theorem w_393 : (Jvm.Cond.static (⟨"DiagramBenchModel", "beyond", "(I)Z"⟩ : MethodName)) ∈ TT := TT_of 393 (by decide +kernel) rfl
theorem w_394 : (Jvm.Cond.code (⟨"DiagramBenchModel", "beyond", "(I)Z"⟩ : MethodName) prog_4_method_6_code 1 (Option.some Jvm.ClassFile.FieldType.boolean)) ∈ TT := TT_of 394 rfl rfl
theorem w_395 : (Jvm.Cond.methodLink "DiagramBenchLaw" 84 (⟨"DiagramBenchModel", "join", "(IIII)V"⟩ : MethodName)) ∈ TT := TT_of 395 (by decide +kernel) rfl
theorem w_396 : (Jvm.Cond.instanceMethod (⟨"DiagramBenchModel", "join", "(IIII)V"⟩ : MethodName)) ∈ TT := TT_of 396 (by decide +kernel) rfl
theorem w_397 : (Jvm.Cond.selects "DiagramBenchModel" (⟨"DiagramBenchModel", "join", "(IIII)V"⟩ : MethodName) (⟨"DiagramBenchModel", "join", "(IIII)V"⟩ : MethodName)) ∈ TT := TT_of 397 (by decide +kernel) rfl
theorem w_398 : (Jvm.Cond.code (⟨"DiagramBenchModel", "join", "(IIII)V"⟩ : MethodName) prog_4_method_10_code 8 (Option.none : Option Jvm.ClassFile.FieldType)) ∈ TT := TT_of 398 rfl rfl
theorem w_399 : (Jvm.Cond.methodLink "DiagramBenchModel" 49 (⟨"DiagramBenchModel", "keep", "(I)V"⟩ : MethodName)) ∈ TT := TT_of 399 (by decide +kernel) rfl
theorem w_401 : (Jvm.Cond.instanceMethod (⟨"DiagramBenchModel", "keep", "(I)V"⟩ : MethodName)) ∈ TT := TT_of 401 (by decide +kernel) rfl
theorem w_402 : (Jvm.Cond.code (⟨"DiagramBenchModel", "keep", "(I)V"⟩ : MethodName) prog_4_method_7_code 2 (Option.none : Option Jvm.ClassFile.FieldType)) ∈ TT := TT_of 402 rfl rfl
theorem w_403 : (Jvm.Cond.methodLink "DiagramBenchModel" 29 (⟨"java/lang/System", "arraycopy", "(Ljava/lang/Object;ILjava/lang/Object;II)V"⟩ : MethodName)) ∈ TT := TT_of 403 (by decide +kernel) rfl
theorem w_404 : (Jvm.Cond.methodLink "DiagramBenchLaw" 87 (⟨"DiagramBenchModel", "choose", "(IIII)V"⟩ : MethodName)) ∈ TT := TT_of 404 (by decide +kernel) rfl
theorem w_405 : (Jvm.Cond.instanceMethod (⟨"DiagramBenchModel", "choose", "(IIII)V"⟩ : MethodName)) ∈ TT := TT_of 405 (by decide +kernel) rfl
theorem w_406 : (Jvm.Cond.selects "DiagramBenchModel" (⟨"DiagramBenchModel", "choose", "(IIII)V"⟩ : MethodName) (⟨"DiagramBenchModel", "choose", "(IIII)V"⟩ : MethodName)) ∈ TT := TT_of 406 (by decide +kernel) rfl
theorem w_407 : (Jvm.Cond.code (⟨"DiagramBenchModel", "choose", "(IIII)V"⟩ : MethodName) prog_4_method_11_code 6 (Option.none : Option Jvm.ClassFile.FieldType)) ∈ TT := TT_of 407 rfl rfl
theorem w_408 : (Jvm.Cond.methodLink "DiagramBenchLaw" 91 (⟨"DiagramBenchModel", "cut", "(IIIZ)V"⟩ : MethodName)) ∈ TT := TT_of 408 (by decide +kernel) rfl
theorem w_409 : (Jvm.Cond.instanceMethod (⟨"DiagramBenchModel", "cut", "(IIIZ)V"⟩ : MethodName)) ∈ TT := TT_of 409 (by decide +kernel) rfl
theorem w_410 : (Jvm.Cond.selects "DiagramBenchModel" (⟨"DiagramBenchModel", "cut", "(IIIZ)V"⟩ : MethodName) (⟨"DiagramBenchModel", "cut", "(IIIZ)V"⟩ : MethodName)) ∈ TT := TT_of 410 (by decide +kernel) rfl
theorem w_411 : (Jvm.Cond.code (⟨"DiagramBenchModel", "cut", "(IIIZ)V"⟩ : MethodName) prog_4_method_12_code 6 (Option.none : Option Jvm.ClassFile.FieldType)) ∈ TT := TT_of 411 rfl rfl
theorem w_412 : (Jvm.Cond.methodLink "DiagramBenchLaw" 94 (⟨"DiagramBenchModel", "put", "(IIII)V"⟩ : MethodName)) ∈ TT := TT_of 412 (by decide +kernel) rfl
theorem w_413 : (Jvm.Cond.instanceMethod (⟨"DiagramBenchModel", "put", "(IIII)V"⟩ : MethodName)) ∈ TT := TT_of 413 (by decide +kernel) rfl
theorem w_414 : (Jvm.Cond.selects "DiagramBenchModel" (⟨"DiagramBenchModel", "put", "(IIII)V"⟩ : MethodName) (⟨"DiagramBenchModel", "put", "(IIII)V"⟩ : MethodName)) ∈ TT := TT_of 414 (by decide +kernel) rfl
theorem w_415 : (Jvm.Cond.code (⟨"DiagramBenchModel", "put", "(IIII)V"⟩ : MethodName) prog_4_method_13_code 6 (Option.none : Option Jvm.ClassFile.FieldType)) ∈ TT := TT_of 415 rfl rfl
theorem w_416 : (Jvm.Cond.methodLink "DiagramBenchLaw" 97 (⟨"DiagramBenchModel", "bound", "(IIIZ)V"⟩ : MethodName)) ∈ TT := TT_of 416 (by decide +kernel) rfl
theorem w_417 : (Jvm.Cond.instanceMethod (⟨"DiagramBenchModel", "bound", "(IIIZ)V"⟩ : MethodName)) ∈ TT := TT_of 417 (by decide +kernel) rfl
theorem w_418 : (Jvm.Cond.selects "DiagramBenchModel" (⟨"DiagramBenchModel", "bound", "(IIIZ)V"⟩ : MethodName) (⟨"DiagramBenchModel", "bound", "(IIIZ)V"⟩ : MethodName)) ∈ TT := TT_of 418 (by decide +kernel) rfl
theorem w_419 : (Jvm.Cond.code (⟨"DiagramBenchModel", "bound", "(IIIZ)V"⟩ : MethodName) prog_4_method_14_code 8 (Option.none : Option Jvm.ClassFile.FieldType)) ∈ TT := TT_of 419 rfl rfl
theorem w_420 : (Jvm.Cond.methodLink "DiagramBenchLaw" 100 (⟨"DiagramBenchModel", "swap", "(IIII)V"⟩ : MethodName)) ∈ TT := TT_of 420 (by decide +kernel) rfl
theorem w_421 : (Jvm.Cond.instanceMethod (⟨"DiagramBenchModel", "swap", "(IIII)V"⟩ : MethodName)) ∈ TT := TT_of 421 (by decide +kernel) rfl
theorem w_422 : (Jvm.Cond.selects "DiagramBenchModel" (⟨"DiagramBenchModel", "swap", "(IIII)V"⟩ : MethodName) (⟨"DiagramBenchModel", "swap", "(IIII)V"⟩ : MethodName)) ∈ TT := TT_of 422 (by decide +kernel) rfl
theorem w_423 : (Jvm.Cond.code (⟨"DiagramBenchModel", "swap", "(IIII)V"⟩ : MethodName) prog_4_method_15_code 8 (Option.none : Option Jvm.ClassFile.FieldType)) ∈ TT := TT_of 423 rfl rfl
theorem w_424 : (Jvm.Cond.methodLink "DiagramBenchLaw" 104 (⟨"DiagramBenchModel", "is", "(II)Z"⟩ : MethodName)) ∈ TT := TT_of 424 (by decide +kernel) rfl
theorem w_425 : (Jvm.Cond.instanceMethod (⟨"DiagramBenchModel", "is", "(II)Z"⟩ : MethodName)) ∈ TT := TT_of 425 (by decide +kernel) rfl
theorem w_426 : (Jvm.Cond.selects "DiagramBenchModel" (⟨"DiagramBenchModel", "is", "(II)Z"⟩ : MethodName) (⟨"DiagramBenchModel", "is", "(II)Z"⟩ : MethodName)) ∈ TT := TT_of 426 (by decide +kernel) rfl
theorem w_427 : (Jvm.Cond.code (⟨"DiagramBenchModel", "is", "(II)Z"⟩ : MethodName) prog_4_method_16_code 3 (Option.some Jvm.ClassFile.FieldType.boolean)) ∈ TT := TT_of 427 rfl rfl
theorem w_428 : (Jvm.Cond.methodLink "DiagramBenchLaw" 108 (⟨"DiagramBenchModel", "ways", "(I)I"⟩ : MethodName)) ∈ TT := TT_of 428 (by decide +kernel) rfl
theorem w_429 : (Jvm.Cond.instanceMethod (⟨"DiagramBenchModel", "ways", "(I)I"⟩ : MethodName)) ∈ TT := TT_of 429 (by decide +kernel) rfl
theorem w_430 : (Jvm.Cond.selects "DiagramBenchModel" (⟨"DiagramBenchModel", "ways", "(I)I"⟩ : MethodName) (⟨"DiagramBenchModel", "ways", "(I)I"⟩ : MethodName)) ∈ TT := TT_of 430 (by decide +kernel) rfl
theorem w_431 : (Jvm.Cond.code (⟨"DiagramBenchModel", "ways", "(I)I"⟩ : MethodName) prog_4_method_17_code 4 (Option.some Jvm.ClassFile.FieldType.int)) ∈ TT := TT_of 431 rfl rfl
theorem w_432 : (Jvm.Cond.methodLink "DiagramBenchLaw" 111 (⟨"DiagramBenchModel", "first", "(I)I"⟩ : MethodName)) ∈ TT := TT_of 432 (by decide +kernel) rfl
theorem w_433 : (Jvm.Cond.instanceMethod (⟨"DiagramBenchModel", "first", "(I)I"⟩ : MethodName)) ∈ TT := TT_of 433 (by decide +kernel) rfl
theorem w_434 : (Jvm.Cond.selects "DiagramBenchModel" (⟨"DiagramBenchModel", "first", "(I)I"⟩ : MethodName) (⟨"DiagramBenchModel", "first", "(I)I"⟩ : MethodName)) ∈ TT := TT_of 434 (by decide +kernel) rfl
theorem w_435 : (Jvm.Cond.code (⟨"DiagramBenchModel", "first", "(I)I"⟩ : MethodName) prog_4_method_19_code 4 (Option.some Jvm.ClassFile.FieldType.int)) ∈ TT := TT_of 435 rfl rfl
theorem w_436 : (Jvm.Cond.methodLink "DiagramBenchModel" 53 (⟨"DiagramBenchModel", "turned", "(I)I"⟩ : MethodName)) ∈ TT := TT_of 436 (by decide +kernel) rfl
theorem w_437 : (Jvm.Cond.static (⟨"DiagramBenchModel", "turned", "(I)I"⟩ : MethodName)) ∈ TT := TT_of 437 (by decide +kernel) rfl
theorem w_438 : (Jvm.Cond.code (⟨"DiagramBenchModel", "turned", "(I)I"⟩ : MethodName) prog_4_method_18_code 3 (Option.some Jvm.ClassFile.FieldType.int)) ∈ TT := TT_of 438 rfl rfl
theorem w_439 : (Jvm.Cond.methodLink "DiagramBenchModel" 57 (⟨"java/lang/Math", "max", "(II)I"⟩ : MethodName)) ∈ TT := TT_of 439 (by decide +kernel) rfl
theorem w_440 : (Jvm.Cond.static (⟨"java/lang/Math", "max", "(II)I"⟩ : MethodName)) ∈ TT := TT_of 440 (by decide +kernel) rfl
theorem w_441 : (Jvm.Cond.code (⟨"java/lang/Math", "max", "(II)I"⟩ : MethodName) prog_8_method_65_code 2 (Option.some Jvm.ClassFile.FieldType.int)) ∈ TT := TT_of 441 rfl rfl
theorem w_442 : (Jvm.Cond.methodLink "DiagramBenchLaw" 114 (⟨"DiagramBenchModel", "hangs", "(I)I"⟩ : MethodName)) ∈ TT := TT_of 442 (by decide +kernel) rfl
theorem w_443 : (Jvm.Cond.instanceMethod (⟨"DiagramBenchModel", "hangs", "(I)I"⟩ : MethodName)) ∈ TT := TT_of 443 (by decide +kernel) rfl
theorem w_444 : (Jvm.Cond.selects "DiagramBenchModel" (⟨"DiagramBenchModel", "hangs", "(I)I"⟩ : MethodName) (⟨"DiagramBenchModel", "hangs", "(I)I"⟩ : MethodName)) ∈ TT := TT_of 444 (by decide +kernel) rfl
theorem w_445 : (Jvm.Cond.code (⟨"DiagramBenchModel", "hangs", "(I)I"⟩ : MethodName) prog_4_method_20_code 5 (Option.some Jvm.ClassFile.FieldType.int)) ∈ TT := TT_of 445 rfl rfl
theorem w_446 : (Jvm.Cond.methodLink "DiagramBenchLaw" 117 (⟨"DiagramBenchModel", "same", "(II)Z"⟩ : MethodName)) ∈ TT := TT_of 446 (by decide +kernel) rfl
theorem w_447 : (Jvm.Cond.instanceMethod (⟨"DiagramBenchModel", "same", "(II)Z"⟩ : MethodName)) ∈ TT := TT_of 447 (by decide +kernel) rfl
theorem w_448 : (Jvm.Cond.selects "DiagramBenchModel" (⟨"DiagramBenchModel", "same", "(II)Z"⟩ : MethodName) (⟨"DiagramBenchModel", "same", "(II)Z"⟩ : MethodName)) ∈ TT := TT_of 448 (by decide +kernel) rfl
theorem w_449 : (Jvm.Cond.code (⟨"DiagramBenchModel", "same", "(II)Z"⟩ : MethodName) prog_4_method_21_code 4 (Option.some Jvm.ClassFile.FieldType.boolean)) ∈ TT := TT_of 449 rfl rfl
theorem w_450 : (Jvm.Cond.methodLink "DiagramBenchLaw" 120 (⟨"DiagramBenchModel", "parts", "(I)I"⟩ : MethodName)) ∈ TT := TT_of 450 (by decide +kernel) rfl
theorem w_451 : (Jvm.Cond.instanceMethod (⟨"DiagramBenchModel", "parts", "(I)I"⟩ : MethodName)) ∈ TT := TT_of 451 (by decide +kernel) rfl
theorem w_452 : (Jvm.Cond.selects "DiagramBenchModel" (⟨"DiagramBenchModel", "parts", "(I)I"⟩ : MethodName) (⟨"DiagramBenchModel", "parts", "(I)I"⟩ : MethodName)) ∈ TT := TT_of 452 (by decide +kernel) rfl
theorem w_453 : (Jvm.Cond.code (⟨"DiagramBenchModel", "parts", "(I)I"⟩ : MethodName) prog_4_method_25_code 2 (Option.some Jvm.ClassFile.FieldType.int)) ∈ TT := TT_of 453 rfl rfl
theorem w_454 : (Jvm.Cond.methodLink "DiagramBenchModel" 71 (⟨"DiagramBenchModel", "count", "(II)I"⟩ : MethodName)) ∈ TT := TT_of 454 (by decide +kernel) rfl
theorem w_456 : (Jvm.Cond.instanceMethod (⟨"DiagramBenchModel", "count", "(II)I"⟩ : MethodName)) ∈ TT := TT_of 456 (by decide +kernel) rfl
theorem w_457 : (Jvm.Cond.code (⟨"DiagramBenchModel", "count", "(II)I"⟩ : MethodName) prog_4_method_24_code 9 (Option.some Jvm.ClassFile.FieldType.int)) ∈ TT := TT_of 457 rfl rfl
theorem w_458 : (Jvm.Cond.methodLink "DiagramBenchModel" 63 (⟨"DiagramBenchModel", "hangsOn", "(III)Z"⟩ : MethodName)) ∈ TT := TT_of 458 (by decide +kernel) rfl
theorem w_460 : (Jvm.Cond.instanceMethod (⟨"DiagramBenchModel", "hangsOn", "(III)Z"⟩ : MethodName)) ∈ TT := TT_of 460 (by decide +kernel) rfl
theorem w_461 : (Jvm.Cond.code (⟨"DiagramBenchModel", "hangsOn", "(III)Z"⟩ : MethodName) prog_4_method_22_code 5 (Option.some Jvm.ClassFile.FieldType.boolean)) ∈ TT := TT_of 461 rfl rfl
theorem w_462 : (Jvm.Cond.methodLink "DiagramBenchModel" 67 (⟨"DiagramBenchModel", "alike", "(IIIII)Z"⟩ : MethodName)) ∈ TT := TT_of 462 (by decide +kernel) rfl
theorem w_464 : (Jvm.Cond.instanceMethod (⟨"DiagramBenchModel", "alike", "(IIIII)Z"⟩ : MethodName)) ∈ TT := TT_of 464 (by decide +kernel) rfl
theorem w_465 : (Jvm.Cond.code (⟨"DiagramBenchModel", "alike", "(IIIII)Z"⟩ : MethodName) prog_4_method_23_code 7 (Option.some Jvm.ClassFile.FieldType.boolean)) ∈ TT := TT_of 465 rfl rfl
theorem w_466 : (Jvm.Cond.methodLink "DiagramBenchLaw" 123 (⟨"DiagramBenchModel", "together", "(II)I"⟩ : MethodName)) ∈ TT := TT_of 466 (by decide +kernel) rfl
theorem w_467 : (Jvm.Cond.instanceMethod (⟨"DiagramBenchModel", "together", "(II)I"⟩ : MethodName)) ∈ TT := TT_of 467 (by decide +kernel) rfl
theorem w_468 : (Jvm.Cond.selects "DiagramBenchModel" (⟨"DiagramBenchModel", "together", "(II)I"⟩ : MethodName) (⟨"DiagramBenchModel", "together", "(II)I"⟩ : MethodName)) ∈ TT := TT_of 468 (by decide +kernel) rfl
theorem w_469 : (Jvm.Cond.code (⟨"DiagramBenchModel", "together", "(II)I"⟩ : MethodName) prog_4_method_26_code 3 (Option.some Jvm.ClassFile.FieldType.int)) ∈ TT := TT_of 469 rfl rfl
theorem w_470 : (Jvm.Cond.sameMethod "java/lang/Throwable" "java/lang/Throwable" "fillInStackTrace" "(I)Ljava/lang/Throwable;") ∈ TT := TT_of 470 (by decide +kernel) rfl
theorem in_D {wd : Cond} : ∀ w ∈ u_ws R_D F_D 4, w ∈ wd :: TT := by
  intro w hw
  obtain ⟨k, hk, rfl⟩ := List.mem_map.mp hw
  have hk := List.mem_range.mp hk
  rcases (show k = 0 ∨ k = 1 ∨ k = 2 ∨ k = 3 by omega) with rfl | rfl | rfl | rfl
  · exact List.mem_cons_of_mem _ w_46
  · exact List.mem_cons_of_mem _ w_48
  · exact List.mem_cons_of_mem _ w_50
  · exact List.mem_cons_of_mem _ w_52
theorem in_G {wd : Cond} : ∀ w ∈ u_ws R_G F_G 3, w ∈ wd :: TT := by
  intro w hw
  obtain ⟨k, hk, rfl⟩ := List.mem_map.mp hw
  have hk := List.mem_range.mp hk
  rcases (show k = 0 ∨ k = 1 ∨ k = 2 by omega) with rfl | rfl | rfl
  · exact List.mem_cons_of_mem _ w_33
  · exact List.mem_cons_of_mem _ w_35
  · exact List.mem_cons_of_mem _ w_37
theorem in_M {wd : Cond} : ∀ w ∈ u_ws R_M F_M 5, w ∈ wd :: TT := by
  intro w hw
  obtain ⟨k, hk, rfl⟩ := List.mem_map.mp hw
  have hk := List.mem_range.mp hk
  rcases (show k = 0 ∨ k = 1 ∨ k = 2 ∨ k = 3 ∨ k = 4 by omega) with rfl | rfl | rfl | rfl | rfl
  · exact List.mem_cons_of_mem _ w_358
  · exact List.mem_cons_of_mem _ w_360
  · exact List.mem_cons_of_mem _ w_362
  · exact List.mem_cons_of_mem _ w_364
  · exact List.mem_cons_of_mem _ w_366
def tp (v : Nat) : Int64 := match v with
  | 0 => -6148914691236517206
  | 1 => -3689348814741910324
  | 2 => -1085102592571150096
  | 3 => -71777214294589696
  | 4 => -281470681808896
  | _ => -4294967296
def tpV (v : Nat) : Value := .long (tp v)
def strs : List (String × Nat × String) := [("DiagramBench", 126, "no such register"), ("DiagramBench", 128, "no such variable"), ("DiagramBench", 130, "no such assignment"), ("DiagramBench", 134, "no such kind"), ("DiagramBench", 132, "no such set"), ("DiagramBench", 104, "true for no assignment"), ("DiagramBench", 123, "no such range of registers")]
/-- words of the tables that a call doesn't hand on by itself -/
def nws : List Cond := [(Jvm.Cond.methodLinkNest "DiagramBench" 23 (⟨"DiagramBench$Diagram", "<init>", "()V"⟩ : MethodName) "DiagramBench"), (Jvm.Cond.fieldLinkNest "DiagramBench" 148 "DiagramBench$Diagram" "nodeCount" "I" "DiagramBench"), (Jvm.Cond.castable "java/lang/IllegalArgumentException" "java/lang/IllegalArgumentException"), (Jvm.Cond.declares (⟨"java/lang/RuntimeException", "<init>", "()V"⟩ : MethodName)), (Jvm.Cond.declares (⟨"java/lang/RuntimeException", "<init>", "(Ljava/lang/String;)V"⟩ : MethodName)), (Jvm.Cond.declares (⟨"java/lang/Exception", "<init>", "()V"⟩ : MethodName)), (Jvm.Cond.declares (⟨"java/lang/Exception", "<init>", "(Ljava/lang/String;)V"⟩ : MethodName)), (Jvm.Cond.declares (⟨"java/lang/Throwable", "<init>", "()V"⟩ : MethodName)), (Jvm.Cond.declares (⟨"java/lang/Throwable", "<init>", "(Ljava/lang/String;)V"⟩ : MethodName)), (Jvm.Cond.castable "java/util/NoSuchElementException" "java/util/NoSuchElementException"), (Jvm.Cond.methodLinkNest "DiagramBench" 141 (⟨"DiagramBench$Diagram", "clear", "()V"⟩ : MethodName) "DiagramBench"), (Jvm.Cond.methodLinkNest "DiagramBench" 144 (⟨"DiagramBench$Diagram", "take", "([J)V"⟩ : MethodName) "DiagramBench"), (Jvm.Cond.methodLinkNest "DiagramBench$Diagram" 28 (⟨"DiagramBench", "bitOf", "([JI)I"⟩ : MethodName) "DiagramBench")]
theorem nws_warm {s U : State} (hW : s.WarmedH U.vm) (h : ∀ w ∈ nws, va_Nw w s) : ∀ w ∈ nws, va_Nw w U := by
  intro w hw
  have h9 := h w hw
  simp only [nws, List.mem_cons, List.not_mem_nil, or_false] at hw
  rcases hw with rfl | rfl | rfl | rfl | rfl | rfl | rfl | rfl | rfl | rfl | rfl | rfl | rfl
  · exact va_Nw.warmM hW h9
  · exact va_Nw.warmF hW h9
  · exact va_Nw.warmC hW h9
  · exact va_Nw.warmD hW h9
  · exact va_Nw.warmD hW h9
  · exact va_Nw.warmD hW h9
  · exact va_Nw.warmD hW h9
  · exact va_Nw.warmD hW h9
  · exact va_Nw.warmD hW h9
  · exact va_Nw.warmC hW h9
  · exact va_Nw.warmM hW h9
  · exact va_Nw.warmM hW h9
  · exact va_Nw.warmM hW h9
theorem nws_same {u U : State} (hv : u.vm = U.vm) (h : ∀ w ∈ nws, va_Nw w u) : ∀ w ∈ nws, va_Nw w U := by
  intro w hw
  have h9 := h w hw
  have ht : w.onTables = true := by
    simp only [nws, List.mem_cons, List.not_mem_nil, or_false] at hw
    rcases hw with rfl | rfl | rfl | rfl | rfl | rfl | rfl | rfl | rfl | rfl | rfl | rfl | rfl <;> rfl
  exact va_Nw.same ht hv h9
abbrev b_D_init : ByteArray := prog_1_method_1_code
abbrev y_D_init : MethodName := ⟨"DiagramBench", "<init>", "()V"⟩
theorem wc_D_init : Cond.code y_D_init b_D_init 1 none ∈ TT := w_17
theorem hd_D_init : y_D_init.cls ≠ "java/lang/invoke/MethodHandle" ∧ y_D_init.cls ≠ "java/lang/invoke/VarHandle" ∧ (parseMethodDescriptor y_D_init.desc).map (fun d => d.parameters.length) = some 0 := by decide +kernel
abbrev b_D_variable : ByteArray := prog_1_method_2_code
abbrev y_D_variable : MethodName := ⟨"DiagramBench", "variable", "(II)V"⟩
theorem wc_D_variable : Cond.code y_D_variable b_D_variable 4 none ∈ TT := w_62
theorem hd_D_variable : y_D_variable.cls ≠ "java/lang/invoke/MethodHandle" ∧ y_D_variable.cls ≠ "java/lang/invoke/VarHandle" ∧ (parseMethodDescriptor y_D_variable.desc).map (fun d => d.parameters.length) = some 2 := by decide +kernel
abbrev b_D_only : ByteArray := prog_1_method_3_code
abbrev y_D_only : MethodName := ⟨"DiagramBench", "only", "(II)V"⟩
theorem wc_D_only : Cond.code y_D_only b_D_only 3 none ∈ TT := w_152
theorem hd_D_only : y_D_only.cls ≠ "java/lang/invoke/MethodHandle" ∧ y_D_only.cls ≠ "java/lang/invoke/VarHandle" ∧ (parseMethodDescriptor y_D_only.desc).map (fun d => d.parameters.length) = some 2 := by decide +kernel
abbrev b_D_join : ByteArray := prog_1_method_4_code
abbrev y_D_join : MethodName := ⟨"DiagramBench", "join", "(IIII)V"⟩
theorem wc_D_join : Cond.code y_D_join b_D_join 6 none ∈ TT := w_166
theorem hd_D_join : y_D_join.cls ≠ "java/lang/invoke/MethodHandle" ∧ y_D_join.cls ≠ "java/lang/invoke/VarHandle" ∧ (parseMethodDescriptor y_D_join.desc).map (fun d => d.parameters.length) = some 4 := by decide +kernel
abbrev b_D_choose : ByteArray := prog_1_method_5_code
abbrev y_D_choose : MethodName := ⟨"DiagramBench", "choose", "(IIII)V"⟩
theorem wc_D_choose : Cond.code y_D_choose b_D_choose 6 none ∈ TT := w_180
theorem hd_D_choose : y_D_choose.cls ≠ "java/lang/invoke/MethodHandle" ∧ y_D_choose.cls ≠ "java/lang/invoke/VarHandle" ∧ (parseMethodDescriptor y_D_choose.desc).map (fun d => d.parameters.length) = some 4 := by decide +kernel
abbrev b_D_cut : ByteArray := prog_1_method_6_code
abbrev y_D_cut : MethodName := ⟨"DiagramBench", "cut", "(IIIZ)V"⟩
theorem wc_D_cut : Cond.code y_D_cut b_D_cut 6 none ∈ TT := w_190
theorem hd_D_cut : y_D_cut.cls ≠ "java/lang/invoke/MethodHandle" ∧ y_D_cut.cls ≠ "java/lang/invoke/VarHandle" ∧ (parseMethodDescriptor y_D_cut.desc).map (fun d => d.parameters.length) = some 4 := by decide +kernel
abbrev b_D_put : ByteArray := prog_1_method_7_code
abbrev y_D_put : MethodName := ⟨"DiagramBench", "put", "(IIII)V"⟩
theorem wc_D_put : Cond.code y_D_put b_D_put 10 none ∈ TT := w_210
theorem hd_D_put : y_D_put.cls ≠ "java/lang/invoke/MethodHandle" ∧ y_D_put.cls ≠ "java/lang/invoke/VarHandle" ∧ (parseMethodDescriptor y_D_put.desc).map (fun d => d.parameters.length) = some 4 := by decide +kernel
abbrev b_D_bound : ByteArray := prog_1_method_8_code
abbrev y_D_bound : MethodName := ⟨"DiagramBench", "bound", "(IIIZ)V"⟩
theorem wc_D_bound : Cond.code y_D_bound b_D_bound 6 none ∈ TT := w_217
theorem hd_D_bound : y_D_bound.cls ≠ "java/lang/invoke/MethodHandle" ∧ y_D_bound.cls ≠ "java/lang/invoke/VarHandle" ∧ (parseMethodDescriptor y_D_bound.desc).map (fun d => d.parameters.length) = some 4 := by decide +kernel
abbrev b_D_swap : ByteArray := prog_1_method_9_code
abbrev y_D_swap : MethodName := ⟨"DiagramBench", "swap", "(IIII)V"⟩
theorem wc_D_swap : Cond.code y_D_swap b_D_swap 8 none ∈ TT := w_232
theorem hd_D_swap : y_D_swap.cls ≠ "java/lang/invoke/MethodHandle" ∧ y_D_swap.cls ≠ "java/lang/invoke/VarHandle" ∧ (parseMethodDescriptor y_D_swap.desc).map (fun d => d.parameters.length) = some 4 := by decide +kernel
abbrev b_D_is : ByteArray := prog_1_method_10_code
abbrev y_D_is : MethodName := ⟨"DiagramBench", "is", "(II)Z"⟩
theorem wc_D_is : Cond.code y_D_is b_D_is 3 (some .boolean) ∈ TT := w_239
theorem hd_D_is : y_D_is.cls ≠ "java/lang/invoke/MethodHandle" ∧ y_D_is.cls ≠ "java/lang/invoke/VarHandle" ∧ (parseMethodDescriptor y_D_is.desc).map (fun d => d.parameters.length) = some 2 := by decide +kernel
abbrev b_D_ways : ByteArray := prog_1_method_11_code
abbrev y_D_ways : MethodName := ⟨"DiagramBench", "ways", "(I)I"⟩
theorem wc_D_ways : Cond.code y_D_ways b_D_ways 4 (some .int) ∈ TT := w_249
theorem hd_D_ways : y_D_ways.cls ≠ "java/lang/invoke/MethodHandle" ∧ y_D_ways.cls ≠ "java/lang/invoke/VarHandle" ∧ (parseMethodDescriptor y_D_ways.desc).map (fun d => d.parameters.length) = some 1 := by decide +kernel
abbrev b_D_first : ByteArray := prog_1_method_12_code
abbrev y_D_first : MethodName := ⟨"DiagramBench", "first", "(I)I"⟩
theorem wc_D_first : Cond.code y_D_first b_D_first 4 (some .int) ∈ TT := w_263
theorem hd_D_first : y_D_first.cls ≠ "java/lang/invoke/MethodHandle" ∧ y_D_first.cls ≠ "java/lang/invoke/VarHandle" ∧ (parseMethodDescriptor y_D_first.desc).map (fun d => d.parameters.length) = some 1 := by decide +kernel
abbrev b_D_hangs : ByteArray := prog_1_method_13_code
abbrev y_D_hangs : MethodName := ⟨"DiagramBench", "hangs", "(I)I"⟩
theorem wc_D_hangs : Cond.code y_D_hangs b_D_hangs 4 (some .int) ∈ TT := w_294
theorem hd_D_hangs : y_D_hangs.cls ≠ "java/lang/invoke/MethodHandle" ∧ y_D_hangs.cls ≠ "java/lang/invoke/VarHandle" ∧ (parseMethodDescriptor y_D_hangs.desc).map (fun d => d.parameters.length) = some 1 := by decide +kernel
abbrev b_D_same : ByteArray := prog_1_method_14_code
abbrev y_D_same : MethodName := ⟨"DiagramBench", "same", "(II)Z"⟩
theorem wc_D_same : Cond.code y_D_same b_D_same 4 (some .boolean) ∈ TT := w_304
theorem hd_D_same : y_D_same.cls ≠ "java/lang/invoke/MethodHandle" ∧ y_D_same.cls ≠ "java/lang/invoke/VarHandle" ∧ (parseMethodDescriptor y_D_same.desc).map (fun d => d.parameters.length) = some 2 := by decide +kernel
abbrev b_D_parts : ByteArray := prog_1_method_15_code
abbrev y_D_parts : MethodName := ⟨"DiagramBench", "parts", "(I)I"⟩
theorem wc_D_parts : Cond.code y_D_parts b_D_parts 2 (some .int) ∈ TT := w_311
theorem hd_D_parts : y_D_parts.cls ≠ "java/lang/invoke/MethodHandle" ∧ y_D_parts.cls ≠ "java/lang/invoke/VarHandle" ∧ (parseMethodDescriptor y_D_parts.desc).map (fun d => d.parameters.length) = some 1 := by decide +kernel
abbrev b_D_together : ByteArray := prog_1_method_16_code
abbrev y_D_together : MethodName := ⟨"DiagramBench", "together", "(II)I"⟩
theorem wc_D_together : Cond.code y_D_together b_D_together 3 (some .int) ∈ TT := w_343
theorem hd_D_together : y_D_together.cls ≠ "java/lang/invoke/MethodHandle" ∧ y_D_together.cls ≠ "java/lang/invoke/VarHandle" ∧ (parseMethodDescriptor y_D_together.desc).map (fun d => d.parameters.length) = some 2 := by decide +kernel
abbrev b_D_checkRegister : ByteArray := prog_1_method_17_code
abbrev y_D_checkRegister : MethodName := ⟨"DiagramBench", "checkRegister", "(I)V"⟩
theorem wc_D_checkRegister : Cond.code y_D_checkRegister b_D_checkRegister 1 none ∈ TT := w_65
theorem hd_D_checkRegister : y_D_checkRegister.cls ≠ "java/lang/invoke/MethodHandle" ∧ y_D_checkRegister.cls ≠ "java/lang/invoke/VarHandle" ∧ (parseMethodDescriptor y_D_checkRegister.desc).map (fun d => d.parameters.length) = some 1 := by decide +kernel
abbrev b_D_checkVariable : ByteArray := prog_1_method_18_code
abbrev y_D_checkVariable : MethodName := ⟨"DiagramBench", "checkVariable", "(I)V"⟩
theorem wc_D_checkVariable : Cond.code y_D_checkVariable b_D_checkVariable 1 none ∈ TT := w_135
theorem hd_D_checkVariable : y_D_checkVariable.cls ≠ "java/lang/invoke/MethodHandle" ∧ y_D_checkVariable.cls ≠ "java/lang/invoke/VarHandle" ∧ (parseMethodDescriptor y_D_checkVariable.desc).map (fun d => d.parameters.length) = some 1 := by decide +kernel
abbrev b_D_checkAssignment : ByteArray := prog_1_method_19_code
abbrev y_D_checkAssignment : MethodName := ⟨"DiagramBench", "checkAssignment", "(I)V"⟩
theorem wc_D_checkAssignment : Cond.code y_D_checkAssignment b_D_checkAssignment 1 none ∈ TT := w_155
theorem hd_D_checkAssignment : y_D_checkAssignment.cls ≠ "java/lang/invoke/MethodHandle" ∧ y_D_checkAssignment.cls ≠ "java/lang/invoke/VarHandle" ∧ (parseMethodDescriptor y_D_checkAssignment.desc).map (fun d => d.parameters.length) = some 1 := by decide +kernel
abbrev b_D_checkSet : ByteArray := prog_1_method_20_code
abbrev y_D_checkSet : MethodName := ⟨"DiagramBench", "checkSet", "(I)V"⟩
theorem wc_D_checkSet : Cond.code y_D_checkSet b_D_checkSet 1 none ∈ TT := w_220
theorem hd_D_checkSet : y_D_checkSet.cls ≠ "java/lang/invoke/MethodHandle" ∧ y_D_checkSet.cls ≠ "java/lang/invoke/VarHandle" ∧ (parseMethodDescriptor y_D_checkSet.desc).map (fun d => d.parameters.length) = some 1 := by decide +kernel
abbrev b_D_checkKind : ByteArray := prog_1_method_21_code
abbrev y_D_checkKind : MethodName := ⟨"DiagramBench", "checkKind", "(I)V"⟩
theorem wc_D_checkKind : Cond.code y_D_checkKind b_D_checkKind 1 none ∈ TT := w_169
theorem hd_D_checkKind : y_D_checkKind.cls ≠ "java/lang/invoke/MethodHandle" ∧ y_D_checkKind.cls ≠ "java/lang/invoke/VarHandle" ∧ (parseMethodDescriptor y_D_checkKind.desc).map (fun d => d.parameters.length) = some 1 := by decide +kernel
abbrev b_D_isIn : ByteArray := prog_1_method_22_code
abbrev y_D_isIn : MethodName := ⟨"DiagramBench", "isIn", "(II)Z"⟩
theorem wc_D_isIn : Cond.code y_D_isIn b_D_isIn 2 (some .boolean) ∈ TT := w_144
theorem hd_D_isIn : y_D_isIn.cls ≠ "java/lang/invoke/MethodHandle" ∧ y_D_isIn.cls ≠ "java/lang/invoke/VarHandle" ∧ (parseMethodDescriptor y_D_isIn.desc).map (fun d => d.parameters.length) = some 2 := by decide +kernel
abbrev b_D_bitOf : ByteArray := prog_1_method_23_code
abbrev y_D_bitOf : MethodName := ⟨"DiagramBench", "bitOf", "([JI)I"⟩
theorem wc_D_bitOf : Cond.code y_D_bitOf b_D_bitOf 4 (some .int) ∈ TT := w_242
theorem hd_D_bitOf : y_D_bitOf.cls ≠ "java/lang/invoke/MethodHandle" ∧ y_D_bitOf.cls ≠ "java/lang/invoke/VarHandle" ∧ (parseMethodDescriptor y_D_bitOf.desc).map (fun d => d.parameters.length) = some 2 := by decide +kernel
abbrev b_D_joinedWord : ByteArray := prog_1_method_24_code
abbrev y_D_joinedWord : MethodName := ⟨"DiagramBench", "joinedWord", "(IJJ)J"⟩
theorem wc_D_joinedWord : Cond.code y_D_joinedWord b_D_joinedWord 5 (some .long) ∈ TT := w_173
theorem hd_D_joinedWord : y_D_joinedWord.cls ≠ "java/lang/invoke/MethodHandle" ∧ y_D_joinedWord.cls ≠ "java/lang/invoke/VarHandle" ∧ (parseMethodDescriptor y_D_joinedWord.desc).map (fun d => d.parameters.length) = some 3 := by decide +kernel
abbrev b_D_chosenWord : ByteArray := prog_1_method_25_code
abbrev y_D_chosenWord : MethodName := ⟨"DiagramBench", "chosenWord", "(JJJ)J"⟩
theorem wc_D_chosenWord : Cond.code y_D_chosenWord b_D_chosenWord 6 (some .long) ∈ TT := w_183
theorem hd_D_chosenWord : y_D_chosenWord.cls ≠ "java/lang/invoke/MethodHandle" ∧ y_D_chosenWord.cls ≠ "java/lang/invoke/VarHandle" ∧ (parseMethodDescriptor y_D_chosenWord.desc).map (fun d => d.parameters.length) = some 3 := by decide +kernel
abbrev b_D_variableWord : ByteArray := prog_1_method_26_code
abbrev y_D_variableWord : MethodName := ⟨"DiagramBench", "variableWord", "(II)J"⟩
theorem wc_D_variableWord : Cond.code y_D_variableWord b_D_variableWord 2 (some .long) ∈ TT := w_139
theorem hd_D_variableWord : y_D_variableWord.cls ≠ "java/lang/invoke/MethodHandle" ∧ y_D_variableWord.cls ≠ "java/lang/invoke/VarHandle" ∧ (parseMethodDescriptor y_D_variableWord.desc).map (fun d => d.parameters.length) = some 2 := by decide +kernel
abbrev b_D_turnedWord : ByteArray := prog_1_method_27_code
abbrev y_D_turnedWord : MethodName := ⟨"DiagramBench", "turnedWord", "([JII)J"⟩
theorem wc_D_turnedWord : Cond.code y_D_turnedWord b_D_turnedWord 6 (some .long) ∈ TT := w_196
theorem hd_D_turnedWord : y_D_turnedWord.cls ≠ "java/lang/invoke/MethodHandle" ∧ y_D_turnedWord.cls ≠ "java/lang/invoke/VarHandle" ∧ (parseMethodDescriptor y_D_turnedWord.desc).map (fun d => d.parameters.length) = some 3 := by decide +kernel
abbrev b_D_fixedWord : ByteArray := prog_1_method_28_code
abbrev y_D_fixedWord : MethodName := ⟨"DiagramBench", "fixedWord", "([JIZI)J"⟩
theorem wc_D_fixedWord : Cond.code y_D_fixedWord b_D_fixedWord 6 (some .long) ∈ TT := w_193
theorem hd_D_fixedWord : y_D_fixedWord.cls ≠ "java/lang/invoke/MethodHandle" ∧ y_D_fixedWord.cls ≠ "java/lang/invoke/VarHandle" ∧ (parseMethodDescriptor y_D_fixedWord.desc).map (fun d => d.parameters.length) = some 4 := by decide +kernel
abbrev b_D_hangsOn : ByteArray := prog_1_method_29_code
abbrev y_D_hangsOn : MethodName := ⟨"DiagramBench", "hangsOn", "([JI)Z"⟩
theorem wc_D_hangsOn : Cond.code y_D_hangsOn b_D_hangsOn 3 (some .boolean) ∈ TT := w_297
theorem hd_D_hangsOn : y_D_hangsOn.cls ≠ "java/lang/invoke/MethodHandle" ∧ y_D_hangsOn.cls ≠ "java/lang/invoke/VarHandle" ∧ (parseMethodDescriptor y_D_hangsOn.desc).map (fun d => d.parameters.length) = some 2 := by decide +kernel
abbrev b_D_store : ByteArray := prog_1_method_30_code
abbrev y_D_store : MethodName := ⟨"DiagramBench", "store", "([JI)V"⟩
theorem wc_D_store : Cond.code y_D_store b_D_store 3 none ∈ TT := w_200
theorem hd_D_store : y_D_store.cls ≠ "java/lang/invoke/MethodHandle" ∧ y_D_store.cls ≠ "java/lang/invoke/VarHandle" ∧ (parseMethodDescriptor y_D_store.desc).map (fun d => d.parameters.length) = some 2 := by decide +kernel
abbrev b_D_bindWork : ByteArray := prog_1_method_31_code
abbrev y_D_bindWork : MethodName := ⟨"DiagramBench", "bindWork", "(IZ)V"⟩
theorem wc_D_bindWork : Cond.code y_D_bindWork b_D_bindWork 6 none ∈ TT := w_225
theorem hd_D_bindWork : y_D_bindWork.cls ≠ "java/lang/invoke/MethodHandle" ∧ y_D_bindWork.cls ≠ "java/lang/invoke/VarHandle" ∧ (parseMethodDescriptor y_D_bindWork.desc).map (fun d => d.parameters.length) = some 2 := by decide +kernel
abbrev b_D_isEmptyWork : ByteArray := prog_1_method_32_code
abbrev y_D_isEmptyWork : MethodName := ⟨"DiagramBench", "isEmptyWork", "()Z"⟩
theorem wc_D_isEmptyWork : Cond.code y_D_isEmptyWork b_D_isEmptyWork 2 (some .boolean) ∈ TT := w_267
theorem hd_D_isEmptyWork : y_D_isEmptyWork.cls ≠ "java/lang/invoke/MethodHandle" ∧ y_D_isEmptyWork.cls ≠ "java/lang/invoke/VarHandle" ∧ (parseMethodDescriptor y_D_isEmptyWork.desc).map (fun d => d.parameters.length) = some 0 := by decide +kernel
abbrev b_D_narrowWorkToFalse : ByteArray := prog_1_method_33_code
abbrev y_D_narrowWorkToFalse : MethodName := ⟨"DiagramBench", "narrowWorkToFalse", "(I)Z"⟩
theorem wc_D_narrowWorkToFalse : Cond.code y_D_narrowWorkToFalse b_D_narrowWorkToFalse 5 (some .boolean) ∈ TT := w_287
theorem hd_D_narrowWorkToFalse : y_D_narrowWorkToFalse.cls ≠ "java/lang/invoke/MethodHandle" ∧ y_D_narrowWorkToFalse.cls ≠ "java/lang/invoke/VarHandle" ∧ (parseMethodDescriptor y_D_narrowWorkToFalse.desc).map (fun d => d.parameters.length) = some 1 := by decide +kernel
abbrev b_D_countNodes : ByteArray := prog_1_method_34_code
abbrev y_D_countNodes : MethodName := ⟨"DiagramBench", "countNodes", "(II)I"⟩
theorem wc_D_countNodes : Cond.code y_D_countNodes b_D_countNodes 4 (some .int) ∈ TT := w_315
theorem hd_D_countNodes : y_D_countNodes.cls ≠ "java/lang/invoke/MethodHandle" ∧ y_D_countNodes.cls ≠ "java/lang/invoke/VarHandle" ∧ (parseMethodDescriptor y_D_countNodes.desc).map (fun d => d.parameters.length) = some 2 := by decide +kernel
abbrev b_M_init : ByteArray := prog_4_method_1_code
abbrev y_M_init : MethodName := ⟨"DiagramBenchModel", "<init>", "()V"⟩
theorem wc_M_init : Cond.code y_M_init b_M_init 1 none ∈ TT := w_349
theorem hd_M_init : y_M_init.cls ≠ "java/lang/invoke/MethodHandle" ∧ y_M_init.cls ≠ "java/lang/invoke/VarHandle" ∧ (parseMethodDescriptor y_M_init.desc).map (fun d => d.parameters.length) = some 0 := by decide +kernel
abbrev b_M_thrown : ByteArray := prog_4_method_2_code
abbrev y_M_thrown : MethodName := ⟨"DiagramBenchModel", "thrown", "()I"⟩
theorem wc_M_thrown : Cond.code y_M_thrown b_M_thrown 1 (some .int) ∈ TT := w_373
theorem hd_M_thrown : y_M_thrown.cls ≠ "java/lang/invoke/MethodHandle" ∧ y_M_thrown.cls ≠ "java/lang/invoke/VarHandle" ∧ (parseMethodDescriptor y_M_thrown.desc).map (fun d => d.parameters.length) = some 0 := by decide +kernel
abbrev b_M_bad : ByteArray := prog_4_method_3_code
abbrev y_M_bad : MethodName := ⟨"DiagramBenchModel", "bad", "(Z)Z"⟩
theorem wc_M_bad : Cond.code y_M_bad b_M_bad 2 (some .boolean) ∈ TT := w_387
theorem hd_M_bad : y_M_bad.cls ≠ "java/lang/invoke/MethodHandle" ∧ y_M_bad.cls ≠ "java/lang/invoke/VarHandle" ∧ (parseMethodDescriptor y_M_bad.desc).map (fun d => d.parameters.length) = some 1 := by decide +kernel
abbrev b_M_none : ByteArray := prog_4_method_4_code
abbrev y_M_none : MethodName := ⟨"DiagramBenchModel", "none", "(I)Z"⟩
theorem wc_M_none : Cond.code y_M_none b_M_none 1 (some .boolean) ∈ TT := w_380
theorem hd_M_none : y_M_none.cls ≠ "java/lang/invoke/MethodHandle" ∧ y_M_none.cls ≠ "java/lang/invoke/VarHandle" ∧ (parseMethodDescriptor y_M_none.desc).map (fun d => d.parameters.length) = some 1 := by decide +kernel
abbrev b_M_outside : ByteArray := prog_4_method_5_code
abbrev y_M_outside : MethodName := ⟨"DiagramBenchModel", "outside", "(I)Z"⟩
theorem wc_M_outside : Cond.code y_M_outside b_M_outside 1 (some .boolean) ∈ TT := w_383
theorem hd_M_outside : y_M_outside.cls ≠ "java/lang/invoke/MethodHandle" ∧ y_M_outside.cls ≠ "java/lang/invoke/VarHandle" ∧ (parseMethodDescriptor y_M_outside.desc).map (fun d => d.parameters.length) = some 1 := by decide +kernel
abbrev b_M_beyond : ByteArray := prog_4_method_6_code
abbrev y_M_beyond : MethodName := ⟨"DiagramBenchModel", "beyond", "(I)Z"⟩
theorem wc_M_beyond : Cond.code y_M_beyond b_M_beyond 1 (some .boolean) ∈ TT := w_394
theorem hd_M_beyond : y_M_beyond.cls ≠ "java/lang/invoke/MethodHandle" ∧ y_M_beyond.cls ≠ "java/lang/invoke/VarHandle" ∧ (parseMethodDescriptor y_M_beyond.desc).map (fun d => d.parameters.length) = some 1 := by decide +kernel
abbrev b_M_keep : ByteArray := prog_4_method_7_code
abbrev y_M_keep : MethodName := ⟨"DiagramBenchModel", "keep", "(I)V"⟩
theorem wc_M_keep : Cond.code y_M_keep b_M_keep 2 none ∈ TT := w_402
theorem hd_M_keep : y_M_keep.cls ≠ "java/lang/invoke/MethodHandle" ∧ y_M_keep.cls ≠ "java/lang/invoke/VarHandle" ∧ (parseMethodDescriptor y_M_keep.desc).map (fun d => d.parameters.length) = some 1 := by decide +kernel
abbrev b_M_variable : ByteArray := prog_4_method_8_code
abbrev y_M_variable : MethodName := ⟨"DiagramBenchModel", "variable", "(II)V"⟩
theorem wc_M_variable : Cond.code y_M_variable b_M_variable 4 none ∈ TT := w_377
theorem hd_M_variable : y_M_variable.cls ≠ "java/lang/invoke/MethodHandle" ∧ y_M_variable.cls ≠ "java/lang/invoke/VarHandle" ∧ (parseMethodDescriptor y_M_variable.desc).map (fun d => d.parameters.length) = some 2 := by decide +kernel
abbrev b_M_only : ByteArray := prog_4_method_9_code
abbrev y_M_only : MethodName := ⟨"DiagramBenchModel", "only", "(II)V"⟩
theorem wc_M_only : Cond.code y_M_only b_M_only 4 none ∈ TT := w_391
theorem hd_M_only : y_M_only.cls ≠ "java/lang/invoke/MethodHandle" ∧ y_M_only.cls ≠ "java/lang/invoke/VarHandle" ∧ (parseMethodDescriptor y_M_only.desc).map (fun d => d.parameters.length) = some 2 := by decide +kernel
abbrev b_M_join : ByteArray := prog_4_method_10_code
abbrev y_M_join : MethodName := ⟨"DiagramBenchModel", "join", "(IIII)V"⟩
theorem wc_M_join : Cond.code y_M_join b_M_join 8 none ∈ TT := w_398
theorem hd_M_join : y_M_join.cls ≠ "java/lang/invoke/MethodHandle" ∧ y_M_join.cls ≠ "java/lang/invoke/VarHandle" ∧ (parseMethodDescriptor y_M_join.desc).map (fun d => d.parameters.length) = some 4 := by decide +kernel
abbrev b_M_choose : ByteArray := prog_4_method_11_code
abbrev y_M_choose : MethodName := ⟨"DiagramBenchModel", "choose", "(IIII)V"⟩
theorem wc_M_choose : Cond.code y_M_choose b_M_choose 6 none ∈ TT := w_407
theorem hd_M_choose : y_M_choose.cls ≠ "java/lang/invoke/MethodHandle" ∧ y_M_choose.cls ≠ "java/lang/invoke/VarHandle" ∧ (parseMethodDescriptor y_M_choose.desc).map (fun d => d.parameters.length) = some 4 := by decide +kernel
abbrev b_M_cut : ByteArray := prog_4_method_12_code
abbrev y_M_cut : MethodName := ⟨"DiagramBenchModel", "cut", "(IIIZ)V"⟩
theorem wc_M_cut : Cond.code y_M_cut b_M_cut 6 none ∈ TT := w_411
theorem hd_M_cut : y_M_cut.cls ≠ "java/lang/invoke/MethodHandle" ∧ y_M_cut.cls ≠ "java/lang/invoke/VarHandle" ∧ (parseMethodDescriptor y_M_cut.desc).map (fun d => d.parameters.length) = some 4 := by decide +kernel
abbrev b_M_put : ByteArray := prog_4_method_13_code
abbrev y_M_put : MethodName := ⟨"DiagramBenchModel", "put", "(IIII)V"⟩
theorem wc_M_put : Cond.code y_M_put b_M_put 6 none ∈ TT := w_415
theorem hd_M_put : y_M_put.cls ≠ "java/lang/invoke/MethodHandle" ∧ y_M_put.cls ≠ "java/lang/invoke/VarHandle" ∧ (parseMethodDescriptor y_M_put.desc).map (fun d => d.parameters.length) = some 4 := by decide +kernel
abbrev b_M_bound : ByteArray := prog_4_method_14_code
abbrev y_M_bound : MethodName := ⟨"DiagramBenchModel", "bound", "(IIIZ)V"⟩
theorem wc_M_bound : Cond.code y_M_bound b_M_bound 8 none ∈ TT := w_419
theorem hd_M_bound : y_M_bound.cls ≠ "java/lang/invoke/MethodHandle" ∧ y_M_bound.cls ≠ "java/lang/invoke/VarHandle" ∧ (parseMethodDescriptor y_M_bound.desc).map (fun d => d.parameters.length) = some 4 := by decide +kernel
abbrev b_M_swap : ByteArray := prog_4_method_15_code
abbrev y_M_swap : MethodName := ⟨"DiagramBenchModel", "swap", "(IIII)V"⟩
theorem wc_M_swap : Cond.code y_M_swap b_M_swap 8 none ∈ TT := w_423
theorem hd_M_swap : y_M_swap.cls ≠ "java/lang/invoke/MethodHandle" ∧ y_M_swap.cls ≠ "java/lang/invoke/VarHandle" ∧ (parseMethodDescriptor y_M_swap.desc).map (fun d => d.parameters.length) = some 4 := by decide +kernel
abbrev b_M_is : ByteArray := prog_4_method_16_code
abbrev y_M_is : MethodName := ⟨"DiagramBenchModel", "is", "(II)Z"⟩
theorem wc_M_is : Cond.code y_M_is b_M_is 3 (some .boolean) ∈ TT := w_427
theorem hd_M_is : y_M_is.cls ≠ "java/lang/invoke/MethodHandle" ∧ y_M_is.cls ≠ "java/lang/invoke/VarHandle" ∧ (parseMethodDescriptor y_M_is.desc).map (fun d => d.parameters.length) = some 2 := by decide +kernel
abbrev b_M_ways : ByteArray := prog_4_method_17_code
abbrev y_M_ways : MethodName := ⟨"DiagramBenchModel", "ways", "(I)I"⟩
theorem wc_M_ways : Cond.code y_M_ways b_M_ways 4 (some .int) ∈ TT := w_431
theorem hd_M_ways : y_M_ways.cls ≠ "java/lang/invoke/MethodHandle" ∧ y_M_ways.cls ≠ "java/lang/invoke/VarHandle" ∧ (parseMethodDescriptor y_M_ways.desc).map (fun d => d.parameters.length) = some 1 := by decide +kernel
abbrev b_M_turned : ByteArray := prog_4_method_18_code
abbrev y_M_turned : MethodName := ⟨"DiagramBenchModel", "turned", "(I)I"⟩
theorem wc_M_turned : Cond.code y_M_turned b_M_turned 3 (some .int) ∈ TT := w_438
theorem hd_M_turned : y_M_turned.cls ≠ "java/lang/invoke/MethodHandle" ∧ y_M_turned.cls ≠ "java/lang/invoke/VarHandle" ∧ (parseMethodDescriptor y_M_turned.desc).map (fun d => d.parameters.length) = some 1 := by decide +kernel
abbrev b_M_first : ByteArray := prog_4_method_19_code
abbrev y_M_first : MethodName := ⟨"DiagramBenchModel", "first", "(I)I"⟩
theorem wc_M_first : Cond.code y_M_first b_M_first 4 (some .int) ∈ TT := w_435
theorem hd_M_first : y_M_first.cls ≠ "java/lang/invoke/MethodHandle" ∧ y_M_first.cls ≠ "java/lang/invoke/VarHandle" ∧ (parseMethodDescriptor y_M_first.desc).map (fun d => d.parameters.length) = some 1 := by decide +kernel
abbrev b_M_hangs : ByteArray := prog_4_method_20_code
abbrev y_M_hangs : MethodName := ⟨"DiagramBenchModel", "hangs", "(I)I"⟩
theorem wc_M_hangs : Cond.code y_M_hangs b_M_hangs 5 (some .int) ∈ TT := w_445
theorem hd_M_hangs : y_M_hangs.cls ≠ "java/lang/invoke/MethodHandle" ∧ y_M_hangs.cls ≠ "java/lang/invoke/VarHandle" ∧ (parseMethodDescriptor y_M_hangs.desc).map (fun d => d.parameters.length) = some 1 := by decide +kernel
abbrev b_M_same : ByteArray := prog_4_method_21_code
abbrev y_M_same : MethodName := ⟨"DiagramBenchModel", "same", "(II)Z"⟩
theorem wc_M_same : Cond.code y_M_same b_M_same 4 (some .boolean) ∈ TT := w_449
theorem hd_M_same : y_M_same.cls ≠ "java/lang/invoke/MethodHandle" ∧ y_M_same.cls ≠ "java/lang/invoke/VarHandle" ∧ (parseMethodDescriptor y_M_same.desc).map (fun d => d.parameters.length) = some 2 := by decide +kernel
abbrev b_M_hangsOn : ByteArray := prog_4_method_22_code
abbrev y_M_hangsOn : MethodName := ⟨"DiagramBenchModel", "hangsOn", "(III)Z"⟩
theorem wc_M_hangsOn : Cond.code y_M_hangsOn b_M_hangsOn 5 (some .boolean) ∈ TT := w_461
theorem hd_M_hangsOn : y_M_hangsOn.cls ≠ "java/lang/invoke/MethodHandle" ∧ y_M_hangsOn.cls ≠ "java/lang/invoke/VarHandle" ∧ (parseMethodDescriptor y_M_hangsOn.desc).map (fun d => d.parameters.length) = some 3 := by decide +kernel
abbrev b_M_alike : ByteArray := prog_4_method_23_code
abbrev y_M_alike : MethodName := ⟨"DiagramBenchModel", "alike", "(IIIII)Z"⟩
theorem wc_M_alike : Cond.code y_M_alike b_M_alike 7 (some .boolean) ∈ TT := w_465
theorem hd_M_alike : y_M_alike.cls ≠ "java/lang/invoke/MethodHandle" ∧ y_M_alike.cls ≠ "java/lang/invoke/VarHandle" ∧ (parseMethodDescriptor y_M_alike.desc).map (fun d => d.parameters.length) = some 5 := by decide +kernel
abbrev b_M_count : ByteArray := prog_4_method_24_code
abbrev y_M_count : MethodName := ⟨"DiagramBenchModel", "count", "(II)I"⟩
theorem wc_M_count : Cond.code y_M_count b_M_count 9 (some .int) ∈ TT := w_457
theorem hd_M_count : y_M_count.cls ≠ "java/lang/invoke/MethodHandle" ∧ y_M_count.cls ≠ "java/lang/invoke/VarHandle" ∧ (parseMethodDescriptor y_M_count.desc).map (fun d => d.parameters.length) = some 2 := by decide +kernel
abbrev b_M_parts : ByteArray := prog_4_method_25_code
abbrev y_M_parts : MethodName := ⟨"DiagramBenchModel", "parts", "(I)I"⟩
theorem wc_M_parts : Cond.code y_M_parts b_M_parts 2 (some .int) ∈ TT := w_453
theorem hd_M_parts : y_M_parts.cls ≠ "java/lang/invoke/MethodHandle" ∧ y_M_parts.cls ≠ "java/lang/invoke/VarHandle" ∧ (parseMethodDescriptor y_M_parts.desc).map (fun d => d.parameters.length) = some 1 := by decide +kernel
abbrev b_M_together : ByteArray := prog_4_method_26_code
abbrev y_M_together : MethodName := ⟨"DiagramBenchModel", "together", "(II)I"⟩
theorem wc_M_together : Cond.code y_M_together b_M_together 3 (some .int) ∈ TT := w_469
theorem hd_M_together : y_M_together.cls ≠ "java/lang/invoke/MethodHandle" ∧ y_M_together.cls ≠ "java/lang/invoke/VarHandle" ∧ (parseMethodDescriptor y_M_together.desc).map (fun d => d.parameters.length) = some 2 := by decide +kernel
abbrev b_G_init : ByteArray := prog_2_method_1_code
abbrev y_G_init : MethodName := ⟨"DiagramBench$Diagram", "<init>", "()V"⟩
theorem wc_G_init : Cond.code y_G_init b_G_init 1 none ∈ TT := w_27
theorem hd_G_init : y_G_init.cls ≠ "java/lang/invoke/MethodHandle" ∧ y_G_init.cls ≠ "java/lang/invoke/VarHandle" ∧ (parseMethodDescriptor y_G_init.desc).map (fun d => d.parameters.length) = some 0 := by decide +kernel
abbrev b_G_clear : ByteArray := prog_2_method_2_code
abbrev y_G_clear : MethodName := ⟨"DiagramBench$Diagram", "clear", "()V"⟩
theorem wc_G_clear : Cond.code y_G_clear b_G_clear 1 none ∈ TT := w_319
theorem hd_G_clear : y_G_clear.cls ≠ "java/lang/invoke/MethodHandle" ∧ y_G_clear.cls ≠ "java/lang/invoke/VarHandle" ∧ (parseMethodDescriptor y_G_clear.desc).map (fun d => d.parameters.length) = some 0 := by decide +kernel
abbrev b_G_take : ByteArray := prog_2_method_3_code
abbrev y_G_take : MethodName := ⟨"DiagramBench$Diagram", "take", "([J)V"⟩
theorem wc_G_take : Cond.code y_G_take b_G_take 5 none ∈ TT := w_326
theorem hd_G_take : y_G_take.cls ≠ "java/lang/invoke/MethodHandle" ∧ y_G_take.cls ≠ "java/lang/invoke/VarHandle" ∧ (parseMethodDescriptor y_G_take.desc).map (fun d => d.parameters.length) = some 1 := by decide +kernel
abbrev b_G_nameOf : ByteArray := prog_2_method_4_code
abbrev y_G_nameOf : MethodName := ⟨"DiagramBench$Diagram", "nameOf", "(III)I"⟩
theorem wc_G_nameOf : Cond.code y_G_nameOf b_G_nameOf 5 (some .int) ∈ TT := w_331
theorem hd_G_nameOf : y_G_nameOf.cls ≠ "java/lang/invoke/MethodHandle" ∧ y_G_nameOf.cls ≠ "java/lang/invoke/VarHandle" ∧ (parseMethodDescriptor y_G_nameOf.desc).map (fun d => d.parameters.length) = some 3 := by decide +kernel
abbrev b_G_slotOf : ByteArray := prog_2_method_5_code
abbrev y_G_slotOf : MethodName := ⟨"DiagramBench$Diagram", "slotOf", "(I)I"⟩
theorem wc_G_slotOf : Cond.code y_G_slotOf b_G_slotOf 4 (some .int) ∈ TT := w_335
theorem hd_G_slotOf : y_G_slotOf.cls ≠ "java/lang/invoke/MethodHandle" ∧ y_G_slotOf.cls ≠ "java/lang/invoke/VarHandle" ∧ (parseMethodDescriptor y_G_slotOf.desc).map (fun d => d.parameters.length) = some 1 := by decide +kernel
abbrev b_L_variable : ByteArray := method_3_code
abbrev y_L_variable : MethodName := ⟨"DiagramBenchLaw", "variable", "(LDiagramBench;II)I"⟩
theorem hd_L_variable : y_L_variable.cls ≠ "java/lang/invoke/MethodHandle" ∧ y_L_variable.cls ≠ "java/lang/invoke/VarHandle" ∧ (parseMethodDescriptor y_L_variable.desc).map (fun d => d.parameters.length) = some 3 := by decide +kernel
abbrev b_L_only : ByteArray := method_4_code
abbrev y_L_only : MethodName := ⟨"DiagramBenchLaw", "only", "(LDiagramBench;II)I"⟩
theorem hd_L_only : y_L_only.cls ≠ "java/lang/invoke/MethodHandle" ∧ y_L_only.cls ≠ "java/lang/invoke/VarHandle" ∧ (parseMethodDescriptor y_L_only.desc).map (fun d => d.parameters.length) = some 3 := by decide +kernel
abbrev b_L_join : ByteArray := method_5_code
abbrev y_L_join : MethodName := ⟨"DiagramBenchLaw", "join", "(LDiagramBench;IIII)I"⟩
theorem hd_L_join : y_L_join.cls ≠ "java/lang/invoke/MethodHandle" ∧ y_L_join.cls ≠ "java/lang/invoke/VarHandle" ∧ (parseMethodDescriptor y_L_join.desc).map (fun d => d.parameters.length) = some 5 := by decide +kernel
abbrev b_L_choose : ByteArray := method_6_code
abbrev y_L_choose : MethodName := ⟨"DiagramBenchLaw", "choose", "(LDiagramBench;IIII)I"⟩
theorem hd_L_choose : y_L_choose.cls ≠ "java/lang/invoke/MethodHandle" ∧ y_L_choose.cls ≠ "java/lang/invoke/VarHandle" ∧ (parseMethodDescriptor y_L_choose.desc).map (fun d => d.parameters.length) = some 5 := by decide +kernel
abbrev b_L_cut : ByteArray := method_7_code
abbrev y_L_cut : MethodName := ⟨"DiagramBenchLaw", "cut", "(LDiagramBench;IIIZ)I"⟩
theorem hd_L_cut : y_L_cut.cls ≠ "java/lang/invoke/MethodHandle" ∧ y_L_cut.cls ≠ "java/lang/invoke/VarHandle" ∧ (parseMethodDescriptor y_L_cut.desc).map (fun d => d.parameters.length) = some 5 := by decide +kernel
abbrev b_L_put : ByteArray := method_8_code
abbrev y_L_put : MethodName := ⟨"DiagramBenchLaw", "put", "(LDiagramBench;IIII)I"⟩
theorem hd_L_put : y_L_put.cls ≠ "java/lang/invoke/MethodHandle" ∧ y_L_put.cls ≠ "java/lang/invoke/VarHandle" ∧ (parseMethodDescriptor y_L_put.desc).map (fun d => d.parameters.length) = some 5 := by decide +kernel
abbrev b_L_bound : ByteArray := method_9_code
abbrev y_L_bound : MethodName := ⟨"DiagramBenchLaw", "bound", "(LDiagramBench;IIIZ)I"⟩
theorem hd_L_bound : y_L_bound.cls ≠ "java/lang/invoke/MethodHandle" ∧ y_L_bound.cls ≠ "java/lang/invoke/VarHandle" ∧ (parseMethodDescriptor y_L_bound.desc).map (fun d => d.parameters.length) = some 5 := by decide +kernel
abbrev b_L_swap : ByteArray := method_10_code
abbrev y_L_swap : MethodName := ⟨"DiagramBenchLaw", "swap", "(LDiagramBench;IIII)I"⟩
theorem hd_L_swap : y_L_swap.cls ≠ "java/lang/invoke/MethodHandle" ∧ y_L_swap.cls ≠ "java/lang/invoke/VarHandle" ∧ (parseMethodDescriptor y_L_swap.desc).map (fun d => d.parameters.length) = some 5 := by decide +kernel
abbrev b_L_is : ByteArray := method_11_code
abbrev y_L_is : MethodName := ⟨"DiagramBenchLaw", "is", "(LDiagramBench;II[J)I"⟩
theorem hd_L_is : y_L_is.cls ≠ "java/lang/invoke/MethodHandle" ∧ y_L_is.cls ≠ "java/lang/invoke/VarHandle" ∧ (parseMethodDescriptor y_L_is.desc).map (fun d => d.parameters.length) = some 4 := by decide +kernel
abbrev b_L_ways : ByteArray := method_12_code
abbrev y_L_ways : MethodName := ⟨"DiagramBenchLaw", "ways", "(LDiagramBench;I[J)I"⟩
theorem hd_L_ways : y_L_ways.cls ≠ "java/lang/invoke/MethodHandle" ∧ y_L_ways.cls ≠ "java/lang/invoke/VarHandle" ∧ (parseMethodDescriptor y_L_ways.desc).map (fun d => d.parameters.length) = some 3 := by decide +kernel
abbrev b_L_first : ByteArray := method_13_code
abbrev y_L_first : MethodName := ⟨"DiagramBenchLaw", "first", "(LDiagramBench;I[J)I"⟩
theorem hd_L_first : y_L_first.cls ≠ "java/lang/invoke/MethodHandle" ∧ y_L_first.cls ≠ "java/lang/invoke/VarHandle" ∧ (parseMethodDescriptor y_L_first.desc).map (fun d => d.parameters.length) = some 3 := by decide +kernel
abbrev b_L_hangs : ByteArray := method_14_code
abbrev y_L_hangs : MethodName := ⟨"DiagramBenchLaw", "hangs", "(LDiagramBench;I[J)I"⟩
theorem hd_L_hangs : y_L_hangs.cls ≠ "java/lang/invoke/MethodHandle" ∧ y_L_hangs.cls ≠ "java/lang/invoke/VarHandle" ∧ (parseMethodDescriptor y_L_hangs.desc).map (fun d => d.parameters.length) = some 3 := by decide +kernel
abbrev b_L_same : ByteArray := method_15_code
abbrev y_L_same : MethodName := ⟨"DiagramBenchLaw", "same", "(LDiagramBench;II[J)I"⟩
theorem hd_L_same : y_L_same.cls ≠ "java/lang/invoke/MethodHandle" ∧ y_L_same.cls ≠ "java/lang/invoke/VarHandle" ∧ (parseMethodDescriptor y_L_same.desc).map (fun d => d.parameters.length) = some 4 := by decide +kernel
abbrev b_L_parts : ByteArray := method_16_code
abbrev y_L_parts : MethodName := ⟨"DiagramBenchLaw", "parts", "(LDiagramBench;I[J)I"⟩
theorem hd_L_parts : y_L_parts.cls ≠ "java/lang/invoke/MethodHandle" ∧ y_L_parts.cls ≠ "java/lang/invoke/VarHandle" ∧ (parseMethodDescriptor y_L_parts.desc).map (fun d => d.parameters.length) = some 3 := by decide +kernel
abbrev b_L_together : ByteArray := method_17_code
abbrev y_L_together : MethodName := ⟨"DiagramBenchLaw", "together", "(LDiagramBench;II[J)I"⟩
theorem hd_L_together : y_L_together.cls ≠ "java/lang/invoke/MethodHandle" ∧ y_L_together.cls ≠ "java/lang/invoke/VarHandle" ∧ (parseMethodDescriptor y_L_together.desc).map (fun d => d.parameters.length) = some 4 := by decide +kernel
abbrev b_J_bitCount : ByteArray := prog_7_method_50_code
abbrev y_J_bitCount : MethodName := ⟨"java/lang/Long", "bitCount", "(J)I"⟩
theorem wc_J_bitCount : Cond.code y_J_bitCount b_J_bitCount 2 (some .int) ∈ TT := w_252
theorem hd_J_bitCount : y_J_bitCount.cls ≠ "java/lang/invoke/MethodHandle" ∧ y_J_bitCount.cls ≠ "java/lang/invoke/VarHandle" ∧ (parseMethodDescriptor y_J_bitCount.desc).map (fun d => d.parameters.length) = some 1 := by decide +kernel
abbrev b_A_fillI : ByteArray := prog_13_method_103_code
abbrev y_A_fillI : MethodName := ⟨"java/util/Arrays", "fill", "([II)V"⟩
theorem wc_A_fillI : Cond.code y_A_fillI b_A_fillI 4 none ∈ TT := w_322
theorem hd_A_fillI : y_A_fillI.cls ≠ "java/lang/invoke/MethodHandle" ∧ y_A_fillI.cls ≠ "java/lang/invoke/VarHandle" ∧ (parseMethodDescriptor y_A_fillI.desc).map (fun d => d.parameters.length) = some 2 := by decide +kernel
abbrev b_A_fillJ : ByteArray := prog_13_method_101_code
abbrev y_A_fillJ : MethodName := ⟨"java/util/Arrays", "fill", "([JJ)V"⟩
theorem wc_A_fillJ : Cond.code y_A_fillJ b_A_fillJ 5 none ∈ TT := w_159
theorem hd_A_fillJ : y_A_fillJ.cls ≠ "java/lang/invoke/MethodHandle" ∧ y_A_fillJ.cls ≠ "java/lang/invoke/VarHandle" ∧ (parseMethodDescriptor y_A_fillJ.desc).map (fun d => d.parameters.length) = some 2 := by decide +kernel
end
section
theorem d_D_init_0 : decode b_D_init 0 = .ok (.aload_n 0, 1) := by decide +kernel
theorem d_D_init_1 : decode b_D_init 1 = .ok (.invokespecial 3, 3) := by decide +kernel
theorem d_D_init_4 : decode b_D_init 4 = .ok (.aload_n 0, 1) := by decide +kernel
theorem d_D_init_5 : decode b_D_init 5 = .ok (.bipush 16, 2) := by decide +kernel
theorem d_D_init_7 : decode b_D_init 7 = .ok (.bipush 16, 2) := by decide +kernel
theorem d_D_init_9 : decode b_D_init 9 = .ok (.multianewarray 9 2, 4) := by decide +kernel
theorem d_D_init_13 : decode b_D_init 13 = .ok (.putfield 11, 3) := by decide +kernel
theorem d_D_init_16 : decode b_D_init 16 = .ok (.aload_n 0, 1) := by decide +kernel
theorem d_D_init_17 : decode b_D_init 17 = .ok (.bipush 16, 2) := by decide +kernel
theorem d_D_init_19 : decode b_D_init 19 = .ok (.newarray .long, 2) := by decide +kernel
theorem d_D_init_21 : decode b_D_init 21 = .ok (.putfield 14, 3) := by decide +kernel
theorem d_D_init_24 : decode b_D_init 24 = .ok (.aload_n 0, 1) := by decide +kernel
theorem d_D_init_25 : decode b_D_init 25 = .ok (.bipush 16, 2) := by decide +kernel
theorem d_D_init_27 : decode b_D_init 27 = .ok (.newarray .long, 2) := by decide +kernel
theorem d_D_init_29 : decode b_D_init 29 = .ok (.putfield 18, 3) := by decide +kernel
theorem d_D_init_32 : decode b_D_init 32 = .ok (.aload_n 0, 1) := by decide +kernel
theorem d_D_init_33 : decode b_D_init 33 = .ok (.new 21, 3) := by decide +kernel
theorem d_D_init_36 : decode b_D_init 36 = .ok (.dup, 1) := by decide +kernel
theorem d_D_init_37 : decode b_D_init 37 = .ok (.invokespecial 23, 3) := by decide +kernel
theorem d_D_init_40 : decode b_D_init 40 = .ok (.putfield 24, 3) := by decide +kernel
theorem d_D_init_43 : decode b_D_init 43 = .ok (.return_, 1) := by decide +kernel
theorem d_D_variable_0 : decode b_D_variable 0 = .ok (.iload_n 1, 1) := by decide +kernel
theorem d_D_variable_1 : decode b_D_variable 1 = .ok (.invokestatic 28, 3) := by decide +kernel
theorem d_D_variable_4 : decode b_D_variable 4 = .ok (.iload_n 2, 1) := by decide +kernel
theorem d_D_variable_5 : decode b_D_variable 5 = .ok (.invokestatic 32, 3) := by decide +kernel
theorem d_D_variable_8 : decode b_D_variable 8 = .ok (.iconst 0, 1) := by decide +kernel
theorem d_D_variable_9 : decode b_D_variable 9 = .ok (.istore_n 3, 1) := by decide +kernel
theorem d_D_variable_10 : decode b_D_variable 10 = .ok (.iload_n 3, 1) := by decide +kernel
theorem d_D_variable_11 : decode b_D_variable 11 = .ok (.bipush 16, 2) := by decide +kernel
theorem d_D_variable_13 : decode b_D_variable 13 = .ok (.if_icmp .ge 22, 3) := by decide +kernel
theorem d_D_variable_16 : decode b_D_variable 16 = .ok (.aload_n 0, 1) := by decide +kernel
theorem d_D_variable_17 : decode b_D_variable 17 = .ok (.getfield 11, 3) := by decide +kernel
theorem d_D_variable_20 : decode b_D_variable 20 = .ok (.iload_n 1, 1) := by decide +kernel
theorem d_D_variable_21 : decode b_D_variable 21 = .ok (.aaload, 1) := by decide +kernel
theorem d_D_variable_22 : decode b_D_variable 22 = .ok (.iload_n 3, 1) := by decide +kernel
theorem d_D_variable_23 : decode b_D_variable 23 = .ok (.iload_n 2, 1) := by decide +kernel
theorem d_D_variable_24 : decode b_D_variable 24 = .ok (.iload_n 3, 1) := by decide +kernel
theorem d_D_variable_25 : decode b_D_variable 25 = .ok (.invokestatic 35, 3) := by decide +kernel
theorem d_D_variable_28 : decode b_D_variable 28 = .ok (.lastore, 1) := by decide +kernel
theorem d_D_variable_29 : decode b_D_variable 29 = .ok (.iinc 3 1, 3) := by decide +kernel
theorem d_D_variable_32 : decode b_D_variable 32 = .ok (.goto (-22), 3) := by decide +kernel
theorem d_D_variable_35 : decode b_D_variable 35 = .ok (.return_, 1) := by decide +kernel
theorem d_D_only_0 : decode b_D_only 0 = .ok (.iload_n 1, 1) := by decide +kernel
theorem d_D_only_1 : decode b_D_only 1 = .ok (.invokestatic 28, 3) := by decide +kernel
theorem d_D_only_4 : decode b_D_only 4 = .ok (.iload_n 2, 1) := by decide +kernel
theorem d_D_only_5 : decode b_D_only 5 = .ok (.invokestatic 39, 3) := by decide +kernel
theorem d_D_only_8 : decode b_D_only 8 = .ok (.aload_n 0, 1) := by decide +kernel
theorem d_D_only_9 : decode b_D_only 9 = .ok (.getfield 11, 3) := by decide +kernel
theorem d_D_only_12 : decode b_D_only 12 = .ok (.iload_n 1, 1) := by decide +kernel
theorem d_D_only_13 : decode b_D_only 13 = .ok (.aaload, 1) := by decide +kernel
theorem d_D_only_14 : decode b_D_only 14 = .ok (.lconst 0, 1) := by decide +kernel
theorem d_D_only_15 : decode b_D_only 15 = .ok (.invokestatic 42, 3) := by decide +kernel
theorem d_D_only_18 : decode b_D_only 18 = .ok (.aload_n 0, 1) := by decide +kernel
theorem d_D_only_19 : decode b_D_only 19 = .ok (.getfield 11, 3) := by decide +kernel
theorem d_D_only_22 : decode b_D_only 22 = .ok (.iload_n 1, 1) := by decide +kernel
theorem d_D_only_23 : decode b_D_only 23 = .ok (.aaload, 1) := by decide +kernel
theorem d_D_only_24 : decode b_D_only 24 = .ok (.iload_n 2, 1) := by decide +kernel
theorem d_D_only_25 : decode b_D_only 25 = .ok (.bipush 6, 2) := by decide +kernel
theorem d_D_only_27 : decode b_D_only 27 = .ok (.ishr, 1) := by decide +kernel
theorem d_D_only_28 : decode b_D_only 28 = .ok (.lconst 1, 1) := by decide +kernel
theorem d_D_only_29 : decode b_D_only 29 = .ok (.iload_n 2, 1) := by decide +kernel
theorem d_D_only_30 : decode b_D_only 30 = .ok (.bipush 63, 2) := by decide +kernel
theorem d_D_only_32 : decode b_D_only 32 = .ok (.iand, 1) := by decide +kernel
theorem d_D_only_33 : decode b_D_only 33 = .ok (.lshl, 1) := by decide +kernel
theorem d_D_only_34 : decode b_D_only 34 = .ok (.lastore, 1) := by decide +kernel
theorem d_D_only_35 : decode b_D_only 35 = .ok (.return_, 1) := by decide +kernel
theorem d_D_join_0 : decode b_D_join 0 = .ok (.iload_n 1, 1) := by decide +kernel
theorem d_D_join_1 : decode b_D_join 1 = .ok (.invokestatic 28, 3) := by decide +kernel
theorem d_D_join_4 : decode b_D_join 4 = .ok (.iload_n 2, 1) := by decide +kernel
theorem d_D_join_5 : decode b_D_join 5 = .ok (.invokestatic 48, 3) := by decide +kernel
theorem d_D_join_8 : decode b_D_join 8 = .ok (.iload_n 3, 1) := by decide +kernel
theorem d_D_join_9 : decode b_D_join 9 = .ok (.invokestatic 28, 3) := by decide +kernel
theorem d_D_join_12 : decode b_D_join 12 = .ok (.iload 4, 2) := by decide +kernel
theorem d_D_join_14 : decode b_D_join 14 = .ok (.invokestatic 28, 3) := by decide +kernel
theorem d_D_join_17 : decode b_D_join 17 = .ok (.iconst 0, 1) := by decide +kernel
theorem d_D_join_18 : decode b_D_join 18 = .ok (.istore 5, 2) := by decide +kernel
theorem d_D_join_20 : decode b_D_join 20 = .ok (.iload 5, 2) := by decide +kernel
theorem d_D_join_22 : decode b_D_join 22 = .ok (.bipush 16, 2) := by decide +kernel
theorem d_D_join_24 : decode b_D_join 24 = .ok (.if_icmp .ge 41, 3) := by decide +kernel
theorem d_D_join_27 : decode b_D_join 27 = .ok (.aload_n 0, 1) := by decide +kernel
theorem d_D_join_28 : decode b_D_join 28 = .ok (.getfield 11, 3) := by decide +kernel
theorem d_D_join_31 : decode b_D_join 31 = .ok (.iload_n 1, 1) := by decide +kernel
theorem d_D_join_32 : decode b_D_join 32 = .ok (.aaload, 1) := by decide +kernel
theorem d_D_join_33 : decode b_D_join 33 = .ok (.iload 5, 2) := by decide +kernel
theorem d_D_join_35 : decode b_D_join 35 = .ok (.iload_n 2, 1) := by decide +kernel
theorem d_D_join_36 : decode b_D_join 36 = .ok (.aload_n 0, 1) := by decide +kernel
theorem d_D_join_37 : decode b_D_join 37 = .ok (.getfield 11, 3) := by decide +kernel
theorem d_D_join_40 : decode b_D_join 40 = .ok (.iload_n 3, 1) := by decide +kernel
theorem d_D_join_41 : decode b_D_join 41 = .ok (.aaload, 1) := by decide +kernel
theorem d_D_join_42 : decode b_D_join 42 = .ok (.iload 5, 2) := by decide +kernel
theorem d_D_join_44 : decode b_D_join 44 = .ok (.laload, 1) := by decide +kernel
theorem d_D_join_45 : decode b_D_join 45 = .ok (.aload_n 0, 1) := by decide +kernel
theorem d_D_join_46 : decode b_D_join 46 = .ok (.getfield 11, 3) := by decide +kernel
theorem d_D_join_49 : decode b_D_join 49 = .ok (.iload 4, 2) := by decide +kernel
theorem d_D_join_51 : decode b_D_join 51 = .ok (.aaload, 1) := by decide +kernel
theorem d_D_join_52 : decode b_D_join 52 = .ok (.iload 5, 2) := by decide +kernel
theorem d_D_join_54 : decode b_D_join 54 = .ok (.laload, 1) := by decide +kernel
theorem d_D_join_55 : decode b_D_join 55 = .ok (.invokestatic 51, 3) := by decide +kernel
theorem d_D_join_58 : decode b_D_join 58 = .ok (.lastore, 1) := by decide +kernel
theorem d_D_join_59 : decode b_D_join 59 = .ok (.iinc 5 1, 3) := by decide +kernel
theorem d_D_join_62 : decode b_D_join 62 = .ok (.goto (-42), 3) := by decide +kernel
theorem d_D_join_65 : decode b_D_join 65 = .ok (.return_, 1) := by decide +kernel
theorem d_D_choose_0 : decode b_D_choose 0 = .ok (.iload_n 1, 1) := by decide +kernel
theorem d_D_choose_1 : decode b_D_choose 1 = .ok (.invokestatic 28, 3) := by decide +kernel
theorem d_D_choose_4 : decode b_D_choose 4 = .ok (.iload_n 2, 1) := by decide +kernel
theorem d_D_choose_5 : decode b_D_choose 5 = .ok (.invokestatic 28, 3) := by decide +kernel
theorem d_D_choose_8 : decode b_D_choose 8 = .ok (.iload_n 3, 1) := by decide +kernel
theorem d_D_choose_9 : decode b_D_choose 9 = .ok (.invokestatic 28, 3) := by decide +kernel
theorem d_D_choose_12 : decode b_D_choose 12 = .ok (.iload 4, 2) := by decide +kernel
theorem d_D_choose_14 : decode b_D_choose 14 = .ok (.invokestatic 28, 3) := by decide +kernel
theorem d_D_choose_17 : decode b_D_choose 17 = .ok (.iconst 0, 1) := by decide +kernel
theorem d_D_choose_18 : decode b_D_choose 18 = .ok (.istore 5, 2) := by decide +kernel
theorem d_D_choose_20 : decode b_D_choose 20 = .ok (.iload 5, 2) := by decide +kernel
theorem d_D_choose_22 : decode b_D_choose 22 = .ok (.bipush 16, 2) := by decide +kernel
theorem d_D_choose_24 : decode b_D_choose 24 = .ok (.if_icmp .ge 49, 3) := by decide +kernel
theorem d_D_choose_27 : decode b_D_choose 27 = .ok (.aload_n 0, 1) := by decide +kernel
theorem d_D_choose_28 : decode b_D_choose 28 = .ok (.getfield 11, 3) := by decide +kernel
theorem d_D_choose_31 : decode b_D_choose 31 = .ok (.iload_n 1, 1) := by decide +kernel
theorem d_D_choose_32 : decode b_D_choose 32 = .ok (.aaload, 1) := by decide +kernel
theorem d_D_choose_33 : decode b_D_choose 33 = .ok (.iload 5, 2) := by decide +kernel
theorem d_D_choose_35 : decode b_D_choose 35 = .ok (.aload_n 0, 1) := by decide +kernel
theorem d_D_choose_36 : decode b_D_choose 36 = .ok (.getfield 11, 3) := by decide +kernel
theorem d_D_choose_39 : decode b_D_choose 39 = .ok (.iload_n 2, 1) := by decide +kernel
theorem d_D_choose_40 : decode b_D_choose 40 = .ok (.aaload, 1) := by decide +kernel
theorem d_D_choose_41 : decode b_D_choose 41 = .ok (.iload 5, 2) := by decide +kernel
theorem d_D_choose_43 : decode b_D_choose 43 = .ok (.laload, 1) := by decide +kernel
theorem d_D_choose_44 : decode b_D_choose 44 = .ok (.aload_n 0, 1) := by decide +kernel
theorem d_D_choose_45 : decode b_D_choose 45 = .ok (.getfield 11, 3) := by decide +kernel
theorem d_D_choose_48 : decode b_D_choose 48 = .ok (.iload_n 3, 1) := by decide +kernel
theorem d_D_choose_49 : decode b_D_choose 49 = .ok (.aaload, 1) := by decide +kernel
theorem d_D_choose_50 : decode b_D_choose 50 = .ok (.iload 5, 2) := by decide +kernel
theorem d_D_choose_52 : decode b_D_choose 52 = .ok (.laload, 1) := by decide +kernel
theorem d_D_choose_53 : decode b_D_choose 53 = .ok (.aload_n 0, 1) := by decide +kernel
theorem d_D_choose_54 : decode b_D_choose 54 = .ok (.getfield 11, 3) := by decide +kernel
theorem d_D_choose_57 : decode b_D_choose 57 = .ok (.iload 4, 2) := by decide +kernel
theorem d_D_choose_59 : decode b_D_choose 59 = .ok (.aaload, 1) := by decide +kernel
theorem d_D_choose_60 : decode b_D_choose 60 = .ok (.iload 5, 2) := by decide +kernel
theorem d_D_choose_62 : decode b_D_choose 62 = .ok (.laload, 1) := by decide +kernel
theorem d_D_choose_63 : decode b_D_choose 63 = .ok (.invokestatic 55, 3) := by decide +kernel
theorem d_D_choose_66 : decode b_D_choose 66 = .ok (.lastore, 1) := by decide +kernel
theorem d_D_choose_67 : decode b_D_choose 67 = .ok (.iinc 5 1, 3) := by decide +kernel
theorem d_D_choose_70 : decode b_D_choose 70 = .ok (.goto (-50), 3) := by decide +kernel
theorem d_D_choose_73 : decode b_D_choose 73 = .ok (.return_, 1) := by decide +kernel
theorem d_D_cut_0 : decode b_D_cut 0 = .ok (.iload_n 1, 1) := by decide +kernel
theorem d_D_cut_1 : decode b_D_cut 1 = .ok (.invokestatic 28, 3) := by decide +kernel
theorem d_D_cut_4 : decode b_D_cut 4 = .ok (.iload_n 2, 1) := by decide +kernel
theorem d_D_cut_5 : decode b_D_cut 5 = .ok (.invokestatic 28, 3) := by decide +kernel
theorem d_D_cut_8 : decode b_D_cut 8 = .ok (.iload_n 3, 1) := by decide +kernel
theorem d_D_cut_9 : decode b_D_cut 9 = .ok (.invokestatic 32, 3) := by decide +kernel
theorem d_D_cut_12 : decode b_D_cut 12 = .ok (.iconst 0, 1) := by decide +kernel
theorem d_D_cut_13 : decode b_D_cut 13 = .ok (.istore 5, 2) := by decide +kernel
theorem d_D_cut_15 : decode b_D_cut 15 = .ok (.iload 5, 2) := by decide +kernel
theorem d_D_cut_17 : decode b_D_cut 17 = .ok (.bipush 16, 2) := by decide +kernel
theorem d_D_cut_19 : decode b_D_cut 19 = .ok (.if_icmp .ge 30, 3) := by decide +kernel
theorem d_D_cut_22 : decode b_D_cut 22 = .ok (.aload_n 0, 1) := by decide +kernel
theorem d_D_cut_23 : decode b_D_cut 23 = .ok (.getfield 14, 3) := by decide +kernel
theorem d_D_cut_26 : decode b_D_cut 26 = .ok (.iload 5, 2) := by decide +kernel
theorem d_D_cut_28 : decode b_D_cut 28 = .ok (.aload_n 0, 1) := by decide +kernel
theorem d_D_cut_29 : decode b_D_cut 29 = .ok (.getfield 11, 3) := by decide +kernel
theorem d_D_cut_32 : decode b_D_cut 32 = .ok (.iload_n 2, 1) := by decide +kernel
theorem d_D_cut_33 : decode b_D_cut 33 = .ok (.aaload, 1) := by decide +kernel
theorem d_D_cut_34 : decode b_D_cut 34 = .ok (.iload_n 3, 1) := by decide +kernel
theorem d_D_cut_35 : decode b_D_cut 35 = .ok (.iload 4, 2) := by decide +kernel
theorem d_D_cut_37 : decode b_D_cut 37 = .ok (.iload 5, 2) := by decide +kernel
theorem d_D_cut_39 : decode b_D_cut 39 = .ok (.invokestatic 59, 3) := by decide +kernel
theorem d_D_cut_42 : decode b_D_cut 42 = .ok (.lastore, 1) := by decide +kernel
theorem d_D_cut_43 : decode b_D_cut 43 = .ok (.iinc 5 1, 3) := by decide +kernel
theorem d_D_cut_46 : decode b_D_cut 46 = .ok (.goto (-31), 3) := by decide +kernel
theorem d_D_cut_49 : decode b_D_cut 49 = .ok (.aload_n 0, 1) := by decide +kernel
theorem d_D_cut_50 : decode b_D_cut 50 = .ok (.aload_n 0, 1) := by decide +kernel
theorem d_D_cut_51 : decode b_D_cut 51 = .ok (.getfield 14, 3) := by decide +kernel
theorem d_D_cut_54 : decode b_D_cut 54 = .ok (.iload_n 1, 1) := by decide +kernel
theorem d_D_cut_55 : decode b_D_cut 55 = .ok (.invokevirtual 63, 3) := by decide +kernel
theorem d_D_cut_58 : decode b_D_cut 58 = .ok (.return_, 1) := by decide +kernel
theorem d_D_put_0 : decode b_D_put 0 = .ok (.iload_n 1, 1) := by decide +kernel
theorem d_D_put_1 : decode b_D_put 1 = .ok (.invokestatic 28, 3) := by decide +kernel
theorem d_D_put_4 : decode b_D_put 4 = .ok (.iload_n 2, 1) := by decide +kernel
theorem d_D_put_5 : decode b_D_put 5 = .ok (.invokestatic 28, 3) := by decide +kernel
theorem d_D_put_8 : decode b_D_put 8 = .ok (.iload_n 3, 1) := by decide +kernel
theorem d_D_put_9 : decode b_D_put 9 = .ok (.invokestatic 32, 3) := by decide +kernel
theorem d_D_put_12 : decode b_D_put 12 = .ok (.iload 4, 2) := by decide +kernel
theorem d_D_put_14 : decode b_D_put 14 = .ok (.invokestatic 28, 3) := by decide +kernel
theorem d_D_put_17 : decode b_D_put 17 = .ok (.iconst 0, 1) := by decide +kernel
theorem d_D_put_18 : decode b_D_put 18 = .ok (.istore 5, 2) := by decide +kernel
theorem d_D_put_20 : decode b_D_put 20 = .ok (.iload 5, 2) := by decide +kernel
theorem d_D_put_22 : decode b_D_put 22 = .ok (.bipush 16, 2) := by decide +kernel
theorem d_D_put_24 : decode b_D_put 24 = .ok (.if_icmp .ge 63, 3) := by decide +kernel
theorem d_D_put_27 : decode b_D_put 27 = .ok (.aload_n 0, 1) := by decide +kernel
theorem d_D_put_28 : decode b_D_put 28 = .ok (.getfield 11, 3) := by decide +kernel
theorem d_D_put_31 : decode b_D_put 31 = .ok (.iload_n 2, 1) := by decide +kernel
theorem d_D_put_32 : decode b_D_put 32 = .ok (.aaload, 1) := by decide +kernel
theorem d_D_put_33 : decode b_D_put 33 = .ok (.iload_n 3, 1) := by decide +kernel
theorem d_D_put_34 : decode b_D_put 34 = .ok (.iconst 1, 1) := by decide +kernel
theorem d_D_put_35 : decode b_D_put 35 = .ok (.iload 5, 2) := by decide +kernel
theorem d_D_put_37 : decode b_D_put 37 = .ok (.invokestatic 59, 3) := by decide +kernel
theorem d_D_put_40 : decode b_D_put 40 = .ok (.lstore 6, 2) := by decide +kernel
theorem d_D_put_42 : decode b_D_put 42 = .ok (.aload_n 0, 1) := by decide +kernel
theorem d_D_put_43 : decode b_D_put 43 = .ok (.getfield 11, 3) := by decide +kernel
theorem d_D_put_46 : decode b_D_put 46 = .ok (.iload_n 2, 1) := by decide +kernel
theorem d_D_put_47 : decode b_D_put 47 = .ok (.aaload, 1) := by decide +kernel
theorem d_D_put_48 : decode b_D_put 48 = .ok (.iload_n 3, 1) := by decide +kernel
theorem d_D_put_49 : decode b_D_put 49 = .ok (.iconst 0, 1) := by decide +kernel
theorem d_D_put_50 : decode b_D_put 50 = .ok (.iload 5, 2) := by decide +kernel
theorem d_D_put_52 : decode b_D_put 52 = .ok (.invokestatic 59, 3) := by decide +kernel
theorem d_D_put_55 : decode b_D_put 55 = .ok (.lstore 8, 2) := by decide +kernel
theorem d_D_put_57 : decode b_D_put 57 = .ok (.aload_n 0, 1) := by decide +kernel
theorem d_D_put_58 : decode b_D_put 58 = .ok (.getfield 14, 3) := by decide +kernel
theorem d_D_put_61 : decode b_D_put 61 = .ok (.iload 5, 2) := by decide +kernel
theorem d_D_put_63 : decode b_D_put 63 = .ok (.aload_n 0, 1) := by decide +kernel
theorem d_D_put_64 : decode b_D_put 64 = .ok (.getfield 11, 3) := by decide +kernel
theorem d_D_put_67 : decode b_D_put 67 = .ok (.iload 4, 2) := by decide +kernel
theorem d_D_put_69 : decode b_D_put 69 = .ok (.aaload, 1) := by decide +kernel
theorem d_D_put_70 : decode b_D_put 70 = .ok (.iload 5, 2) := by decide +kernel
theorem d_D_put_72 : decode b_D_put 72 = .ok (.laload, 1) := by decide +kernel
theorem d_D_put_73 : decode b_D_put 73 = .ok (.lload 6, 2) := by decide +kernel
theorem d_D_put_75 : decode b_D_put 75 = .ok (.lload 8, 2) := by decide +kernel
theorem d_D_put_77 : decode b_D_put 77 = .ok (.invokestatic 55, 3) := by decide +kernel
theorem d_D_put_80 : decode b_D_put 80 = .ok (.lastore, 1) := by decide +kernel
theorem d_D_put_81 : decode b_D_put 81 = .ok (.iinc 5 1, 3) := by decide +kernel
theorem d_D_put_84 : decode b_D_put 84 = .ok (.goto (-64), 3) := by decide +kernel
theorem d_D_put_87 : decode b_D_put 87 = .ok (.aload_n 0, 1) := by decide +kernel
theorem d_D_put_88 : decode b_D_put 88 = .ok (.aload_n 0, 1) := by decide +kernel
theorem d_D_put_89 : decode b_D_put 89 = .ok (.getfield 14, 3) := by decide +kernel
theorem d_D_put_92 : decode b_D_put 92 = .ok (.iload_n 1, 1) := by decide +kernel
theorem d_D_put_93 : decode b_D_put 93 = .ok (.invokevirtual 63, 3) := by decide +kernel
theorem d_D_put_96 : decode b_D_put 96 = .ok (.return_, 1) := by decide +kernel
theorem d_D_bound_0 : decode b_D_bound 0 = .ok (.iload_n 1, 1) := by decide +kernel
theorem d_D_bound_1 : decode b_D_bound 1 = .ok (.invokestatic 28, 3) := by decide +kernel
theorem d_D_bound_4 : decode b_D_bound 4 = .ok (.iload_n 2, 1) := by decide +kernel
theorem d_D_bound_5 : decode b_D_bound 5 = .ok (.invokestatic 28, 3) := by decide +kernel
theorem d_D_bound_8 : decode b_D_bound 8 = .ok (.iload_n 3, 1) := by decide +kernel
theorem d_D_bound_9 : decode b_D_bound 9 = .ok (.invokestatic 67, 3) := by decide +kernel
theorem d_D_bound_12 : decode b_D_bound 12 = .ok (.aload_n 0, 1) := by decide +kernel
theorem d_D_bound_13 : decode b_D_bound 13 = .ok (.getfield 11, 3) := by decide +kernel
theorem d_D_bound_16 : decode b_D_bound 16 = .ok (.iload_n 2, 1) := by decide +kernel
theorem d_D_bound_17 : decode b_D_bound 17 = .ok (.aaload, 1) := by decide +kernel
theorem d_D_bound_18 : decode b_D_bound 18 = .ok (.iconst 0, 1) := by decide +kernel
theorem d_D_bound_19 : decode b_D_bound 19 = .ok (.aload_n 0, 1) := by decide +kernel
theorem d_D_bound_20 : decode b_D_bound 20 = .ok (.getfield 14, 3) := by decide +kernel
theorem d_D_bound_23 : decode b_D_bound 23 = .ok (.iconst 0, 1) := by decide +kernel
theorem d_D_bound_24 : decode b_D_bound 24 = .ok (.bipush 16, 2) := by decide +kernel
theorem d_D_bound_26 : decode b_D_bound 26 = .ok (.invokestatic 70, 3) := by decide +kernel
theorem d_D_bound_29 : decode b_D_bound 29 = .ok (.iconst 0, 1) := by decide +kernel
theorem d_D_bound_30 : decode b_D_bound 30 = .ok (.istore 5, 2) := by decide +kernel
theorem d_D_bound_32 : decode b_D_bound 32 = .ok (.iload 5, 2) := by decide +kernel
theorem d_D_bound_34 : decode b_D_bound 34 = .ok (.bipush 10, 2) := by decide +kernel
theorem d_D_bound_36 : decode b_D_bound 36 = .ok (.if_icmp .ge 26, 3) := by decide +kernel
theorem d_D_bound_39 : decode b_D_bound 39 = .ok (.iload_n 3, 1) := by decide +kernel
theorem d_D_bound_40 : decode b_D_bound 40 = .ok (.iload 5, 2) := by decide +kernel
theorem d_D_bound_42 : decode b_D_bound 42 = .ok (.invokestatic 76, 3) := by decide +kernel
theorem d_D_bound_45 : decode b_D_bound 45 = .ok (.ifCond .eq 11, 3) := by decide +kernel
theorem d_D_bound_48 : decode b_D_bound 48 = .ok (.aload_n 0, 1) := by decide +kernel
theorem d_D_bound_49 : decode b_D_bound 49 = .ok (.iload 5, 2) := by decide +kernel
theorem d_D_bound_51 : decode b_D_bound 51 = .ok (.iload 4, 2) := by decide +kernel
theorem d_D_bound_53 : decode b_D_bound 53 = .ok (.invokevirtual 80, 3) := by decide +kernel
theorem d_D_bound_56 : decode b_D_bound 56 = .ok (.iinc 5 1, 3) := by decide +kernel
theorem d_D_bound_59 : decode b_D_bound 59 = .ok (.goto (-27), 3) := by decide +kernel
theorem d_D_bound_62 : decode b_D_bound 62 = .ok (.aload_n 0, 1) := by decide +kernel
theorem d_D_bound_63 : decode b_D_bound 63 = .ok (.aload_n 0, 1) := by decide +kernel
theorem d_D_bound_64 : decode b_D_bound 64 = .ok (.getfield 14, 3) := by decide +kernel
theorem d_D_bound_67 : decode b_D_bound 67 = .ok (.iload_n 1, 1) := by decide +kernel
theorem d_D_bound_68 : decode b_D_bound 68 = .ok (.invokevirtual 63, 3) := by decide +kernel
theorem d_D_bound_71 : decode b_D_bound 71 = .ok (.return_, 1) := by decide +kernel
theorem d_D_swap_0 : decode b_D_swap 0 = .ok (.iload_n 1, 1) := by decide +kernel
theorem d_D_swap_1 : decode b_D_swap 1 = .ok (.invokestatic 28, 3) := by decide +kernel
theorem d_D_swap_4 : decode b_D_swap 4 = .ok (.iload_n 2, 1) := by decide +kernel
theorem d_D_swap_5 : decode b_D_swap 5 = .ok (.invokestatic 28, 3) := by decide +kernel
theorem d_D_swap_8 : decode b_D_swap 8 = .ok (.iload_n 3, 1) := by decide +kernel
theorem d_D_swap_9 : decode b_D_swap 9 = .ok (.invokestatic 32, 3) := by decide +kernel
theorem d_D_swap_12 : decode b_D_swap 12 = .ok (.iload 4, 2) := by decide +kernel
theorem d_D_swap_14 : decode b_D_swap 14 = .ok (.invokestatic 32, 3) := by decide +kernel
theorem d_D_swap_17 : decode b_D_swap 17 = .ok (.iconst 0, 1) := by decide +kernel
theorem d_D_swap_18 : decode b_D_swap 18 = .ok (.istore 5, 2) := by decide +kernel
theorem d_D_swap_20 : decode b_D_swap 20 = .ok (.iload 5, 2) := by decide +kernel
theorem d_D_swap_22 : decode b_D_swap 22 = .ok (.bipush 16, 2) := by decide +kernel
theorem d_D_swap_24 : decode b_D_swap 24 = .ok (.if_icmp .ge 28, 3) := by decide +kernel
theorem d_D_swap_27 : decode b_D_swap 27 = .ok (.aload_n 0, 1) := by decide +kernel
theorem d_D_swap_28 : decode b_D_swap 28 = .ok (.getfield 14, 3) := by decide +kernel
theorem d_D_swap_31 : decode b_D_swap 31 = .ok (.iload 5, 2) := by decide +kernel
theorem d_D_swap_33 : decode b_D_swap 33 = .ok (.aload_n 0, 1) := by decide +kernel
theorem d_D_swap_34 : decode b_D_swap 34 = .ok (.getfield 11, 3) := by decide +kernel
theorem d_D_swap_37 : decode b_D_swap 37 = .ok (.iload_n 2, 1) := by decide +kernel
theorem d_D_swap_38 : decode b_D_swap 38 = .ok (.aaload, 1) := by decide +kernel
theorem d_D_swap_39 : decode b_D_swap 39 = .ok (.iload_n 3, 1) := by decide +kernel
theorem d_D_swap_40 : decode b_D_swap 40 = .ok (.iload 5, 2) := by decide +kernel
theorem d_D_swap_42 : decode b_D_swap 42 = .ok (.invokestatic 84, 3) := by decide +kernel
theorem d_D_swap_45 : decode b_D_swap 45 = .ok (.lastore, 1) := by decide +kernel
theorem d_D_swap_46 : decode b_D_swap 46 = .ok (.iinc 5 1, 3) := by decide +kernel
theorem d_D_swap_49 : decode b_D_swap 49 = .ok (.goto (-29), 3) := by decide +kernel
theorem d_D_swap_52 : decode b_D_swap 52 = .ok (.iconst 0, 1) := by decide +kernel
theorem d_D_swap_53 : decode b_D_swap 53 = .ok (.istore 5, 2) := by decide +kernel
theorem d_D_swap_55 : decode b_D_swap 55 = .ok (.iload 5, 2) := by decide +kernel
theorem d_D_swap_57 : decode b_D_swap 57 = .ok (.bipush 16, 2) := by decide +kernel
theorem d_D_swap_59 : decode b_D_swap 59 = .ok (.if_icmp .ge 57, 3) := by decide +kernel
theorem d_D_swap_62 : decode b_D_swap 62 = .ok (.iload_n 3, 1) := by decide +kernel
theorem d_D_swap_63 : decode b_D_swap 63 = .ok (.iload 5, 2) := by decide +kernel
theorem d_D_swap_65 : decode b_D_swap 65 = .ok (.invokestatic 35, 3) := by decide +kernel
theorem d_D_swap_68 : decode b_D_swap 68 = .ok (.iload 4, 2) := by decide +kernel
theorem d_D_swap_70 : decode b_D_swap 70 = .ok (.iload 5, 2) := by decide +kernel
theorem d_D_swap_72 : decode b_D_swap 72 = .ok (.invokestatic 35, 3) := by decide +kernel
theorem d_D_swap_75 : decode b_D_swap 75 = .ok (.lxor, 1) := by decide +kernel
theorem d_D_swap_76 : decode b_D_swap 76 = .ok (.lstore 6, 2) := by decide +kernel
theorem d_D_swap_78 : decode b_D_swap 78 = .ok (.aload_n 0, 1) := by decide +kernel
theorem d_D_swap_79 : decode b_D_swap 79 = .ok (.getfield 18, 3) := by decide +kernel
theorem d_D_swap_82 : decode b_D_swap 82 = .ok (.iload 5, 2) := by decide +kernel
theorem d_D_swap_84 : decode b_D_swap 84 = .ok (.lload 6, 2) := by decide +kernel
theorem d_D_swap_86 : decode b_D_swap 86 = .ok (.aload_n 0, 1) := by decide +kernel
theorem d_D_swap_87 : decode b_D_swap 87 = .ok (.getfield 14, 3) := by decide +kernel
theorem d_D_swap_90 : decode b_D_swap 90 = .ok (.iload 4, 2) := by decide +kernel
theorem d_D_swap_92 : decode b_D_swap 92 = .ok (.iload 5, 2) := by decide +kernel
theorem d_D_swap_94 : decode b_D_swap 94 = .ok (.invokestatic 84, 3) := by decide +kernel
theorem d_D_swap_97 : decode b_D_swap 97 = .ok (.aload_n 0, 1) := by decide +kernel
theorem d_D_swap_98 : decode b_D_swap 98 = .ok (.getfield 11, 3) := by decide +kernel
theorem d_D_swap_101 : decode b_D_swap 101 = .ok (.iload_n 2, 1) := by decide +kernel
theorem d_D_swap_102 : decode b_D_swap 102 = .ok (.aaload, 1) := by decide +kernel
theorem d_D_swap_103 : decode b_D_swap 103 = .ok (.iload 5, 2) := by decide +kernel
theorem d_D_swap_105 : decode b_D_swap 105 = .ok (.laload, 1) := by decide +kernel
theorem d_D_swap_106 : decode b_D_swap 106 = .ok (.invokestatic 55, 3) := by decide +kernel
theorem d_D_swap_109 : decode b_D_swap 109 = .ok (.lastore, 1) := by decide +kernel
theorem d_D_swap_110 : decode b_D_swap 110 = .ok (.iinc 5 1, 3) := by decide +kernel
theorem d_D_swap_113 : decode b_D_swap 113 = .ok (.goto (-58), 3) := by decide +kernel
theorem d_D_swap_116 : decode b_D_swap 116 = .ok (.aload_n 0, 1) := by decide +kernel
theorem d_D_swap_117 : decode b_D_swap 117 = .ok (.aload_n 0, 1) := by decide +kernel
theorem d_D_swap_118 : decode b_D_swap 118 = .ok (.getfield 18, 3) := by decide +kernel
theorem d_D_swap_121 : decode b_D_swap 121 = .ok (.iload_n 1, 1) := by decide +kernel
theorem d_D_swap_122 : decode b_D_swap 122 = .ok (.invokevirtual 63, 3) := by decide +kernel
theorem d_D_swap_125 : decode b_D_swap 125 = .ok (.return_, 1) := by decide +kernel
theorem d_D_is_0 : decode b_D_is 0 = .ok (.iload_n 1, 1) := by decide +kernel
theorem d_D_is_1 : decode b_D_is 1 = .ok (.invokestatic 28, 3) := by decide +kernel
theorem d_D_is_4 : decode b_D_is 4 = .ok (.iload_n 2, 1) := by decide +kernel
theorem d_D_is_5 : decode b_D_is 5 = .ok (.invokestatic 39, 3) := by decide +kernel
theorem d_D_is_8 : decode b_D_is 8 = .ok (.aload_n 0, 1) := by decide +kernel
theorem d_D_is_9 : decode b_D_is 9 = .ok (.getfield 11, 3) := by decide +kernel
theorem d_D_is_12 : decode b_D_is 12 = .ok (.iload_n 1, 1) := by decide +kernel
theorem d_D_is_13 : decode b_D_is 13 = .ok (.aaload, 1) := by decide +kernel
theorem d_D_is_14 : decode b_D_is 14 = .ok (.iload_n 2, 1) := by decide +kernel
theorem d_D_is_15 : decode b_D_is 15 = .ok (.invokestatic 88, 3) := by decide +kernel
theorem d_D_is_18 : decode b_D_is 18 = .ok (.ifCond .eq 7, 3) := by decide +kernel
theorem d_D_is_21 : decode b_D_is 21 = .ok (.iconst 1, 1) := by decide +kernel
theorem d_D_is_22 : decode b_D_is 22 = .ok (.goto 4, 3) := by decide +kernel
theorem d_D_is_25 : decode b_D_is 25 = .ok (.iconst 0, 1) := by decide +kernel
theorem d_D_is_26 : decode b_D_is 26 = .ok (.ireturn, 1) := by decide +kernel
theorem d_D_ways_0 : decode b_D_ways 0 = .ok (.iload_n 1, 1) := by decide +kernel
theorem d_D_ways_1 : decode b_D_ways 1 = .ok (.invokestatic 28, 3) := by decide +kernel
theorem d_D_ways_4 : decode b_D_ways 4 = .ok (.iconst 0, 1) := by decide +kernel
theorem d_D_ways_5 : decode b_D_ways 5 = .ok (.istore_n 2, 1) := by decide +kernel
theorem d_D_ways_6 : decode b_D_ways 6 = .ok (.iconst 0, 1) := by decide +kernel
theorem d_D_ways_7 : decode b_D_ways 7 = .ok (.istore_n 3, 1) := by decide +kernel
theorem d_D_ways_8 : decode b_D_ways 8 = .ok (.iload_n 3, 1) := by decide +kernel
theorem d_D_ways_9 : decode b_D_ways 9 = .ok (.bipush 16, 2) := by decide +kernel
theorem d_D_ways_11 : decode b_D_ways 11 = .ok (.if_icmp .ge 23, 3) := by decide +kernel
theorem d_D_ways_14 : decode b_D_ways 14 = .ok (.iload_n 2, 1) := by decide +kernel
theorem d_D_ways_15 : decode b_D_ways 15 = .ok (.aload_n 0, 1) := by decide +kernel
theorem d_D_ways_16 : decode b_D_ways 16 = .ok (.getfield 11, 3) := by decide +kernel
theorem d_D_ways_19 : decode b_D_ways 19 = .ok (.iload_n 1, 1) := by decide +kernel
theorem d_D_ways_20 : decode b_D_ways 20 = .ok (.aaload, 1) := by decide +kernel
theorem d_D_ways_21 : decode b_D_ways 21 = .ok (.iload_n 3, 1) := by decide +kernel
theorem d_D_ways_22 : decode b_D_ways 22 = .ok (.laload, 1) := by decide +kernel
theorem d_D_ways_23 : decode b_D_ways 23 = .ok (.invokestatic 92, 3) := by decide +kernel
theorem d_D_ways_26 : decode b_D_ways 26 = .ok (.iadd, 1) := by decide +kernel
theorem d_D_ways_27 : decode b_D_ways 27 = .ok (.istore_n 2, 1) := by decide +kernel
theorem d_D_ways_28 : decode b_D_ways 28 = .ok (.iinc 3 1, 3) := by decide +kernel
theorem d_D_ways_31 : decode b_D_ways 31 = .ok (.goto (-23), 3) := by decide +kernel
theorem d_D_ways_34 : decode b_D_ways 34 = .ok (.iload_n 2, 1) := by decide +kernel
theorem d_D_ways_35 : decode b_D_ways 35 = .ok (.ireturn, 1) := by decide +kernel
theorem d_D_first_0 : decode b_D_first 0 = .ok (.iload_n 1, 1) := by decide +kernel
theorem d_D_first_1 : decode b_D_first 1 = .ok (.invokestatic 28, 3) := by decide +kernel
theorem d_D_first_4 : decode b_D_first 4 = .ok (.aload_n 0, 1) := by decide +kernel
theorem d_D_first_5 : decode b_D_first 5 = .ok (.getfield 11, 3) := by decide +kernel
theorem d_D_first_8 : decode b_D_first 8 = .ok (.iload_n 1, 1) := by decide +kernel
theorem d_D_first_9 : decode b_D_first 9 = .ok (.aaload, 1) := by decide +kernel
theorem d_D_first_10 : decode b_D_first 10 = .ok (.iconst 0, 1) := by decide +kernel
theorem d_D_first_11 : decode b_D_first 11 = .ok (.aload_n 0, 1) := by decide +kernel
theorem d_D_first_12 : decode b_D_first 12 = .ok (.getfield 14, 3) := by decide +kernel
theorem d_D_first_15 : decode b_D_first 15 = .ok (.iconst 0, 1) := by decide +kernel
theorem d_D_first_16 : decode b_D_first 16 = .ok (.bipush 16, 2) := by decide +kernel
theorem d_D_first_18 : decode b_D_first 18 = .ok (.invokestatic 70, 3) := by decide +kernel
theorem d_D_first_21 : decode b_D_first 21 = .ok (.aload_n 0, 1) := by decide +kernel
theorem d_D_first_22 : decode b_D_first 22 = .ok (.invokevirtual 98, 3) := by decide +kernel
theorem d_D_first_25 : decode b_D_first 25 = .ok (.ifCond .eq 13, 3) := by decide +kernel
theorem d_D_first_28 : decode b_D_first 28 = .ok (.new 102, 3) := by decide +kernel
theorem d_D_first_31 : decode b_D_first 31 = .ok (.dup, 1) := by decide +kernel
theorem d_D_first_32 : decode b_D_first 32 = .ok (.ldc 104, 2) := by decide +kernel
theorem d_D_first_34 : decode b_D_first 34 = .ok (.invokespecial 106, 3) := by decide +kernel
theorem d_D_first_37 : decode b_D_first 37 = .ok (.athrow, 1) := by decide +kernel
theorem d_D_first_38 : decode b_D_first 38 = .ok (.iconst 0, 1) := by decide +kernel
theorem d_D_first_39 : decode b_D_first 39 = .ok (.istore_n 2, 1) := by decide +kernel
theorem d_D_first_40 : decode b_D_first 40 = .ok (.iconst 0, 1) := by decide +kernel
theorem d_D_first_41 : decode b_D_first 41 = .ok (.istore_n 3, 1) := by decide +kernel
theorem d_D_first_42 : decode b_D_first 42 = .ok (.iload_n 3, 1) := by decide +kernel
theorem d_D_first_43 : decode b_D_first 43 = .ok (.bipush 10, 2) := by decide +kernel
theorem d_D_first_45 : decode b_D_first 45 = .ok (.if_icmp .ge 23, 3) := by decide +kernel
theorem d_D_first_48 : decode b_D_first 48 = .ok (.aload_n 0, 1) := by decide +kernel
theorem d_D_first_49 : decode b_D_first 49 = .ok (.iload_n 3, 1) := by decide +kernel
theorem d_D_first_50 : decode b_D_first 50 = .ok (.invokevirtual 109, 3) := by decide +kernel
theorem d_D_first_53 : decode b_D_first 53 = .ok (.ifCond .ne 9, 3) := by decide +kernel
theorem d_D_first_56 : decode b_D_first 56 = .ok (.iload_n 2, 1) := by decide +kernel
theorem d_D_first_57 : decode b_D_first 57 = .ok (.iconst 1, 1) := by decide +kernel
theorem d_D_first_58 : decode b_D_first 58 = .ok (.iload_n 3, 1) := by decide +kernel
theorem d_D_first_59 : decode b_D_first 59 = .ok (.ishl, 1) := by decide +kernel
theorem d_D_first_60 : decode b_D_first 60 = .ok (.ior, 1) := by decide +kernel
theorem d_D_first_61 : decode b_D_first 61 = .ok (.istore_n 2, 1) := by decide +kernel
theorem d_D_first_62 : decode b_D_first 62 = .ok (.iinc 3 1, 3) := by decide +kernel
theorem d_D_first_65 : decode b_D_first 65 = .ok (.goto (-23), 3) := by decide +kernel
theorem d_D_first_68 : decode b_D_first 68 = .ok (.iload_n 2, 1) := by decide +kernel
theorem d_D_first_69 : decode b_D_first 69 = .ok (.ireturn, 1) := by decide +kernel
theorem d_D_hangs_0 : decode b_D_hangs 0 = .ok (.iload_n 1, 1) := by decide +kernel
theorem d_D_hangs_1 : decode b_D_hangs 1 = .ok (.invokestatic 28, 3) := by decide +kernel
theorem d_D_hangs_4 : decode b_D_hangs 4 = .ok (.iconst 0, 1) := by decide +kernel
theorem d_D_hangs_5 : decode b_D_hangs 5 = .ok (.istore_n 2, 1) := by decide +kernel
theorem d_D_hangs_6 : decode b_D_hangs 6 = .ok (.iconst 0, 1) := by decide +kernel
theorem d_D_hangs_7 : decode b_D_hangs 7 = .ok (.istore_n 3, 1) := by decide +kernel
theorem d_D_hangs_8 : decode b_D_hangs 8 = .ok (.iload_n 3, 1) := by decide +kernel
theorem d_D_hangs_9 : decode b_D_hangs 9 = .ok (.bipush 10, 2) := by decide +kernel
theorem d_D_hangs_11 : decode b_D_hangs 11 = .ok (.if_icmp .ge 28, 3) := by decide +kernel
theorem d_D_hangs_14 : decode b_D_hangs 14 = .ok (.aload_n 0, 1) := by decide +kernel
theorem d_D_hangs_15 : decode b_D_hangs 15 = .ok (.getfield 11, 3) := by decide +kernel
theorem d_D_hangs_18 : decode b_D_hangs 18 = .ok (.iload_n 1, 1) := by decide +kernel
theorem d_D_hangs_19 : decode b_D_hangs 19 = .ok (.aaload, 1) := by decide +kernel
theorem d_D_hangs_20 : decode b_D_hangs 20 = .ok (.iload_n 3, 1) := by decide +kernel
theorem d_D_hangs_21 : decode b_D_hangs 21 = .ok (.invokestatic 113, 3) := by decide +kernel
theorem d_D_hangs_24 : decode b_D_hangs 24 = .ok (.ifCond .eq 9, 3) := by decide +kernel
theorem d_D_hangs_27 : decode b_D_hangs 27 = .ok (.iload_n 2, 1) := by decide +kernel
theorem d_D_hangs_28 : decode b_D_hangs 28 = .ok (.iconst 1, 1) := by decide +kernel
theorem d_D_hangs_29 : decode b_D_hangs 29 = .ok (.iload_n 3, 1) := by decide +kernel
theorem d_D_hangs_30 : decode b_D_hangs 30 = .ok (.ishl, 1) := by decide +kernel
theorem d_D_hangs_31 : decode b_D_hangs 31 = .ok (.ior, 1) := by decide +kernel
theorem d_D_hangs_32 : decode b_D_hangs 32 = .ok (.istore_n 2, 1) := by decide +kernel
theorem d_D_hangs_33 : decode b_D_hangs 33 = .ok (.iinc 3 1, 3) := by decide +kernel
theorem d_D_hangs_36 : decode b_D_hangs 36 = .ok (.goto (-28), 3) := by decide +kernel
theorem d_D_hangs_39 : decode b_D_hangs 39 = .ok (.iload_n 2, 1) := by decide +kernel
theorem d_D_hangs_40 : decode b_D_hangs 40 = .ok (.ireturn, 1) := by decide +kernel
theorem d_D_same_0 : decode b_D_same 0 = .ok (.iload_n 1, 1) := by decide +kernel
theorem d_D_same_1 : decode b_D_same 1 = .ok (.invokestatic 28, 3) := by decide +kernel
theorem d_D_same_4 : decode b_D_same 4 = .ok (.iload_n 2, 1) := by decide +kernel
theorem d_D_same_5 : decode b_D_same 5 = .ok (.invokestatic 28, 3) := by decide +kernel
theorem d_D_same_8 : decode b_D_same 8 = .ok (.iconst 0, 1) := by decide +kernel
theorem d_D_same_9 : decode b_D_same 9 = .ok (.istore_n 3, 1) := by decide +kernel
theorem d_D_same_10 : decode b_D_same 10 = .ok (.iload_n 3, 1) := by decide +kernel
theorem d_D_same_11 : decode b_D_same 11 = .ok (.bipush 16, 2) := by decide +kernel
theorem d_D_same_13 : decode b_D_same 13 = .ok (.if_icmp .ge 31, 3) := by decide +kernel
theorem d_D_same_16 : decode b_D_same 16 = .ok (.aload_n 0, 1) := by decide +kernel
theorem d_D_same_17 : decode b_D_same 17 = .ok (.getfield 11, 3) := by decide +kernel
theorem d_D_same_20 : decode b_D_same 20 = .ok (.iload_n 1, 1) := by decide +kernel
theorem d_D_same_21 : decode b_D_same 21 = .ok (.aaload, 1) := by decide +kernel
theorem d_D_same_22 : decode b_D_same 22 = .ok (.iload_n 3, 1) := by decide +kernel
theorem d_D_same_23 : decode b_D_same 23 = .ok (.laload, 1) := by decide +kernel
theorem d_D_same_24 : decode b_D_same 24 = .ok (.aload_n 0, 1) := by decide +kernel
theorem d_D_same_25 : decode b_D_same 25 = .ok (.getfield 11, 3) := by decide +kernel
theorem d_D_same_28 : decode b_D_same 28 = .ok (.iload_n 2, 1) := by decide +kernel
theorem d_D_same_29 : decode b_D_same 29 = .ok (.aaload, 1) := by decide +kernel
theorem d_D_same_30 : decode b_D_same 30 = .ok (.iload_n 3, 1) := by decide +kernel
theorem d_D_same_31 : decode b_D_same 31 = .ok (.laload, 1) := by decide +kernel
theorem d_D_same_32 : decode b_D_same 32 = .ok (.lcmp, 1) := by decide +kernel
theorem d_D_same_33 : decode b_D_same 33 = .ok (.ifCond .eq 5, 3) := by decide +kernel
theorem d_D_same_36 : decode b_D_same 36 = .ok (.iconst 0, 1) := by decide +kernel
theorem d_D_same_37 : decode b_D_same 37 = .ok (.ireturn, 1) := by decide +kernel
theorem d_D_same_38 : decode b_D_same 38 = .ok (.iinc 3 1, 3) := by decide +kernel
theorem d_D_same_41 : decode b_D_same 41 = .ok (.goto (-31), 3) := by decide +kernel
theorem d_D_same_44 : decode b_D_same 44 = .ok (.iconst 1, 1) := by decide +kernel
theorem d_D_same_45 : decode b_D_same 45 = .ok (.ireturn, 1) := by decide +kernel
theorem d_D_parts_0 : decode b_D_parts 0 = .ok (.iload_n 1, 1) := by decide +kernel
theorem d_D_parts_1 : decode b_D_parts 1 = .ok (.invokestatic 28, 3) := by decide +kernel
theorem d_D_parts_4 : decode b_D_parts 4 = .ok (.aload_n 0, 1) := by decide +kernel
theorem d_D_parts_5 : decode b_D_parts 5 = .ok (.iload_n 1, 1) := by decide +kernel
theorem d_D_parts_6 : decode b_D_parts 6 = .ok (.iload_n 1, 1) := by decide +kernel
theorem d_D_parts_7 : decode b_D_parts 7 = .ok (.iconst 1, 1) := by decide +kernel
theorem d_D_parts_8 : decode b_D_parts 8 = .ok (.iadd, 1) := by decide +kernel
theorem d_D_parts_9 : decode b_D_parts 9 = .ok (.invokevirtual 117, 3) := by decide +kernel
theorem d_D_parts_12 : decode b_D_parts 12 = .ok (.ireturn, 1) := by decide +kernel
theorem d_D_together_0 : decode b_D_together 0 = .ok (.iload_n 1, 1) := by decide +kernel
theorem d_D_together_1 : decode b_D_together 1 = .ok (.ifCond .lt 14, 3) := by decide +kernel
theorem d_D_together_4 : decode b_D_together 4 = .ok (.iload_n 1, 1) := by decide +kernel
theorem d_D_together_5 : decode b_D_together 5 = .ok (.iload_n 2, 1) := by decide +kernel
theorem d_D_together_6 : decode b_D_together 6 = .ok (.if_icmp .ge 9, 3) := by decide +kernel
theorem d_D_together_9 : decode b_D_together 9 = .ok (.iload_n 2, 1) := by decide +kernel
theorem d_D_together_10 : decode b_D_together 10 = .ok (.bipush 16, 2) := by decide +kernel
theorem d_D_together_12 : decode b_D_together 12 = .ok (.if_icmp .le 13, 3) := by decide +kernel
theorem d_D_together_15 : decode b_D_together 15 = .ok (.new 121, 3) := by decide +kernel
theorem d_D_together_18 : decode b_D_together 18 = .ok (.dup, 1) := by decide +kernel
theorem d_D_together_19 : decode b_D_together 19 = .ok (.ldc 123, 2) := by decide +kernel
theorem d_D_together_21 : decode b_D_together 21 = .ok (.invokespecial 125, 3) := by decide +kernel
theorem d_D_together_24 : decode b_D_together 24 = .ok (.athrow, 1) := by decide +kernel
theorem d_D_together_25 : decode b_D_together 25 = .ok (.aload_n 0, 1) := by decide +kernel
theorem d_D_together_26 : decode b_D_together 26 = .ok (.iload_n 1, 1) := by decide +kernel
theorem d_D_together_27 : decode b_D_together 27 = .ok (.iload_n 2, 1) := by decide +kernel
theorem d_D_together_28 : decode b_D_together 28 = .ok (.invokevirtual 117, 3) := by decide +kernel
theorem d_D_together_31 : decode b_D_together 31 = .ok (.ireturn, 1) := by decide +kernel
theorem d_D_checkRegister_0 : decode b_D_checkRegister 0 = .ok (.iload_n 0, 1) := by decide +kernel
theorem d_D_checkRegister_1 : decode b_D_checkRegister 1 = .ok (.ifCond .lt 9, 3) := by decide +kernel
theorem d_D_checkRegister_4 : decode b_D_checkRegister 4 = .ok (.iload_n 0, 1) := by decide +kernel
theorem d_D_checkRegister_5 : decode b_D_checkRegister 5 = .ok (.bipush 16, 2) := by decide +kernel
theorem d_D_checkRegister_7 : decode b_D_checkRegister 7 = .ok (.if_icmp .lt 13, 3) := by decide +kernel
theorem d_D_checkRegister_10 : decode b_D_checkRegister 10 = .ok (.new 121, 3) := by decide +kernel
theorem d_D_checkRegister_13 : decode b_D_checkRegister 13 = .ok (.dup, 1) := by decide +kernel
theorem d_D_checkRegister_14 : decode b_D_checkRegister 14 = .ok (.ldc 126, 2) := by decide +kernel
theorem d_D_checkRegister_16 : decode b_D_checkRegister 16 = .ok (.invokespecial 125, 3) := by decide +kernel
theorem d_D_checkRegister_19 : decode b_D_checkRegister 19 = .ok (.athrow, 1) := by decide +kernel
theorem d_D_checkRegister_20 : decode b_D_checkRegister 20 = .ok (.return_, 1) := by decide +kernel
theorem d_D_checkVariable_0 : decode b_D_checkVariable 0 = .ok (.iload_n 0, 1) := by decide +kernel
theorem d_D_checkVariable_1 : decode b_D_checkVariable 1 = .ok (.ifCond .lt 9, 3) := by decide +kernel
theorem d_D_checkVariable_4 : decode b_D_checkVariable 4 = .ok (.iload_n 0, 1) := by decide +kernel
theorem d_D_checkVariable_5 : decode b_D_checkVariable 5 = .ok (.bipush 10, 2) := by decide +kernel
theorem d_D_checkVariable_7 : decode b_D_checkVariable 7 = .ok (.if_icmp .lt 13, 3) := by decide +kernel
theorem d_D_checkVariable_10 : decode b_D_checkVariable 10 = .ok (.new 121, 3) := by decide +kernel
theorem d_D_checkVariable_13 : decode b_D_checkVariable 13 = .ok (.dup, 1) := by decide +kernel
theorem d_D_checkVariable_14 : decode b_D_checkVariable 14 = .ok (.ldc 128, 2) := by decide +kernel
theorem d_D_checkVariable_16 : decode b_D_checkVariable 16 = .ok (.invokespecial 125, 3) := by decide +kernel
theorem d_D_checkVariable_19 : decode b_D_checkVariable 19 = .ok (.athrow, 1) := by decide +kernel
theorem d_D_checkVariable_20 : decode b_D_checkVariable 20 = .ok (.return_, 1) := by decide +kernel
theorem d_D_checkAssignment_0 : decode b_D_checkAssignment 0 = .ok (.iload_n 0, 1) := by decide +kernel
theorem d_D_checkAssignment_1 : decode b_D_checkAssignment 1 = .ok (.ifCond .lt 10, 3) := by decide +kernel
theorem d_D_checkAssignment_4 : decode b_D_checkAssignment 4 = .ok (.iload_n 0, 1) := by decide +kernel
theorem d_D_checkAssignment_5 : decode b_D_checkAssignment 5 = .ok (.sipush 1024, 3) := by decide +kernel
theorem d_D_checkAssignment_8 : decode b_D_checkAssignment 8 = .ok (.if_icmp .lt 13, 3) := by decide +kernel
theorem d_D_checkAssignment_11 : decode b_D_checkAssignment 11 = .ok (.new 121, 3) := by decide +kernel
theorem d_D_checkAssignment_14 : decode b_D_checkAssignment 14 = .ok (.dup, 1) := by decide +kernel
theorem d_D_checkAssignment_15 : decode b_D_checkAssignment 15 = .ok (.ldc 130, 2) := by decide +kernel
theorem d_D_checkAssignment_17 : decode b_D_checkAssignment 17 = .ok (.invokespecial 125, 3) := by decide +kernel
theorem d_D_checkAssignment_20 : decode b_D_checkAssignment 20 = .ok (.athrow, 1) := by decide +kernel
theorem d_D_checkAssignment_21 : decode b_D_checkAssignment 21 = .ok (.return_, 1) := by decide +kernel
theorem d_D_checkSet_0 : decode b_D_checkSet 0 = .ok (.iload_n 0, 1) := by decide +kernel
theorem d_D_checkSet_1 : decode b_D_checkSet 1 = .ok (.ifCond .lt 10, 3) := by decide +kernel
theorem d_D_checkSet_4 : decode b_D_checkSet 4 = .ok (.iload_n 0, 1) := by decide +kernel
theorem d_D_checkSet_5 : decode b_D_checkSet 5 = .ok (.sipush 1024, 3) := by decide +kernel
theorem d_D_checkSet_8 : decode b_D_checkSet 8 = .ok (.if_icmp .lt 13, 3) := by decide +kernel
theorem d_D_checkSet_11 : decode b_D_checkSet 11 = .ok (.new 121, 3) := by decide +kernel
theorem d_D_checkSet_14 : decode b_D_checkSet 14 = .ok (.dup, 1) := by decide +kernel
theorem d_D_checkSet_15 : decode b_D_checkSet 15 = .ok (.ldc 132, 2) := by decide +kernel
theorem d_D_checkSet_17 : decode b_D_checkSet 17 = .ok (.invokespecial 125, 3) := by decide +kernel
theorem d_D_checkSet_20 : decode b_D_checkSet 20 = .ok (.athrow, 1) := by decide +kernel
theorem d_D_checkSet_21 : decode b_D_checkSet 21 = .ok (.return_, 1) := by decide +kernel
theorem d_D_checkKind_0 : decode b_D_checkKind 0 = .ok (.iload_n 0, 1) := by decide +kernel
theorem d_D_checkKind_1 : decode b_D_checkKind 1 = .ok (.ifCond .lt 8, 3) := by decide +kernel
theorem d_D_checkKind_4 : decode b_D_checkKind 4 = .ok (.iload_n 0, 1) := by decide +kernel
theorem d_D_checkKind_5 : decode b_D_checkKind 5 = .ok (.iconst 5, 1) := by decide +kernel
theorem d_D_checkKind_6 : decode b_D_checkKind 6 = .ok (.if_icmp .lt 13, 3) := by decide +kernel
theorem d_D_checkKind_9 : decode b_D_checkKind 9 = .ok (.new 121, 3) := by decide +kernel
theorem d_D_checkKind_12 : decode b_D_checkKind 12 = .ok (.dup, 1) := by decide +kernel
theorem d_D_checkKind_13 : decode b_D_checkKind 13 = .ok (.ldc 134, 2) := by decide +kernel
theorem d_D_checkKind_15 : decode b_D_checkKind 15 = .ok (.invokespecial 125, 3) := by decide +kernel
theorem d_D_checkKind_18 : decode b_D_checkKind 18 = .ok (.athrow, 1) := by decide +kernel
theorem d_D_checkKind_19 : decode b_D_checkKind 19 = .ok (.return_, 1) := by decide +kernel
theorem d_D_isIn_0 : decode b_D_isIn 0 = .ok (.iload_n 0, 1) := by decide +kernel
theorem d_D_isIn_1 : decode b_D_isIn 1 = .ok (.iload_n 1, 1) := by decide +kernel
theorem d_D_isIn_2 : decode b_D_isIn 2 = .ok (.ishr, 1) := by decide +kernel
theorem d_D_isIn_3 : decode b_D_isIn 3 = .ok (.iconst 1, 1) := by decide +kernel
theorem d_D_isIn_4 : decode b_D_isIn 4 = .ok (.iand, 1) := by decide +kernel
theorem d_D_isIn_5 : decode b_D_isIn 5 = .ok (.ifCond .eq 7, 3) := by decide +kernel
theorem d_D_isIn_8 : decode b_D_isIn 8 = .ok (.iconst 1, 1) := by decide +kernel
theorem d_D_isIn_9 : decode b_D_isIn 9 = .ok (.goto 4, 3) := by decide +kernel
theorem d_D_isIn_12 : decode b_D_isIn 12 = .ok (.iconst 0, 1) := by decide +kernel
theorem d_D_isIn_13 : decode b_D_isIn 13 = .ok (.ireturn, 1) := by decide +kernel
theorem d_D_bitOf_0 : decode b_D_bitOf 0 = .ok (.aload_n 0, 1) := by decide +kernel
theorem d_D_bitOf_1 : decode b_D_bitOf 1 = .ok (.iload_n 1, 1) := by decide +kernel
theorem d_D_bitOf_2 : decode b_D_bitOf 2 = .ok (.bipush 6, 2) := by decide +kernel
theorem d_D_bitOf_4 : decode b_D_bitOf 4 = .ok (.ishr, 1) := by decide +kernel
theorem d_D_bitOf_5 : decode b_D_bitOf 5 = .ok (.laload, 1) := by decide +kernel
theorem d_D_bitOf_6 : decode b_D_bitOf 6 = .ok (.lstore_n 2, 1) := by decide +kernel
theorem d_D_bitOf_7 : decode b_D_bitOf 7 = .ok (.lload_n 2, 1) := by decide +kernel
theorem d_D_bitOf_8 : decode b_D_bitOf 8 = .ok (.iload_n 1, 1) := by decide +kernel
theorem d_D_bitOf_9 : decode b_D_bitOf 9 = .ok (.bipush 63, 2) := by decide +kernel
theorem d_D_bitOf_11 : decode b_D_bitOf 11 = .ok (.iand, 1) := by decide +kernel
theorem d_D_bitOf_12 : decode b_D_bitOf 12 = .ok (.lushr, 1) := by decide +kernel
theorem d_D_bitOf_13 : decode b_D_bitOf 13 = .ok (.lconst 1, 1) := by decide +kernel
theorem d_D_bitOf_14 : decode b_D_bitOf 14 = .ok (.land, 1) := by decide +kernel
theorem d_D_bitOf_15 : decode b_D_bitOf 15 = .ok (.l2i, 1) := by decide +kernel
theorem d_D_bitOf_16 : decode b_D_bitOf 16 = .ok (.ireturn, 1) := by decide +kernel
theorem d_D_joinedWord_0 : decode b_D_joinedWord 0 = .ok (.iload_n 0, 1) := by decide +kernel
theorem d_D_joinedWord_1 : decode b_D_joinedWord 1 = .ok (.tableswitch 51 0 3 #[31, 35, 39, 43], 31) := by decide +kernel
theorem d_D_joinedWord_32 : decode b_D_joinedWord 32 = .ok (.lload_n 1, 1) := by decide +kernel
theorem d_D_joinedWord_33 : decode b_D_joinedWord 33 = .ok (.lload_n 3, 1) := by decide +kernel
theorem d_D_joinedWord_34 : decode b_D_joinedWord 34 = .ok (.land, 1) := by decide +kernel
theorem d_D_joinedWord_35 : decode b_D_joinedWord 35 = .ok (.lreturn, 1) := by decide +kernel
theorem d_D_joinedWord_36 : decode b_D_joinedWord 36 = .ok (.lload_n 1, 1) := by decide +kernel
theorem d_D_joinedWord_37 : decode b_D_joinedWord 37 = .ok (.lload_n 3, 1) := by decide +kernel
theorem d_D_joinedWord_38 : decode b_D_joinedWord 38 = .ok (.lor, 1) := by decide +kernel
theorem d_D_joinedWord_39 : decode b_D_joinedWord 39 = .ok (.lreturn, 1) := by decide +kernel
theorem d_D_joinedWord_40 : decode b_D_joinedWord 40 = .ok (.lload_n 1, 1) := by decide +kernel
theorem d_D_joinedWord_41 : decode b_D_joinedWord 41 = .ok (.lload_n 3, 1) := by decide +kernel
theorem d_D_joinedWord_42 : decode b_D_joinedWord 42 = .ok (.lxor, 1) := by decide +kernel
theorem d_D_joinedWord_43 : decode b_D_joinedWord 43 = .ok (.lreturn, 1) := by decide +kernel
theorem d_D_joinedWord_44 : decode b_D_joinedWord 44 = .ok (.lload_n 1, 1) := by decide +kernel
theorem d_D_joinedWord_45 : decode b_D_joinedWord 45 = .ok (.ldc2_w 136, 3) := by decide +kernel
theorem d_D_joinedWord_48 : decode b_D_joinedWord 48 = .ok (.lxor, 1) := by decide +kernel
theorem d_D_joinedWord_49 : decode b_D_joinedWord 49 = .ok (.lload_n 3, 1) := by decide +kernel
theorem d_D_joinedWord_50 : decode b_D_joinedWord 50 = .ok (.lor, 1) := by decide +kernel
theorem d_D_joinedWord_51 : decode b_D_joinedWord 51 = .ok (.lreturn, 1) := by decide +kernel
theorem d_D_joinedWord_52 : decode b_D_joinedWord 52 = .ok (.lload_n 1, 1) := by decide +kernel
theorem d_D_joinedWord_53 : decode b_D_joinedWord 53 = .ok (.ldc2_w 136, 3) := by decide +kernel
theorem d_D_joinedWord_56 : decode b_D_joinedWord 56 = .ok (.lxor, 1) := by decide +kernel
theorem d_D_joinedWord_57 : decode b_D_joinedWord 57 = .ok (.lreturn, 1) := by decide +kernel
theorem d_D_chosenWord_0 : decode b_D_chosenWord 0 = .ok (.lload_n 0, 1) := by decide +kernel
theorem d_D_chosenWord_1 : decode b_D_chosenWord 1 = .ok (.lload_n 2, 1) := by decide +kernel
theorem d_D_chosenWord_2 : decode b_D_chosenWord 2 = .ok (.land, 1) := by decide +kernel
theorem d_D_chosenWord_3 : decode b_D_chosenWord 3 = .ok (.lload_n 0, 1) := by decide +kernel
theorem d_D_chosenWord_4 : decode b_D_chosenWord 4 = .ok (.ldc2_w 136, 3) := by decide +kernel
theorem d_D_chosenWord_7 : decode b_D_chosenWord 7 = .ok (.lxor, 1) := by decide +kernel
theorem d_D_chosenWord_8 : decode b_D_chosenWord 8 = .ok (.lload 4, 2) := by decide +kernel
theorem d_D_chosenWord_10 : decode b_D_chosenWord 10 = .ok (.land, 1) := by decide +kernel
theorem d_D_chosenWord_11 : decode b_D_chosenWord 11 = .ok (.lor, 1) := by decide +kernel
theorem d_D_chosenWord_12 : decode b_D_chosenWord 12 = .ok (.lreturn, 1) := by decide +kernel
theorem d_D_variableWord_0 : decode b_D_variableWord 0 = .ok (.iload_n 0, 1) := by decide +kernel
theorem d_D_variableWord_1 : decode b_D_variableWord 1 = .ok (.bipush 6, 2) := by decide +kernel
theorem d_D_variableWord_3 : decode b_D_variableWord 3 = .ok (.if_icmp .ge 9, 3) := by decide +kernel
theorem d_D_variableWord_6 : decode b_D_variableWord 6 = .ok (.getstatic 138, 3) := by decide +kernel
theorem d_D_variableWord_9 : decode b_D_variableWord 9 = .ok (.iload_n 0, 1) := by decide +kernel
theorem d_D_variableWord_10 : decode b_D_variableWord 10 = .ok (.laload, 1) := by decide +kernel
theorem d_D_variableWord_11 : decode b_D_variableWord 11 = .ok (.lreturn, 1) := by decide +kernel
theorem d_D_variableWord_12 : decode b_D_variableWord 12 = .ok (.iload_n 1, 1) := by decide +kernel
theorem d_D_variableWord_13 : decode b_D_variableWord 13 = .ok (.iload_n 0, 1) := by decide +kernel
theorem d_D_variableWord_14 : decode b_D_variableWord 14 = .ok (.bipush 6, 2) := by decide +kernel
theorem d_D_variableWord_16 : decode b_D_variableWord 16 = .ok (.isub, 1) := by decide +kernel
theorem d_D_variableWord_17 : decode b_D_variableWord 17 = .ok (.invokestatic 76, 3) := by decide +kernel
theorem d_D_variableWord_20 : decode b_D_variableWord 20 = .ok (.ifCond .eq 9, 3) := by decide +kernel
theorem d_D_variableWord_23 : decode b_D_variableWord 23 = .ok (.ldc2_w 136, 3) := by decide +kernel
theorem d_D_variableWord_26 : decode b_D_variableWord 26 = .ok (.goto 4, 3) := by decide +kernel
theorem d_D_variableWord_29 : decode b_D_variableWord 29 = .ok (.lconst 0, 1) := by decide +kernel
theorem d_D_variableWord_30 : decode b_D_variableWord 30 = .ok (.lreturn, 1) := by decide +kernel
theorem d_D_turnedWord_0 : decode b_D_turnedWord 0 = .ok (.iload_n 1, 1) := by decide +kernel
theorem d_D_turnedWord_1 : decode b_D_turnedWord 1 = .ok (.bipush 6, 2) := by decide +kernel
theorem d_D_turnedWord_3 : decode b_D_turnedWord 3 = .ok (.if_icmp .ge 36, 3) := by decide +kernel
theorem d_D_turnedWord_6 : decode b_D_turnedWord 6 = .ok (.getstatic 138, 3) := by decide +kernel
theorem d_D_turnedWord_9 : decode b_D_turnedWord 9 = .ok (.iload_n 1, 1) := by decide +kernel
theorem d_D_turnedWord_10 : decode b_D_turnedWord 10 = .ok (.laload, 1) := by decide +kernel
theorem d_D_turnedWord_11 : decode b_D_turnedWord 11 = .ok (.lstore_n 3, 1) := by decide +kernel
theorem d_D_turnedWord_12 : decode b_D_turnedWord 12 = .ok (.iconst 1, 1) := by decide +kernel
theorem d_D_turnedWord_13 : decode b_D_turnedWord 13 = .ok (.iload_n 1, 1) := by decide +kernel
theorem d_D_turnedWord_14 : decode b_D_turnedWord 14 = .ok (.ishl, 1) := by decide +kernel
theorem d_D_turnedWord_15 : decode b_D_turnedWord 15 = .ok (.istore 5, 2) := by decide +kernel
theorem d_D_turnedWord_17 : decode b_D_turnedWord 17 = .ok (.aload_n 0, 1) := by decide +kernel
theorem d_D_turnedWord_18 : decode b_D_turnedWord 18 = .ok (.iload_n 2, 1) := by decide +kernel
theorem d_D_turnedWord_19 : decode b_D_turnedWord 19 = .ok (.laload, 1) := by decide +kernel
theorem d_D_turnedWord_20 : decode b_D_turnedWord 20 = .ok (.lload_n 3, 1) := by decide +kernel
theorem d_D_turnedWord_21 : decode b_D_turnedWord 21 = .ok (.land, 1) := by decide +kernel
theorem d_D_turnedWord_22 : decode b_D_turnedWord 22 = .ok (.iload 5, 2) := by decide +kernel
theorem d_D_turnedWord_24 : decode b_D_turnedWord 24 = .ok (.lushr, 1) := by decide +kernel
theorem d_D_turnedWord_25 : decode b_D_turnedWord 25 = .ok (.aload_n 0, 1) := by decide +kernel
theorem d_D_turnedWord_26 : decode b_D_turnedWord 26 = .ok (.iload_n 2, 1) := by decide +kernel
theorem d_D_turnedWord_27 : decode b_D_turnedWord 27 = .ok (.laload, 1) := by decide +kernel
theorem d_D_turnedWord_28 : decode b_D_turnedWord 28 = .ok (.lload_n 3, 1) := by decide +kernel
theorem d_D_turnedWord_29 : decode b_D_turnedWord 29 = .ok (.ldc2_w 136, 3) := by decide +kernel
theorem d_D_turnedWord_32 : decode b_D_turnedWord 32 = .ok (.lxor, 1) := by decide +kernel
theorem d_D_turnedWord_33 : decode b_D_turnedWord 33 = .ok (.land, 1) := by decide +kernel
theorem d_D_turnedWord_34 : decode b_D_turnedWord 34 = .ok (.iload 5, 2) := by decide +kernel
theorem d_D_turnedWord_36 : decode b_D_turnedWord 36 = .ok (.lshl, 1) := by decide +kernel
theorem d_D_turnedWord_37 : decode b_D_turnedWord 37 = .ok (.lor, 1) := by decide +kernel
theorem d_D_turnedWord_38 : decode b_D_turnedWord 38 = .ok (.lreturn, 1) := by decide +kernel
theorem d_D_turnedWord_39 : decode b_D_turnedWord 39 = .ok (.aload_n 0, 1) := by decide +kernel
theorem d_D_turnedWord_40 : decode b_D_turnedWord 40 = .ok (.iload_n 2, 1) := by decide +kernel
theorem d_D_turnedWord_41 : decode b_D_turnedWord 41 = .ok (.iconst 1, 1) := by decide +kernel
theorem d_D_turnedWord_42 : decode b_D_turnedWord 42 = .ok (.iload_n 1, 1) := by decide +kernel
theorem d_D_turnedWord_43 : decode b_D_turnedWord 43 = .ok (.bipush 6, 2) := by decide +kernel
theorem d_D_turnedWord_45 : decode b_D_turnedWord 45 = .ok (.isub, 1) := by decide +kernel
theorem d_D_turnedWord_46 : decode b_D_turnedWord 46 = .ok (.ishl, 1) := by decide +kernel
theorem d_D_turnedWord_47 : decode b_D_turnedWord 47 = .ok (.ixor, 1) := by decide +kernel
theorem d_D_turnedWord_48 : decode b_D_turnedWord 48 = .ok (.laload, 1) := by decide +kernel
theorem d_D_turnedWord_49 : decode b_D_turnedWord 49 = .ok (.lreturn, 1) := by decide +kernel
theorem d_D_fixedWord_0 : decode b_D_fixedWord 0 = .ok (.iload_n 2, 1) := by decide +kernel
theorem d_D_fixedWord_1 : decode b_D_fixedWord 1 = .ok (.ifCond .eq 11, 3) := by decide +kernel
theorem d_D_fixedWord_4 : decode b_D_fixedWord 4 = .ok (.iload_n 1, 1) := by decide +kernel
theorem d_D_fixedWord_5 : decode b_D_fixedWord 5 = .ok (.iload_n 3, 1) := by decide +kernel
theorem d_D_fixedWord_6 : decode b_D_fixedWord 6 = .ok (.invokestatic 35, 3) := by decide +kernel
theorem d_D_fixedWord_9 : decode b_D_fixedWord 9 = .ok (.goto 12, 3) := by decide +kernel
theorem d_D_fixedWord_12 : decode b_D_fixedWord 12 = .ok (.iload_n 1, 1) := by decide +kernel
theorem d_D_fixedWord_13 : decode b_D_fixedWord 13 = .ok (.iload_n 3, 1) := by decide +kernel
theorem d_D_fixedWord_14 : decode b_D_fixedWord 14 = .ok (.invokestatic 35, 3) := by decide +kernel
theorem d_D_fixedWord_17 : decode b_D_fixedWord 17 = .ok (.ldc2_w 136, 3) := by decide +kernel
theorem d_D_fixedWord_20 : decode b_D_fixedWord 20 = .ok (.lxor, 1) := by decide +kernel
theorem d_D_fixedWord_21 : decode b_D_fixedWord 21 = .ok (.lstore 4, 2) := by decide +kernel
theorem d_D_fixedWord_23 : decode b_D_fixedWord 23 = .ok (.lload 4, 2) := by decide +kernel
theorem d_D_fixedWord_25 : decode b_D_fixedWord 25 = .ok (.aload_n 0, 1) := by decide +kernel
theorem d_D_fixedWord_26 : decode b_D_fixedWord 26 = .ok (.iload_n 3, 1) := by decide +kernel
theorem d_D_fixedWord_27 : decode b_D_fixedWord 27 = .ok (.laload, 1) := by decide +kernel
theorem d_D_fixedWord_28 : decode b_D_fixedWord 28 = .ok (.aload_n 0, 1) := by decide +kernel
theorem d_D_fixedWord_29 : decode b_D_fixedWord 29 = .ok (.iload_n 1, 1) := by decide +kernel
theorem d_D_fixedWord_30 : decode b_D_fixedWord 30 = .ok (.iload_n 3, 1) := by decide +kernel
theorem d_D_fixedWord_31 : decode b_D_fixedWord 31 = .ok (.invokestatic 84, 3) := by decide +kernel
theorem d_D_fixedWord_34 : decode b_D_fixedWord 34 = .ok (.invokestatic 55, 3) := by decide +kernel
theorem d_D_fixedWord_37 : decode b_D_fixedWord 37 = .ok (.lreturn, 1) := by decide +kernel
theorem d_D_hangsOn_0 : decode b_D_hangsOn 0 = .ok (.iconst 0, 1) := by decide +kernel
theorem d_D_hangsOn_1 : decode b_D_hangsOn 1 = .ok (.istore_n 2, 1) := by decide +kernel
theorem d_D_hangsOn_2 : decode b_D_hangsOn 2 = .ok (.iload_n 2, 1) := by decide +kernel
theorem d_D_hangsOn_3 : decode b_D_hangsOn 3 = .ok (.bipush 16, 2) := by decide +kernel
theorem d_D_hangsOn_5 : decode b_D_hangsOn 5 = .ok (.if_icmp .ge 24, 3) := by decide +kernel
theorem d_D_hangsOn_8 : decode b_D_hangsOn 8 = .ok (.aload_n 0, 1) := by decide +kernel
theorem d_D_hangsOn_9 : decode b_D_hangsOn 9 = .ok (.iload_n 2, 1) := by decide +kernel
theorem d_D_hangsOn_10 : decode b_D_hangsOn 10 = .ok (.laload, 1) := by decide +kernel
theorem d_D_hangsOn_11 : decode b_D_hangsOn 11 = .ok (.aload_n 0, 1) := by decide +kernel
theorem d_D_hangsOn_12 : decode b_D_hangsOn 12 = .ok (.iload_n 1, 1) := by decide +kernel
theorem d_D_hangsOn_13 : decode b_D_hangsOn 13 = .ok (.iload_n 2, 1) := by decide +kernel
theorem d_D_hangsOn_14 : decode b_D_hangsOn 14 = .ok (.invokestatic 84, 3) := by decide +kernel
theorem d_D_hangsOn_17 : decode b_D_hangsOn 17 = .ok (.lcmp, 1) := by decide +kernel
theorem d_D_hangsOn_18 : decode b_D_hangsOn 18 = .ok (.ifCond .eq 5, 3) := by decide +kernel
theorem d_D_hangsOn_21 : decode b_D_hangsOn 21 = .ok (.iconst 1, 1) := by decide +kernel
theorem d_D_hangsOn_22 : decode b_D_hangsOn 22 = .ok (.ireturn, 1) := by decide +kernel
theorem d_D_hangsOn_23 : decode b_D_hangsOn 23 = .ok (.iinc 2 1, 3) := by decide +kernel
theorem d_D_hangsOn_26 : decode b_D_hangsOn 26 = .ok (.goto (-24), 3) := by decide +kernel
theorem d_D_hangsOn_29 : decode b_D_hangsOn 29 = .ok (.iconst 0, 1) := by decide +kernel
theorem d_D_hangsOn_30 : decode b_D_hangsOn 30 = .ok (.ireturn, 1) := by decide +kernel
end
section
theorem d_D_store_0 : decode b_D_store 0 = .ok (.aload_n 1, 1) := by decide +kernel
theorem d_D_store_1 : decode b_D_store 1 = .ok (.iconst 0, 1) := by decide +kernel
theorem d_D_store_2 : decode b_D_store 2 = .ok (.aload_n 0, 1) := by decide +kernel
theorem d_D_store_3 : decode b_D_store 3 = .ok (.getfield 11, 3) := by decide +kernel
theorem d_D_store_6 : decode b_D_store 6 = .ok (.iload_n 2, 1) := by decide +kernel
theorem d_D_store_7 : decode b_D_store 7 = .ok (.aaload, 1) := by decide +kernel
theorem d_D_store_8 : decode b_D_store 8 = .ok (.iconst 0, 1) := by decide +kernel
theorem d_D_store_9 : decode b_D_store 9 = .ok (.bipush 16, 2) := by decide +kernel
theorem d_D_store_11 : decode b_D_store 11 = .ok (.invokestatic 70, 3) := by decide +kernel
theorem d_D_store_14 : decode b_D_store 14 = .ok (.return_, 1) := by decide +kernel
theorem d_D_bindWork_0 : decode b_D_bindWork 0 = .ok (.iconst 0, 1) := by decide +kernel
theorem d_D_bindWork_1 : decode b_D_bindWork 1 = .ok (.istore_n 3, 1) := by decide +kernel
theorem d_D_bindWork_2 : decode b_D_bindWork 2 = .ok (.iload_n 3, 1) := by decide +kernel
theorem d_D_bindWork_3 : decode b_D_bindWork 3 = .ok (.bipush 16, 2) := by decide +kernel
theorem d_D_bindWork_5 : decode b_D_bindWork 5 = .ok (.if_icmp .ge 51, 3) := by decide +kernel
theorem d_D_bindWork_8 : decode b_D_bindWork 8 = .ok (.aload_n 0, 1) := by decide +kernel
theorem d_D_bindWork_9 : decode b_D_bindWork 9 = .ok (.getfield 14, 3) := by decide +kernel
theorem d_D_bindWork_12 : decode b_D_bindWork 12 = .ok (.iload_n 1, 1) := by decide +kernel
theorem d_D_bindWork_13 : decode b_D_bindWork 13 = .ok (.iload_n 3, 1) := by decide +kernel
theorem d_D_bindWork_14 : decode b_D_bindWork 14 = .ok (.invokestatic 84, 3) := by decide +kernel
theorem d_D_bindWork_17 : decode b_D_bindWork 17 = .ok (.lstore 4, 2) := by decide +kernel
theorem d_D_bindWork_19 : decode b_D_bindWork 19 = .ok (.aload_n 0, 1) := by decide +kernel
theorem d_D_bindWork_20 : decode b_D_bindWork 20 = .ok (.getfield 18, 3) := by decide +kernel
theorem d_D_bindWork_23 : decode b_D_bindWork 23 = .ok (.iload_n 3, 1) := by decide +kernel
theorem d_D_bindWork_24 : decode b_D_bindWork 24 = .ok (.iload_n 2, 1) := by decide +kernel
theorem d_D_bindWork_25 : decode b_D_bindWork 25 = .ok (.ifCond .eq 15, 3) := by decide +kernel
theorem d_D_bindWork_28 : decode b_D_bindWork 28 = .ok (.aload_n 0, 1) := by decide +kernel
theorem d_D_bindWork_29 : decode b_D_bindWork 29 = .ok (.getfield 14, 3) := by decide +kernel
theorem d_D_bindWork_32 : decode b_D_bindWork 32 = .ok (.iload_n 3, 1) := by decide +kernel
theorem d_D_bindWork_33 : decode b_D_bindWork 33 = .ok (.laload, 1) := by decide +kernel
theorem d_D_bindWork_34 : decode b_D_bindWork 34 = .ok (.lload 4, 2) := by decide +kernel
theorem d_D_bindWork_36 : decode b_D_bindWork 36 = .ok (.land, 1) := by decide +kernel
theorem d_D_bindWork_37 : decode b_D_bindWork 37 = .ok (.goto 12, 3) := by decide +kernel
theorem d_D_bindWork_40 : decode b_D_bindWork 40 = .ok (.aload_n 0, 1) := by decide +kernel
theorem d_D_bindWork_41 : decode b_D_bindWork 41 = .ok (.getfield 14, 3) := by decide +kernel
theorem d_D_bindWork_44 : decode b_D_bindWork 44 = .ok (.iload_n 3, 1) := by decide +kernel
theorem d_D_bindWork_45 : decode b_D_bindWork 45 = .ok (.laload, 1) := by decide +kernel
theorem d_D_bindWork_46 : decode b_D_bindWork 46 = .ok (.lload 4, 2) := by decide +kernel
theorem d_D_bindWork_48 : decode b_D_bindWork 48 = .ok (.lor, 1) := by decide +kernel
theorem d_D_bindWork_49 : decode b_D_bindWork 49 = .ok (.lastore, 1) := by decide +kernel
theorem d_D_bindWork_50 : decode b_D_bindWork 50 = .ok (.iinc 3 1, 3) := by decide +kernel
theorem d_D_bindWork_53 : decode b_D_bindWork 53 = .ok (.goto (-51), 3) := by decide +kernel
theorem d_D_bindWork_56 : decode b_D_bindWork 56 = .ok (.aload_n 0, 1) := by decide +kernel
theorem d_D_bindWork_57 : decode b_D_bindWork 57 = .ok (.getfield 18, 3) := by decide +kernel
theorem d_D_bindWork_60 : decode b_D_bindWork 60 = .ok (.iconst 0, 1) := by decide +kernel
theorem d_D_bindWork_61 : decode b_D_bindWork 61 = .ok (.aload_n 0, 1) := by decide +kernel
theorem d_D_bindWork_62 : decode b_D_bindWork 62 = .ok (.getfield 14, 3) := by decide +kernel
theorem d_D_bindWork_65 : decode b_D_bindWork 65 = .ok (.iconst 0, 1) := by decide +kernel
theorem d_D_bindWork_66 : decode b_D_bindWork 66 = .ok (.bipush 16, 2) := by decide +kernel
theorem d_D_bindWork_68 : decode b_D_bindWork 68 = .ok (.invokestatic 70, 3) := by decide +kernel
theorem d_D_bindWork_71 : decode b_D_bindWork 71 = .ok (.return_, 1) := by decide +kernel
theorem d_D_isEmptyWork_0 : decode b_D_isEmptyWork 0 = .ok (.iconst 0, 1) := by decide +kernel
theorem d_D_isEmptyWork_1 : decode b_D_isEmptyWork 1 = .ok (.istore_n 1, 1) := by decide +kernel
theorem d_D_isEmptyWork_2 : decode b_D_isEmptyWork 2 = .ok (.iload_n 1, 1) := by decide +kernel
theorem d_D_isEmptyWork_3 : decode b_D_isEmptyWork 3 = .ok (.bipush 16, 2) := by decide +kernel
theorem d_D_isEmptyWork_5 : decode b_D_isEmptyWork 5 = .ok (.if_icmp .ge 22, 3) := by decide +kernel
theorem d_D_isEmptyWork_8 : decode b_D_isEmptyWork 8 = .ok (.aload_n 0, 1) := by decide +kernel
theorem d_D_isEmptyWork_9 : decode b_D_isEmptyWork 9 = .ok (.getfield 14, 3) := by decide +kernel
theorem d_D_isEmptyWork_12 : decode b_D_isEmptyWork 12 = .ok (.iload_n 1, 1) := by decide +kernel
theorem d_D_isEmptyWork_13 : decode b_D_isEmptyWork 13 = .ok (.laload, 1) := by decide +kernel
theorem d_D_isEmptyWork_14 : decode b_D_isEmptyWork 14 = .ok (.lconst 0, 1) := by decide +kernel
theorem d_D_isEmptyWork_15 : decode b_D_isEmptyWork 15 = .ok (.lcmp, 1) := by decide +kernel
theorem d_D_isEmptyWork_16 : decode b_D_isEmptyWork 16 = .ok (.ifCond .eq 5, 3) := by decide +kernel
theorem d_D_isEmptyWork_19 : decode b_D_isEmptyWork 19 = .ok (.iconst 0, 1) := by decide +kernel
theorem d_D_isEmptyWork_20 : decode b_D_isEmptyWork 20 = .ok (.ireturn, 1) := by decide +kernel
theorem d_D_isEmptyWork_21 : decode b_D_isEmptyWork 21 = .ok (.iinc 1 1, 3) := by decide +kernel
theorem d_D_isEmptyWork_24 : decode b_D_isEmptyWork 24 = .ok (.goto (-22), 3) := by decide +kernel
theorem d_D_isEmptyWork_27 : decode b_D_isEmptyWork 27 = .ok (.iconst 1, 1) := by decide +kernel
theorem d_D_isEmptyWork_28 : decode b_D_isEmptyWork 28 = .ok (.ireturn, 1) := by decide +kernel
theorem d_D_narrowWorkToFalse_0 : decode b_D_narrowWorkToFalse 0 = .ok (.lconst 0, 1) := by decide +kernel
theorem d_D_narrowWorkToFalse_1 : decode b_D_narrowWorkToFalse 1 = .ok (.lstore_n 2, 1) := by decide +kernel
theorem d_D_narrowWorkToFalse_2 : decode b_D_narrowWorkToFalse 2 = .ok (.iconst 0, 1) := by decide +kernel
theorem d_D_narrowWorkToFalse_3 : decode b_D_narrowWorkToFalse 3 = .ok (.istore 4, 2) := by decide +kernel
theorem d_D_narrowWorkToFalse_5 : decode b_D_narrowWorkToFalse 5 = .ok (.iload 4, 2) := by decide +kernel
theorem d_D_narrowWorkToFalse_7 : decode b_D_narrowWorkToFalse 7 = .ok (.bipush 16, 2) := by decide +kernel
theorem d_D_narrowWorkToFalse_9 : decode b_D_narrowWorkToFalse 9 = .ok (.if_icmp .ge 44, 3) := by decide +kernel
theorem d_D_narrowWorkToFalse_12 : decode b_D_narrowWorkToFalse 12 = .ok (.aload_n 0, 1) := by decide +kernel
theorem d_D_narrowWorkToFalse_13 : decode b_D_narrowWorkToFalse 13 = .ok (.getfield 18, 3) := by decide +kernel
theorem d_D_narrowWorkToFalse_16 : decode b_D_narrowWorkToFalse 16 = .ok (.iload 4, 2) := by decide +kernel
theorem d_D_narrowWorkToFalse_18 : decode b_D_narrowWorkToFalse 18 = .ok (.aload_n 0, 1) := by decide +kernel
theorem d_D_narrowWorkToFalse_19 : decode b_D_narrowWorkToFalse 19 = .ok (.getfield 14, 3) := by decide +kernel
theorem d_D_narrowWorkToFalse_22 : decode b_D_narrowWorkToFalse 22 = .ok (.iload 4, 2) := by decide +kernel
theorem d_D_narrowWorkToFalse_24 : decode b_D_narrowWorkToFalse 24 = .ok (.laload, 1) := by decide +kernel
theorem d_D_narrowWorkToFalse_25 : decode b_D_narrowWorkToFalse 25 = .ok (.iload_n 1, 1) := by decide +kernel
theorem d_D_narrowWorkToFalse_26 : decode b_D_narrowWorkToFalse 26 = .ok (.iload 4, 2) := by decide +kernel
theorem d_D_narrowWorkToFalse_28 : decode b_D_narrowWorkToFalse 28 = .ok (.invokestatic 35, 3) := by decide +kernel
theorem d_D_narrowWorkToFalse_31 : decode b_D_narrowWorkToFalse 31 = .ok (.ldc2_w 136, 3) := by decide +kernel
theorem d_D_narrowWorkToFalse_34 : decode b_D_narrowWorkToFalse 34 = .ok (.lxor, 1) := by decide +kernel
theorem d_D_narrowWorkToFalse_35 : decode b_D_narrowWorkToFalse 35 = .ok (.land, 1) := by decide +kernel
theorem d_D_narrowWorkToFalse_36 : decode b_D_narrowWorkToFalse 36 = .ok (.lastore, 1) := by decide +kernel
theorem d_D_narrowWorkToFalse_37 : decode b_D_narrowWorkToFalse 37 = .ok (.lload_n 2, 1) := by decide +kernel
theorem d_D_narrowWorkToFalse_38 : decode b_D_narrowWorkToFalse 38 = .ok (.aload_n 0, 1) := by decide +kernel
theorem d_D_narrowWorkToFalse_39 : decode b_D_narrowWorkToFalse 39 = .ok (.getfield 18, 3) := by decide +kernel
theorem d_D_narrowWorkToFalse_42 : decode b_D_narrowWorkToFalse 42 = .ok (.iload 4, 2) := by decide +kernel
theorem d_D_narrowWorkToFalse_44 : decode b_D_narrowWorkToFalse 44 = .ok (.laload, 1) := by decide +kernel
theorem d_D_narrowWorkToFalse_45 : decode b_D_narrowWorkToFalse 45 = .ok (.lor, 1) := by decide +kernel
theorem d_D_narrowWorkToFalse_46 : decode b_D_narrowWorkToFalse 46 = .ok (.lstore_n 2, 1) := by decide +kernel
theorem d_D_narrowWorkToFalse_47 : decode b_D_narrowWorkToFalse 47 = .ok (.iinc 4 1, 3) := by decide +kernel
theorem d_D_narrowWorkToFalse_50 : decode b_D_narrowWorkToFalse 50 = .ok (.goto (-45), 3) := by decide +kernel
theorem d_D_narrowWorkToFalse_53 : decode b_D_narrowWorkToFalse 53 = .ok (.lload_n 2, 1) := by decide +kernel
theorem d_D_narrowWorkToFalse_54 : decode b_D_narrowWorkToFalse 54 = .ok (.lconst 0, 1) := by decide +kernel
theorem d_D_narrowWorkToFalse_55 : decode b_D_narrowWorkToFalse 55 = .ok (.lcmp, 1) := by decide +kernel
theorem d_D_narrowWorkToFalse_56 : decode b_D_narrowWorkToFalse 56 = .ok (.ifCond .ne 5, 3) := by decide +kernel
theorem d_D_narrowWorkToFalse_59 : decode b_D_narrowWorkToFalse 59 = .ok (.iconst 0, 1) := by decide +kernel
theorem d_D_narrowWorkToFalse_60 : decode b_D_narrowWorkToFalse 60 = .ok (.ireturn, 1) := by decide +kernel
theorem d_D_narrowWorkToFalse_61 : decode b_D_narrowWorkToFalse 61 = .ok (.aload_n 0, 1) := by decide +kernel
theorem d_D_narrowWorkToFalse_62 : decode b_D_narrowWorkToFalse 62 = .ok (.getfield 18, 3) := by decide +kernel
theorem d_D_narrowWorkToFalse_65 : decode b_D_narrowWorkToFalse 65 = .ok (.iconst 0, 1) := by decide +kernel
theorem d_D_narrowWorkToFalse_66 : decode b_D_narrowWorkToFalse 66 = .ok (.aload_n 0, 1) := by decide +kernel
theorem d_D_narrowWorkToFalse_67 : decode b_D_narrowWorkToFalse 67 = .ok (.getfield 14, 3) := by decide +kernel
theorem d_D_narrowWorkToFalse_70 : decode b_D_narrowWorkToFalse 70 = .ok (.iconst 0, 1) := by decide +kernel
theorem d_D_narrowWorkToFalse_71 : decode b_D_narrowWorkToFalse 71 = .ok (.bipush 16, 2) := by decide +kernel
theorem d_D_narrowWorkToFalse_73 : decode b_D_narrowWorkToFalse 73 = .ok (.invokestatic 70, 3) := by decide +kernel
theorem d_D_narrowWorkToFalse_76 : decode b_D_narrowWorkToFalse 76 = .ok (.iconst 1, 1) := by decide +kernel
theorem d_D_narrowWorkToFalse_77 : decode b_D_narrowWorkToFalse 77 = .ok (.ireturn, 1) := by decide +kernel
theorem d_D_countNodes_0 : decode b_D_countNodes 0 = .ok (.aload_n 0, 1) := by decide +kernel
theorem d_D_countNodes_1 : decode b_D_countNodes 1 = .ok (.getfield 24, 3) := by decide +kernel
theorem d_D_countNodes_4 : decode b_D_countNodes 4 = .ok (.invokevirtual 141, 3) := by decide +kernel
theorem d_D_countNodes_7 : decode b_D_countNodes 7 = .ok (.iload_n 1, 1) := by decide +kernel
theorem d_D_countNodes_8 : decode b_D_countNodes 8 = .ok (.istore_n 3, 1) := by decide +kernel
theorem d_D_countNodes_9 : decode b_D_countNodes 9 = .ok (.iload_n 3, 1) := by decide +kernel
theorem d_D_countNodes_10 : decode b_D_countNodes 10 = .ok (.iload_n 2, 1) := by decide +kernel
theorem d_D_countNodes_11 : decode b_D_countNodes 11 = .ok (.if_icmp .ge 22, 3) := by decide +kernel
theorem d_D_countNodes_14 : decode b_D_countNodes 14 = .ok (.aload_n 0, 1) := by decide +kernel
theorem d_D_countNodes_15 : decode b_D_countNodes 15 = .ok (.getfield 24, 3) := by decide +kernel
theorem d_D_countNodes_18 : decode b_D_countNodes 18 = .ok (.aload_n 0, 1) := by decide +kernel
theorem d_D_countNodes_19 : decode b_D_countNodes 19 = .ok (.getfield 11, 3) := by decide +kernel
theorem d_D_countNodes_22 : decode b_D_countNodes 22 = .ok (.iload_n 3, 1) := by decide +kernel
theorem d_D_countNodes_23 : decode b_D_countNodes 23 = .ok (.aaload, 1) := by decide +kernel
theorem d_D_countNodes_24 : decode b_D_countNodes 24 = .ok (.invokevirtual 144, 3) := by decide +kernel
theorem d_D_countNodes_27 : decode b_D_countNodes 27 = .ok (.iinc 3 1, 3) := by decide +kernel
theorem d_D_countNodes_30 : decode b_D_countNodes 30 = .ok (.goto (-21), 3) := by decide +kernel
theorem d_D_countNodes_33 : decode b_D_countNodes 33 = .ok (.aload_n 0, 1) := by decide +kernel
theorem d_D_countNodes_34 : decode b_D_countNodes 34 = .ok (.getfield 24, 3) := by decide +kernel
theorem d_D_countNodes_37 : decode b_D_countNodes 37 = .ok (.getfield 148, 3) := by decide +kernel
theorem d_D_countNodes_40 : decode b_D_countNodes 40 = .ok (.ireturn, 1) := by decide +kernel
theorem d_M_init_0 : decode b_M_init 0 = .ok (.aload_n 0, 1) := by decide +kernel
theorem d_M_init_1 : decode b_M_init 1 = .ok (.invokespecial 1, 3) := by decide +kernel
theorem d_M_init_4 : decode b_M_init 4 = .ok (.aload_n 0, 1) := by decide +kernel
theorem d_M_init_5 : decode b_M_init 5 = .ok (.iconst 0, 1) := by decide +kernel
theorem d_M_init_6 : decode b_M_init 6 = .ok (.putfield 7, 3) := by decide +kernel
theorem d_M_init_9 : decode b_M_init 9 = .ok (.aload_n 0, 1) := by decide +kernel
theorem d_M_init_10 : decode b_M_init 10 = .ok (.bipush 16, 2) := by decide +kernel
theorem d_M_init_12 : decode b_M_init 12 = .ok (.sipush 1024, 3) := by decide +kernel
theorem d_M_init_15 : decode b_M_init 15 = .ok (.multianewarray 13 2, 4) := by decide +kernel
theorem d_M_init_19 : decode b_M_init 19 = .ok (.putfield 15, 3) := by decide +kernel
theorem d_M_init_22 : decode b_M_init 22 = .ok (.aload_n 0, 1) := by decide +kernel
theorem d_M_init_23 : decode b_M_init 23 = .ok (.sipush 1024, 3) := by decide +kernel
theorem d_M_init_26 : decode b_M_init 26 = .ok (.newarray .boolean, 2) := by decide +kernel
theorem d_M_init_28 : decode b_M_init 28 = .ok (.putfield 18, 3) := by decide +kernel
theorem d_M_init_31 : decode b_M_init 31 = .ok (.aload_n 0, 1) := by decide +kernel
theorem d_M_init_32 : decode b_M_init 32 = .ok (.sipush 16384, 3) := by decide +kernel
theorem d_M_init_35 : decode b_M_init 35 = .ok (.newarray .int, 2) := by decide +kernel
theorem d_M_init_37 : decode b_M_init 37 = .ok (.putfield 22, 3) := by decide +kernel
theorem d_M_init_40 : decode b_M_init 40 = .ok (.aload_n 0, 1) := by decide +kernel
theorem d_M_init_41 : decode b_M_init 41 = .ok (.sipush 16384, 3) := by decide +kernel
theorem d_M_init_44 : decode b_M_init 44 = .ok (.newarray .int, 2) := by decide +kernel
theorem d_M_init_46 : decode b_M_init 46 = .ok (.putfield 26, 3) := by decide +kernel
theorem d_M_init_49 : decode b_M_init 49 = .ok (.return_, 1) := by decide +kernel
theorem d_M_thrown_0 : decode b_M_thrown 0 = .ok (.aload_n 0, 1) := by decide +kernel
theorem d_M_thrown_1 : decode b_M_thrown 1 = .ok (.getfield 7, 3) := by decide +kernel
theorem d_M_thrown_4 : decode b_M_thrown 4 = .ok (.ireturn, 1) := by decide +kernel
theorem d_M_bad_0 : decode b_M_bad 0 = .ok (.aload_n 0, 1) := by decide +kernel
theorem d_M_bad_1 : decode b_M_bad 1 = .ok (.iload_n 1, 1) := by decide +kernel
theorem d_M_bad_2 : decode b_M_bad 2 = .ok (.ifCond .eq 7, 3) := by decide +kernel
theorem d_M_bad_5 : decode b_M_bad 5 = .ok (.iconst 1, 1) := by decide +kernel
theorem d_M_bad_6 : decode b_M_bad 6 = .ok (.goto 4, 3) := by decide +kernel
theorem d_M_bad_9 : decode b_M_bad 9 = .ok (.iconst 0, 1) := by decide +kernel
theorem d_M_bad_10 : decode b_M_bad 10 = .ok (.putfield 7, 3) := by decide +kernel
theorem d_M_bad_13 : decode b_M_bad 13 = .ok (.iload_n 1, 1) := by decide +kernel
theorem d_M_bad_14 : decode b_M_bad 14 = .ok (.ireturn, 1) := by decide +kernel
theorem d_M_none_0 : decode b_M_none 0 = .ok (.iload_n 0, 1) := by decide +kernel
theorem d_M_none_1 : decode b_M_none 1 = .ok (.ifCond .lt 9, 3) := by decide +kernel
theorem d_M_none_4 : decode b_M_none 4 = .ok (.iload_n 0, 1) := by decide +kernel
theorem d_M_none_5 : decode b_M_none 5 = .ok (.bipush 15, 2) := by decide +kernel
theorem d_M_none_7 : decode b_M_none 7 = .ok (.if_icmp .le 7, 3) := by decide +kernel
theorem d_M_none_10 : decode b_M_none 10 = .ok (.iconst 1, 1) := by decide +kernel
theorem d_M_none_11 : decode b_M_none 11 = .ok (.goto 4, 3) := by decide +kernel
theorem d_M_none_14 : decode b_M_none 14 = .ok (.iconst 0, 1) := by decide +kernel
theorem d_M_none_15 : decode b_M_none 15 = .ok (.ireturn, 1) := by decide +kernel
theorem d_M_outside_0 : decode b_M_outside 0 = .ok (.iload_n 0, 1) := by decide +kernel
theorem d_M_outside_1 : decode b_M_outside 1 = .ok (.ifCond .lt 9, 3) := by decide +kernel
theorem d_M_outside_4 : decode b_M_outside 4 = .ok (.iload_n 0, 1) := by decide +kernel
theorem d_M_outside_5 : decode b_M_outside 5 = .ok (.bipush 9, 2) := by decide +kernel
theorem d_M_outside_7 : decode b_M_outside 7 = .ok (.if_icmp .le 7, 3) := by decide +kernel
theorem d_M_outside_10 : decode b_M_outside 10 = .ok (.iconst 1, 1) := by decide +kernel
theorem d_M_outside_11 : decode b_M_outside 11 = .ok (.goto 4, 3) := by decide +kernel
theorem d_M_outside_14 : decode b_M_outside 14 = .ok (.iconst 0, 1) := by decide +kernel
theorem d_M_outside_15 : decode b_M_outside 15 = .ok (.ireturn, 1) := by decide +kernel
theorem d_M_beyond_0 : decode b_M_beyond 0 = .ok (.iload_n 0, 1) := by decide +kernel
theorem d_M_beyond_1 : decode b_M_beyond 1 = .ok (.ifCond .lt 10, 3) := by decide +kernel
theorem d_M_beyond_4 : decode b_M_beyond 4 = .ok (.iload_n 0, 1) := by decide +kernel
theorem d_M_beyond_5 : decode b_M_beyond 5 = .ok (.sipush 1024, 3) := by decide +kernel
theorem d_M_beyond_8 : decode b_M_beyond 8 = .ok (.if_icmp .lt 7, 3) := by decide +kernel
theorem d_M_beyond_11 : decode b_M_beyond 11 = .ok (.iconst 1, 1) := by decide +kernel
theorem d_M_beyond_12 : decode b_M_beyond 12 = .ok (.goto 4, 3) := by decide +kernel
theorem d_M_beyond_15 : decode b_M_beyond 15 = .ok (.iconst 0, 1) := by decide +kernel
theorem d_M_beyond_16 : decode b_M_beyond 16 = .ok (.ireturn, 1) := by decide +kernel
theorem d_M_keep_0 : decode b_M_keep 0 = .ok (.aload_n 0, 1) := by decide +kernel
theorem d_M_keep_1 : decode b_M_keep 1 = .ok (.getfield 18, 3) := by decide +kernel
theorem d_M_keep_4 : decode b_M_keep 4 = .ok (.iconst 0, 1) := by decide +kernel
theorem d_M_keep_5 : decode b_M_keep 5 = .ok (.aload_n 0, 1) := by decide +kernel
theorem d_M_keep_6 : decode b_M_keep 6 = .ok (.getfield 15, 3) := by decide +kernel
theorem d_M_keep_9 : decode b_M_keep 9 = .ok (.iload_n 1, 1) := by decide +kernel
theorem d_M_keep_10 : decode b_M_keep 10 = .ok (.aaload, 1) := by decide +kernel
theorem d_M_keep_11 : decode b_M_keep 11 = .ok (.iconst 0, 1) := by decide +kernel
theorem d_M_keep_12 : decode b_M_keep 12 = .ok (.sipush 1024, 3) := by decide +kernel
theorem d_M_keep_15 : decode b_M_keep 15 = .ok (.invokestatic 29, 3) := by decide +kernel
theorem d_M_keep_18 : decode b_M_keep 18 = .ok (.return_, 1) := by decide +kernel
theorem d_M_variable_0 : decode b_M_variable 0 = .ok (.aload_n 0, 1) := by decide +kernel
theorem d_M_variable_1 : decode b_M_variable 1 = .ok (.iload_n 1, 1) := by decide +kernel
theorem d_M_variable_2 : decode b_M_variable 2 = .ok (.invokestatic 35, 3) := by decide +kernel
theorem d_M_variable_5 : decode b_M_variable 5 = .ok (.ifCond .ne 10, 3) := by decide +kernel
theorem d_M_variable_8 : decode b_M_variable 8 = .ok (.iload_n 2, 1) := by decide +kernel
theorem d_M_variable_9 : decode b_M_variable 9 = .ok (.invokestatic 39, 3) := by decide +kernel
theorem d_M_variable_12 : decode b_M_variable 12 = .ok (.ifCond .eq 7, 3) := by decide +kernel
theorem d_M_variable_15 : decode b_M_variable 15 = .ok (.iconst 1, 1) := by decide +kernel
theorem d_M_variable_16 : decode b_M_variable 16 = .ok (.goto 4, 3) := by decide +kernel
theorem d_M_variable_19 : decode b_M_variable 19 = .ok (.iconst 0, 1) := by decide +kernel
theorem d_M_variable_20 : decode b_M_variable 20 = .ok (.invokevirtual 42, 3) := by decide +kernel
theorem d_M_variable_23 : decode b_M_variable 23 = .ok (.ifCond .eq 4, 3) := by decide +kernel
theorem d_M_variable_26 : decode b_M_variable 26 = .ok (.return_, 1) := by decide +kernel
theorem d_M_variable_27 : decode b_M_variable 27 = .ok (.iconst 0, 1) := by decide +kernel
theorem d_M_variable_28 : decode b_M_variable 28 = .ok (.istore_n 3, 1) := by decide +kernel
theorem d_M_variable_29 : decode b_M_variable 29 = .ok (.iload_n 3, 1) := by decide +kernel
theorem d_M_variable_30 : decode b_M_variable 30 = .ok (.sipush 1024, 3) := by decide +kernel
theorem d_M_variable_33 : decode b_M_variable 33 = .ok (.if_icmp .ge 31, 3) := by decide +kernel
theorem d_M_variable_36 : decode b_M_variable 36 = .ok (.aload_n 0, 1) := by decide +kernel
theorem d_M_variable_37 : decode b_M_variable 37 = .ok (.getfield 15, 3) := by decide +kernel
theorem d_M_variable_40 : decode b_M_variable 40 = .ok (.iload_n 1, 1) := by decide +kernel
theorem d_M_variable_41 : decode b_M_variable 41 = .ok (.aaload, 1) := by decide +kernel
theorem d_M_variable_42 : decode b_M_variable 42 = .ok (.iload_n 3, 1) := by decide +kernel
theorem d_M_variable_43 : decode b_M_variable 43 = .ok (.iload_n 3, 1) := by decide +kernel
theorem d_M_variable_44 : decode b_M_variable 44 = .ok (.iload_n 2, 1) := by decide +kernel
theorem d_M_variable_45 : decode b_M_variable 45 = .ok (.ishr, 1) := by decide +kernel
theorem d_M_variable_46 : decode b_M_variable 46 = .ok (.iconst 1, 1) := by decide +kernel
theorem d_M_variable_47 : decode b_M_variable 47 = .ok (.iand, 1) := by decide +kernel
theorem d_M_variable_48 : decode b_M_variable 48 = .ok (.iconst 1, 1) := by decide +kernel
theorem d_M_variable_49 : decode b_M_variable 49 = .ok (.if_icmp .ne 7, 3) := by decide +kernel
theorem d_M_variable_52 : decode b_M_variable 52 = .ok (.iconst 1, 1) := by decide +kernel
theorem d_M_variable_53 : decode b_M_variable 53 = .ok (.goto 4, 3) := by decide +kernel
theorem d_M_variable_56 : decode b_M_variable 56 = .ok (.iconst 0, 1) := by decide +kernel
theorem d_M_variable_57 : decode b_M_variable 57 = .ok (.bastore, 1) := by decide +kernel
theorem d_M_variable_58 : decode b_M_variable 58 = .ok (.iinc 3 1, 3) := by decide +kernel
theorem d_M_variable_61 : decode b_M_variable 61 = .ok (.goto (-32), 3) := by decide +kernel
theorem d_M_variable_64 : decode b_M_variable 64 = .ok (.return_, 1) := by decide +kernel
theorem d_M_only_0 : decode b_M_only 0 = .ok (.aload_n 0, 1) := by decide +kernel
theorem d_M_only_1 : decode b_M_only 1 = .ok (.iload_n 1, 1) := by decide +kernel
theorem d_M_only_2 : decode b_M_only 2 = .ok (.invokestatic 35, 3) := by decide +kernel
theorem d_M_only_5 : decode b_M_only 5 = .ok (.ifCond .ne 10, 3) := by decide +kernel
theorem d_M_only_8 : decode b_M_only 8 = .ok (.iload_n 2, 1) := by decide +kernel
theorem d_M_only_9 : decode b_M_only 9 = .ok (.invokestatic 46, 3) := by decide +kernel
theorem d_M_only_12 : decode b_M_only 12 = .ok (.ifCond .eq 7, 3) := by decide +kernel
theorem d_M_only_15 : decode b_M_only 15 = .ok (.iconst 1, 1) := by decide +kernel
theorem d_M_only_16 : decode b_M_only 16 = .ok (.goto 4, 3) := by decide +kernel
theorem d_M_only_19 : decode b_M_only 19 = .ok (.iconst 0, 1) := by decide +kernel
theorem d_M_only_20 : decode b_M_only 20 = .ok (.invokevirtual 42, 3) := by decide +kernel
theorem d_M_only_23 : decode b_M_only 23 = .ok (.ifCond .eq 4, 3) := by decide +kernel
theorem d_M_only_26 : decode b_M_only 26 = .ok (.return_, 1) := by decide +kernel
theorem d_M_only_27 : decode b_M_only 27 = .ok (.iconst 0, 1) := by decide +kernel
theorem d_M_only_28 : decode b_M_only 28 = .ok (.istore_n 3, 1) := by decide +kernel
theorem d_M_only_29 : decode b_M_only 29 = .ok (.iload_n 3, 1) := by decide +kernel
theorem d_M_only_30 : decode b_M_only 30 = .ok (.sipush 1024, 3) := by decide +kernel
theorem d_M_only_33 : decode b_M_only 33 = .ok (.if_icmp .ge 27, 3) := by decide +kernel
theorem d_M_only_36 : decode b_M_only 36 = .ok (.aload_n 0, 1) := by decide +kernel
theorem d_M_only_37 : decode b_M_only 37 = .ok (.getfield 15, 3) := by decide +kernel
theorem d_M_only_40 : decode b_M_only 40 = .ok (.iload_n 1, 1) := by decide +kernel
theorem d_M_only_41 : decode b_M_only 41 = .ok (.aaload, 1) := by decide +kernel
theorem d_M_only_42 : decode b_M_only 42 = .ok (.iload_n 3, 1) := by decide +kernel
theorem d_M_only_43 : decode b_M_only 43 = .ok (.iload_n 3, 1) := by decide +kernel
theorem d_M_only_44 : decode b_M_only 44 = .ok (.iload_n 2, 1) := by decide +kernel
theorem d_M_only_45 : decode b_M_only 45 = .ok (.if_icmp .ne 7, 3) := by decide +kernel
theorem d_M_only_48 : decode b_M_only 48 = .ok (.iconst 1, 1) := by decide +kernel
theorem d_M_only_49 : decode b_M_only 49 = .ok (.goto 4, 3) := by decide +kernel
theorem d_M_only_52 : decode b_M_only 52 = .ok (.iconst 0, 1) := by decide +kernel
theorem d_M_only_53 : decode b_M_only 53 = .ok (.bastore, 1) := by decide +kernel
theorem d_M_only_54 : decode b_M_only 54 = .ok (.iinc 3 1, 3) := by decide +kernel
theorem d_M_only_57 : decode b_M_only 57 = .ok (.goto (-28), 3) := by decide +kernel
theorem d_M_only_60 : decode b_M_only 60 = .ok (.return_, 1) := by decide +kernel
theorem d_M_join_0 : decode b_M_join 0 = .ok (.aload_n 0, 1) := by decide +kernel
theorem d_M_join_1 : decode b_M_join 1 = .ok (.iload_n 1, 1) := by decide +kernel
theorem d_M_join_2 : decode b_M_join 2 = .ok (.invokestatic 35, 3) := by decide +kernel
theorem d_M_join_5 : decode b_M_join 5 = .ok (.ifCond .ne 27, 3) := by decide +kernel
theorem d_M_join_8 : decode b_M_join 8 = .ok (.iload_n 2, 1) := by decide +kernel
theorem d_M_join_9 : decode b_M_join 9 = .ok (.ifCond .lt 23, 3) := by decide +kernel
theorem d_M_join_12 : decode b_M_join 12 = .ok (.iload_n 2, 1) := by decide +kernel
theorem d_M_join_13 : decode b_M_join 13 = .ok (.iconst 4, 1) := by decide +kernel
theorem d_M_join_14 : decode b_M_join 14 = .ok (.if_icmp .gt 18, 3) := by decide +kernel
theorem d_M_join_17 : decode b_M_join 17 = .ok (.iload_n 3, 1) := by decide +kernel
theorem d_M_join_18 : decode b_M_join 18 = .ok (.invokestatic 35, 3) := by decide +kernel
theorem d_M_join_21 : decode b_M_join 21 = .ok (.ifCond .ne 11, 3) := by decide +kernel
theorem d_M_join_24 : decode b_M_join 24 = .ok (.iload 4, 2) := by decide +kernel
theorem d_M_join_26 : decode b_M_join 26 = .ok (.invokestatic 35, 3) := by decide +kernel
theorem d_M_join_29 : decode b_M_join 29 = .ok (.ifCond .eq 7, 3) := by decide +kernel
theorem d_M_join_32 : decode b_M_join 32 = .ok (.iconst 1, 1) := by decide +kernel
theorem d_M_join_33 : decode b_M_join 33 = .ok (.goto 4, 3) := by decide +kernel
theorem d_M_join_36 : decode b_M_join 36 = .ok (.iconst 0, 1) := by decide +kernel
theorem d_M_join_37 : decode b_M_join 37 = .ok (.invokevirtual 42, 3) := by decide +kernel
theorem d_M_join_40 : decode b_M_join 40 = .ok (.ifCond .eq 4, 3) := by decide +kernel
theorem d_M_join_43 : decode b_M_join 43 = .ok (.return_, 1) := by decide +kernel
theorem d_M_join_44 : decode b_M_join 44 = .ok (.iconst 0, 1) := by decide +kernel
theorem d_M_join_45 : decode b_M_join 45 = .ok (.istore 5, 2) := by decide +kernel
theorem d_M_join_47 : decode b_M_join 47 = .ok (.iload 5, 2) := by decide +kernel
theorem d_M_join_49 : decode b_M_join 49 = .ok (.sipush 1024, 3) := by decide +kernel
theorem d_M_join_52 : decode b_M_join 52 = .ok (.if_icmp .ge 137, 3) := by decide +kernel
theorem d_M_join_55 : decode b_M_join 55 = .ok (.aload_n 0, 1) := by decide +kernel
theorem d_M_join_56 : decode b_M_join 56 = .ok (.getfield 15, 3) := by decide +kernel
theorem d_M_join_59 : decode b_M_join 59 = .ok (.iload_n 3, 1) := by decide +kernel
theorem d_M_join_60 : decode b_M_join 60 = .ok (.aaload, 1) := by decide +kernel
theorem d_M_join_61 : decode b_M_join 61 = .ok (.iload 5, 2) := by decide +kernel
theorem d_M_join_63 : decode b_M_join 63 = .ok (.baload, 1) := by decide +kernel
theorem d_M_join_64 : decode b_M_join 64 = .ok (.istore 6, 2) := by decide +kernel
theorem d_M_join_66 : decode b_M_join 66 = .ok (.aload_n 0, 1) := by decide +kernel
theorem d_M_join_67 : decode b_M_join 67 = .ok (.getfield 15, 3) := by decide +kernel
theorem d_M_join_70 : decode b_M_join 70 = .ok (.iload 4, 2) := by decide +kernel
theorem d_M_join_72 : decode b_M_join 72 = .ok (.aaload, 1) := by decide +kernel
theorem d_M_join_73 : decode b_M_join 73 = .ok (.iload 5, 2) := by decide +kernel
theorem d_M_join_75 : decode b_M_join 75 = .ok (.baload, 1) := by decide +kernel
theorem d_M_join_76 : decode b_M_join 76 = .ok (.istore 7, 2) := by decide +kernel
theorem d_M_join_78 : decode b_M_join 78 = .ok (.aload_n 0, 1) := by decide +kernel
theorem d_M_join_79 : decode b_M_join 79 = .ok (.getfield 18, 3) := by decide +kernel
theorem d_M_join_82 : decode b_M_join 82 = .ok (.iload 5, 2) := by decide +kernel
theorem d_M_join_84 : decode b_M_join 84 = .ok (.iload_n 2, 1) := by decide +kernel
theorem d_M_join_85 : decode b_M_join 85 = .ok (.ifCond .ne 21, 3) := by decide +kernel
theorem d_M_join_88 : decode b_M_join 88 = .ok (.iload 6, 2) := by decide +kernel
theorem d_M_join_90 : decode b_M_join 90 = .ok (.ifCond .eq 12, 3) := by decide +kernel
theorem d_M_join_93 : decode b_M_join 93 = .ok (.iload 7, 2) := by decide +kernel
theorem d_M_join_95 : decode b_M_join 95 = .ok (.ifCond .eq 7, 3) := by decide +kernel
theorem d_M_join_98 : decode b_M_join 98 = .ok (.iconst 1, 1) := by decide +kernel
theorem d_M_join_99 : decode b_M_join 99 = .ok (.goto 83, 3) := by decide +kernel
theorem d_M_join_102 : decode b_M_join 102 = .ok (.iconst 0, 1) := by decide +kernel
theorem d_M_join_103 : decode b_M_join 103 = .ok (.goto 79, 3) := by decide +kernel
theorem d_M_join_106 : decode b_M_join 106 = .ok (.iload_n 2, 1) := by decide +kernel
theorem d_M_join_107 : decode b_M_join 107 = .ok (.iconst 1, 1) := by decide +kernel
theorem d_M_join_108 : decode b_M_join 108 = .ok (.if_icmp .ne 21, 3) := by decide +kernel
theorem d_M_join_111 : decode b_M_join 111 = .ok (.iload 6, 2) := by decide +kernel
theorem d_M_join_113 : decode b_M_join 113 = .ok (.ifCond .ne 8, 3) := by decide +kernel
theorem d_M_join_116 : decode b_M_join 116 = .ok (.iload 7, 2) := by decide +kernel
theorem d_M_join_118 : decode b_M_join 118 = .ok (.ifCond .eq 7, 3) := by decide +kernel
theorem d_M_join_121 : decode b_M_join 121 = .ok (.iconst 1, 1) := by decide +kernel
theorem d_M_join_122 : decode b_M_join 122 = .ok (.goto 60, 3) := by decide +kernel
theorem d_M_join_125 : decode b_M_join 125 = .ok (.iconst 0, 1) := by decide +kernel
theorem d_M_join_126 : decode b_M_join 126 = .ok (.goto 56, 3) := by decide +kernel
theorem d_M_join_129 : decode b_M_join 129 = .ok (.iload_n 2, 1) := by decide +kernel
theorem d_M_join_130 : decode b_M_join 130 = .ok (.iconst 2, 1) := by decide +kernel
theorem d_M_join_131 : decode b_M_join 131 = .ok (.if_icmp .ne 18, 3) := by decide +kernel
theorem d_M_join_134 : decode b_M_join 134 = .ok (.iload 6, 2) := by decide +kernel
theorem d_M_join_136 : decode b_M_join 136 = .ok (.iload 7, 2) := by decide +kernel
theorem d_M_join_138 : decode b_M_join 138 = .ok (.if_icmp .eq 7, 3) := by decide +kernel
theorem d_M_join_141 : decode b_M_join 141 = .ok (.iconst 1, 1) := by decide +kernel
theorem d_M_join_142 : decode b_M_join 142 = .ok (.goto 40, 3) := by decide +kernel
theorem d_M_join_145 : decode b_M_join 145 = .ok (.iconst 0, 1) := by decide +kernel
theorem d_M_join_146 : decode b_M_join 146 = .ok (.goto 36, 3) := by decide +kernel
theorem d_M_join_149 : decode b_M_join 149 = .ok (.iload_n 2, 1) := by decide +kernel
theorem d_M_join_150 : decode b_M_join 150 = .ok (.iconst 3, 1) := by decide +kernel
theorem d_M_join_151 : decode b_M_join 151 = .ok (.if_icmp .ne 21, 3) := by decide +kernel
theorem d_M_join_154 : decode b_M_join 154 = .ok (.iload 6, 2) := by decide +kernel
theorem d_M_join_156 : decode b_M_join 156 = .ok (.ifCond .eq 8, 3) := by decide +kernel
theorem d_M_join_159 : decode b_M_join 159 = .ok (.iload 7, 2) := by decide +kernel
theorem d_M_join_161 : decode b_M_join 161 = .ok (.ifCond .eq 7, 3) := by decide +kernel
theorem d_M_join_164 : decode b_M_join 164 = .ok (.iconst 1, 1) := by decide +kernel
theorem d_M_join_165 : decode b_M_join 165 = .ok (.goto 17, 3) := by decide +kernel
theorem d_M_join_168 : decode b_M_join 168 = .ok (.iconst 0, 1) := by decide +kernel
theorem d_M_join_169 : decode b_M_join 169 = .ok (.goto 13, 3) := by decide +kernel
theorem d_M_join_172 : decode b_M_join 172 = .ok (.iload 6, 2) := by decide +kernel
theorem d_M_join_174 : decode b_M_join 174 = .ok (.ifCond .ne 7, 3) := by decide +kernel
theorem d_M_join_177 : decode b_M_join 177 = .ok (.iconst 1, 1) := by decide +kernel
theorem d_M_join_178 : decode b_M_join 178 = .ok (.goto 4, 3) := by decide +kernel
theorem d_M_join_181 : decode b_M_join 181 = .ok (.iconst 0, 1) := by decide +kernel
theorem d_M_join_182 : decode b_M_join 182 = .ok (.bastore, 1) := by decide +kernel
theorem d_M_join_183 : decode b_M_join 183 = .ok (.iinc 5 1, 3) := by decide +kernel
theorem d_M_join_186 : decode b_M_join 186 = .ok (.goto (-139), 3) := by decide +kernel
theorem d_M_join_189 : decode b_M_join 189 = .ok (.aload_n 0, 1) := by decide +kernel
theorem d_M_join_190 : decode b_M_join 190 = .ok (.iload_n 1, 1) := by decide +kernel
theorem d_M_join_191 : decode b_M_join 191 = .ok (.invokevirtual 49, 3) := by decide +kernel
theorem d_M_join_194 : decode b_M_join 194 = .ok (.return_, 1) := by decide +kernel
theorem d_M_choose_0 : decode b_M_choose 0 = .ok (.aload_n 0, 1) := by decide +kernel
theorem d_M_choose_1 : decode b_M_choose 1 = .ok (.iload_n 1, 1) := by decide +kernel
theorem d_M_choose_2 : decode b_M_choose 2 = .ok (.invokestatic 35, 3) := by decide +kernel
theorem d_M_choose_5 : decode b_M_choose 5 = .ok (.ifCond .ne 25, 3) := by decide +kernel
theorem d_M_choose_8 : decode b_M_choose 8 = .ok (.iload_n 2, 1) := by decide +kernel
theorem d_M_choose_9 : decode b_M_choose 9 = .ok (.invokestatic 35, 3) := by decide +kernel
theorem d_M_choose_12 : decode b_M_choose 12 = .ok (.ifCond .ne 18, 3) := by decide +kernel
theorem d_M_choose_15 : decode b_M_choose 15 = .ok (.iload_n 3, 1) := by decide +kernel
theorem d_M_choose_16 : decode b_M_choose 16 = .ok (.invokestatic 35, 3) := by decide +kernel
theorem d_M_choose_19 : decode b_M_choose 19 = .ok (.ifCond .ne 11, 3) := by decide +kernel
theorem d_M_choose_22 : decode b_M_choose 22 = .ok (.iload 4, 2) := by decide +kernel
theorem d_M_choose_24 : decode b_M_choose 24 = .ok (.invokestatic 35, 3) := by decide +kernel
theorem d_M_choose_27 : decode b_M_choose 27 = .ok (.ifCond .eq 7, 3) := by decide +kernel
theorem d_M_choose_30 : decode b_M_choose 30 = .ok (.iconst 1, 1) := by decide +kernel
theorem d_M_choose_31 : decode b_M_choose 31 = .ok (.goto 4, 3) := by decide +kernel
theorem d_M_choose_34 : decode b_M_choose 34 = .ok (.iconst 0, 1) := by decide +kernel
theorem d_M_choose_35 : decode b_M_choose 35 = .ok (.invokevirtual 42, 3) := by decide +kernel
theorem d_M_choose_38 : decode b_M_choose 38 = .ok (.ifCond .eq 4, 3) := by decide +kernel
theorem d_M_choose_41 : decode b_M_choose 41 = .ok (.return_, 1) := by decide +kernel
theorem d_M_choose_42 : decode b_M_choose 42 = .ok (.iconst 0, 1) := by decide +kernel
theorem d_M_choose_43 : decode b_M_choose 43 = .ok (.istore 5, 2) := by decide +kernel
theorem d_M_choose_45 : decode b_M_choose 45 = .ok (.iload 5, 2) := by decide +kernel
theorem d_M_choose_47 : decode b_M_choose 47 = .ok (.sipush 1024, 3) := by decide +kernel
theorem d_M_choose_50 : decode b_M_choose 50 = .ok (.if_icmp .ge 50, 3) := by decide +kernel
theorem d_M_choose_53 : decode b_M_choose 53 = .ok (.aload_n 0, 1) := by decide +kernel
theorem d_M_choose_54 : decode b_M_choose 54 = .ok (.getfield 18, 3) := by decide +kernel
theorem d_M_choose_57 : decode b_M_choose 57 = .ok (.iload 5, 2) := by decide +kernel
theorem d_M_choose_59 : decode b_M_choose 59 = .ok (.aload_n 0, 1) := by decide +kernel
theorem d_M_choose_60 : decode b_M_choose 60 = .ok (.getfield 15, 3) := by decide +kernel
theorem d_M_choose_63 : decode b_M_choose 63 = .ok (.iload_n 2, 1) := by decide +kernel
theorem d_M_choose_64 : decode b_M_choose 64 = .ok (.aaload, 1) := by decide +kernel
theorem d_M_choose_65 : decode b_M_choose 65 = .ok (.iload 5, 2) := by decide +kernel
theorem d_M_choose_67 : decode b_M_choose 67 = .ok (.baload, 1) := by decide +kernel
theorem d_M_choose_68 : decode b_M_choose 68 = .ok (.ifCond .eq 15, 3) := by decide +kernel
theorem d_M_choose_71 : decode b_M_choose 71 = .ok (.aload_n 0, 1) := by decide +kernel
theorem d_M_choose_72 : decode b_M_choose 72 = .ok (.getfield 15, 3) := by decide +kernel
theorem d_M_choose_75 : decode b_M_choose 75 = .ok (.iload_n 3, 1) := by decide +kernel
theorem d_M_choose_76 : decode b_M_choose 76 = .ok (.aaload, 1) := by decide +kernel
theorem d_M_choose_77 : decode b_M_choose 77 = .ok (.iload 5, 2) := by decide +kernel
theorem d_M_choose_79 : decode b_M_choose 79 = .ok (.baload, 1) := by decide +kernel
theorem d_M_choose_80 : decode b_M_choose 80 = .ok (.goto 13, 3) := by decide +kernel
theorem d_M_choose_83 : decode b_M_choose 83 = .ok (.aload_n 0, 1) := by decide +kernel
theorem d_M_choose_84 : decode b_M_choose 84 = .ok (.getfield 15, 3) := by decide +kernel
theorem d_M_choose_87 : decode b_M_choose 87 = .ok (.iload 4, 2) := by decide +kernel
theorem d_M_choose_89 : decode b_M_choose 89 = .ok (.aaload, 1) := by decide +kernel
theorem d_M_choose_90 : decode b_M_choose 90 = .ok (.iload 5, 2) := by decide +kernel
theorem d_M_choose_92 : decode b_M_choose 92 = .ok (.baload, 1) := by decide +kernel
theorem d_M_choose_93 : decode b_M_choose 93 = .ok (.bastore, 1) := by decide +kernel
theorem d_M_choose_94 : decode b_M_choose 94 = .ok (.iinc 5 1, 3) := by decide +kernel
theorem d_M_choose_97 : decode b_M_choose 97 = .ok (.goto (-52), 3) := by decide +kernel
theorem d_M_choose_100 : decode b_M_choose 100 = .ok (.aload_n 0, 1) := by decide +kernel
theorem d_M_choose_101 : decode b_M_choose 101 = .ok (.iload_n 1, 1) := by decide +kernel
theorem d_M_choose_102 : decode b_M_choose 102 = .ok (.invokevirtual 49, 3) := by decide +kernel
theorem d_M_choose_105 : decode b_M_choose 105 = .ok (.return_, 1) := by decide +kernel
theorem d_M_cut_0 : decode b_M_cut 0 = .ok (.aload_n 0, 1) := by decide +kernel
theorem d_M_cut_1 : decode b_M_cut 1 = .ok (.iload_n 1, 1) := by decide +kernel
theorem d_M_cut_2 : decode b_M_cut 2 = .ok (.invokestatic 35, 3) := by decide +kernel
theorem d_M_cut_5 : decode b_M_cut 5 = .ok (.ifCond .ne 17, 3) := by decide +kernel
theorem d_M_cut_8 : decode b_M_cut 8 = .ok (.iload_n 2, 1) := by decide +kernel
theorem d_M_cut_9 : decode b_M_cut 9 = .ok (.invokestatic 35, 3) := by decide +kernel
theorem d_M_cut_12 : decode b_M_cut 12 = .ok (.ifCond .ne 10, 3) := by decide +kernel
theorem d_M_cut_15 : decode b_M_cut 15 = .ok (.iload_n 3, 1) := by decide +kernel
theorem d_M_cut_16 : decode b_M_cut 16 = .ok (.invokestatic 39, 3) := by decide +kernel
theorem d_M_cut_19 : decode b_M_cut 19 = .ok (.ifCond .eq 7, 3) := by decide +kernel
theorem d_M_cut_22 : decode b_M_cut 22 = .ok (.iconst 1, 1) := by decide +kernel
theorem d_M_cut_23 : decode b_M_cut 23 = .ok (.goto 4, 3) := by decide +kernel
theorem d_M_cut_26 : decode b_M_cut 26 = .ok (.iconst 0, 1) := by decide +kernel
theorem d_M_cut_27 : decode b_M_cut 27 = .ok (.invokevirtual 42, 3) := by decide +kernel
theorem d_M_cut_30 : decode b_M_cut 30 = .ok (.ifCond .eq 4, 3) := by decide +kernel
theorem d_M_cut_33 : decode b_M_cut 33 = .ok (.return_, 1) := by decide +kernel
theorem d_M_cut_34 : decode b_M_cut 34 = .ok (.iconst 0, 1) := by decide +kernel
theorem d_M_cut_35 : decode b_M_cut 35 = .ok (.istore 5, 2) := by decide +kernel
theorem d_M_cut_37 : decode b_M_cut 37 = .ok (.iload 5, 2) := by decide +kernel
theorem d_M_cut_39 : decode b_M_cut 39 = .ok (.sipush 1024, 3) := by decide +kernel
theorem d_M_cut_42 : decode b_M_cut 42 = .ok (.if_icmp .ge 45, 3) := by decide +kernel
theorem d_M_cut_45 : decode b_M_cut 45 = .ok (.aload_n 0, 1) := by decide +kernel
theorem d_M_cut_46 : decode b_M_cut 46 = .ok (.getfield 18, 3) := by decide +kernel
theorem d_M_cut_49 : decode b_M_cut 49 = .ok (.iload 5, 2) := by decide +kernel
theorem d_M_cut_51 : decode b_M_cut 51 = .ok (.aload_n 0, 1) := by decide +kernel
theorem d_M_cut_52 : decode b_M_cut 52 = .ok (.getfield 15, 3) := by decide +kernel
theorem d_M_cut_55 : decode b_M_cut 55 = .ok (.iload_n 2, 1) := by decide +kernel
theorem d_M_cut_56 : decode b_M_cut 56 = .ok (.aaload, 1) := by decide +kernel
theorem d_M_cut_57 : decode b_M_cut 57 = .ok (.iload 4, 2) := by decide +kernel
theorem d_M_cut_59 : decode b_M_cut 59 = .ok (.ifCond .eq 12, 3) := by decide +kernel
theorem d_M_cut_62 : decode b_M_cut 62 = .ok (.iload 5, 2) := by decide +kernel
theorem d_M_cut_64 : decode b_M_cut 64 = .ok (.iconst 1, 1) := by decide +kernel
theorem d_M_cut_65 : decode b_M_cut 65 = .ok (.iload_n 3, 1) := by decide +kernel
theorem d_M_cut_66 : decode b_M_cut 66 = .ok (.ishl, 1) := by decide +kernel
theorem d_M_cut_67 : decode b_M_cut 67 = .ok (.ior, 1) := by decide +kernel
theorem d_M_cut_68 : decode b_M_cut 68 = .ok (.goto 11, 3) := by decide +kernel
theorem d_M_cut_71 : decode b_M_cut 71 = .ok (.iload 5, 2) := by decide +kernel
theorem d_M_cut_73 : decode b_M_cut 73 = .ok (.iconst 1, 1) := by decide +kernel
theorem d_M_cut_74 : decode b_M_cut 74 = .ok (.iload_n 3, 1) := by decide +kernel
theorem d_M_cut_75 : decode b_M_cut 75 = .ok (.ishl, 1) := by decide +kernel
theorem d_M_cut_76 : decode b_M_cut 76 = .ok (.iconst (-1), 1) := by decide +kernel
theorem d_M_cut_77 : decode b_M_cut 77 = .ok (.ixor, 1) := by decide +kernel
theorem d_M_cut_78 : decode b_M_cut 78 = .ok (.iand, 1) := by decide +kernel
theorem d_M_cut_79 : decode b_M_cut 79 = .ok (.baload, 1) := by decide +kernel
theorem d_M_cut_80 : decode b_M_cut 80 = .ok (.bastore, 1) := by decide +kernel
theorem d_M_cut_81 : decode b_M_cut 81 = .ok (.iinc 5 1, 3) := by decide +kernel
theorem d_M_cut_84 : decode b_M_cut 84 = .ok (.goto (-47), 3) := by decide +kernel
theorem d_M_cut_87 : decode b_M_cut 87 = .ok (.aload_n 0, 1) := by decide +kernel
theorem d_M_cut_88 : decode b_M_cut 88 = .ok (.iload_n 1, 1) := by decide +kernel
theorem d_M_cut_89 : decode b_M_cut 89 = .ok (.invokevirtual 49, 3) := by decide +kernel
theorem d_M_cut_92 : decode b_M_cut 92 = .ok (.return_, 1) := by decide +kernel
theorem d_M_put_0 : decode b_M_put 0 = .ok (.aload_n 0, 1) := by decide +kernel
theorem d_M_put_1 : decode b_M_put 1 = .ok (.iload_n 1, 1) := by decide +kernel
theorem d_M_put_2 : decode b_M_put 2 = .ok (.invokestatic 35, 3) := by decide +kernel
theorem d_M_put_5 : decode b_M_put 5 = .ok (.ifCond .ne 25, 3) := by decide +kernel
theorem d_M_put_8 : decode b_M_put 8 = .ok (.iload_n 2, 1) := by decide +kernel
theorem d_M_put_9 : decode b_M_put 9 = .ok (.invokestatic 35, 3) := by decide +kernel
theorem d_M_put_12 : decode b_M_put 12 = .ok (.ifCond .ne 18, 3) := by decide +kernel
theorem d_M_put_15 : decode b_M_put 15 = .ok (.iload_n 3, 1) := by decide +kernel
theorem d_M_put_16 : decode b_M_put 16 = .ok (.invokestatic 39, 3) := by decide +kernel
theorem d_M_put_19 : decode b_M_put 19 = .ok (.ifCond .ne 11, 3) := by decide +kernel
theorem d_M_put_22 : decode b_M_put 22 = .ok (.iload 4, 2) := by decide +kernel
theorem d_M_put_24 : decode b_M_put 24 = .ok (.invokestatic 35, 3) := by decide +kernel
theorem d_M_put_27 : decode b_M_put 27 = .ok (.ifCond .eq 7, 3) := by decide +kernel
theorem d_M_put_30 : decode b_M_put 30 = .ok (.iconst 1, 1) := by decide +kernel
theorem d_M_put_31 : decode b_M_put 31 = .ok (.goto 4, 3) := by decide +kernel
theorem d_M_put_34 : decode b_M_put 34 = .ok (.iconst 0, 1) := by decide +kernel
theorem d_M_put_35 : decode b_M_put 35 = .ok (.invokevirtual 42, 3) := by decide +kernel
theorem d_M_put_38 : decode b_M_put 38 = .ok (.ifCond .eq 4, 3) := by decide +kernel
theorem d_M_put_41 : decode b_M_put 41 = .ok (.return_, 1) := by decide +kernel
theorem d_M_put_42 : decode b_M_put 42 = .ok (.iconst 0, 1) := by decide +kernel
theorem d_M_put_43 : decode b_M_put 43 = .ok (.istore 5, 2) := by decide +kernel
theorem d_M_put_45 : decode b_M_put 45 = .ok (.iload 5, 2) := by decide +kernel
theorem d_M_put_47 : decode b_M_put 47 = .ok (.sipush 1024, 3) := by decide +kernel
theorem d_M_put_50 : decode b_M_put 50 = .ok (.if_icmp .ge 53, 3) := by decide +kernel
theorem d_M_put_53 : decode b_M_put 53 = .ok (.aload_n 0, 1) := by decide +kernel
theorem d_M_put_54 : decode b_M_put 54 = .ok (.getfield 18, 3) := by decide +kernel
theorem d_M_put_57 : decode b_M_put 57 = .ok (.iload 5, 2) := by decide +kernel
theorem d_M_put_59 : decode b_M_put 59 = .ok (.aload_n 0, 1) := by decide +kernel
theorem d_M_put_60 : decode b_M_put 60 = .ok (.getfield 15, 3) := by decide +kernel
theorem d_M_put_63 : decode b_M_put 63 = .ok (.iload_n 2, 1) := by decide +kernel
theorem d_M_put_64 : decode b_M_put 64 = .ok (.aaload, 1) := by decide +kernel
theorem d_M_put_65 : decode b_M_put 65 = .ok (.aload_n 0, 1) := by decide +kernel
theorem d_M_put_66 : decode b_M_put 66 = .ok (.getfield 15, 3) := by decide +kernel
theorem d_M_put_69 : decode b_M_put 69 = .ok (.iload 4, 2) := by decide +kernel
theorem d_M_put_71 : decode b_M_put 71 = .ok (.aaload, 1) := by decide +kernel
theorem d_M_put_72 : decode b_M_put 72 = .ok (.iload 5, 2) := by decide +kernel
theorem d_M_put_74 : decode b_M_put 74 = .ok (.baload, 1) := by decide +kernel
theorem d_M_put_75 : decode b_M_put 75 = .ok (.ifCond .eq 12, 3) := by decide +kernel
theorem d_M_put_78 : decode b_M_put 78 = .ok (.iload 5, 2) := by decide +kernel
theorem d_M_put_80 : decode b_M_put 80 = .ok (.iconst 1, 1) := by decide +kernel
theorem d_M_put_81 : decode b_M_put 81 = .ok (.iload_n 3, 1) := by decide +kernel
theorem d_M_put_82 : decode b_M_put 82 = .ok (.ishl, 1) := by decide +kernel
theorem d_M_put_83 : decode b_M_put 83 = .ok (.ior, 1) := by decide +kernel
theorem d_M_put_84 : decode b_M_put 84 = .ok (.goto 11, 3) := by decide +kernel
theorem d_M_put_87 : decode b_M_put 87 = .ok (.iload 5, 2) := by decide +kernel
theorem d_M_put_89 : decode b_M_put 89 = .ok (.iconst 1, 1) := by decide +kernel
theorem d_M_put_90 : decode b_M_put 90 = .ok (.iload_n 3, 1) := by decide +kernel
theorem d_M_put_91 : decode b_M_put 91 = .ok (.ishl, 1) := by decide +kernel
theorem d_M_put_92 : decode b_M_put 92 = .ok (.iconst (-1), 1) := by decide +kernel
theorem d_M_put_93 : decode b_M_put 93 = .ok (.ixor, 1) := by decide +kernel
theorem d_M_put_94 : decode b_M_put 94 = .ok (.iand, 1) := by decide +kernel
theorem d_M_put_95 : decode b_M_put 95 = .ok (.baload, 1) := by decide +kernel
theorem d_M_put_96 : decode b_M_put 96 = .ok (.bastore, 1) := by decide +kernel
theorem d_M_put_97 : decode b_M_put 97 = .ok (.iinc 5 1, 3) := by decide +kernel
theorem d_M_put_100 : decode b_M_put 100 = .ok (.goto (-55), 3) := by decide +kernel
theorem d_M_put_103 : decode b_M_put 103 = .ok (.aload_n 0, 1) := by decide +kernel
theorem d_M_put_104 : decode b_M_put 104 = .ok (.iload_n 1, 1) := by decide +kernel
theorem d_M_put_105 : decode b_M_put 105 = .ok (.invokevirtual 49, 3) := by decide +kernel
theorem d_M_put_108 : decode b_M_put 108 = .ok (.return_, 1) := by decide +kernel
theorem d_M_bound_0 : decode b_M_bound 0 = .ok (.aload_n 0, 1) := by decide +kernel
theorem d_M_bound_1 : decode b_M_bound 1 = .ok (.iload_n 1, 1) := by decide +kernel
theorem d_M_bound_2 : decode b_M_bound 2 = .ok (.invokestatic 35, 3) := by decide +kernel
theorem d_M_bound_5 : decode b_M_bound 5 = .ok (.ifCond .ne 17, 3) := by decide +kernel
theorem d_M_bound_8 : decode b_M_bound 8 = .ok (.iload_n 2, 1) := by decide +kernel
theorem d_M_bound_9 : decode b_M_bound 9 = .ok (.invokestatic 35, 3) := by decide +kernel
theorem d_M_bound_12 : decode b_M_bound 12 = .ok (.ifCond .ne 10, 3) := by decide +kernel
theorem d_M_bound_15 : decode b_M_bound 15 = .ok (.iload_n 3, 1) := by decide +kernel
theorem d_M_bound_16 : decode b_M_bound 16 = .ok (.invokestatic 46, 3) := by decide +kernel
theorem d_M_bound_19 : decode b_M_bound 19 = .ok (.ifCond .eq 7, 3) := by decide +kernel
theorem d_M_bound_22 : decode b_M_bound 22 = .ok (.iconst 1, 1) := by decide +kernel
theorem d_M_bound_23 : decode b_M_bound 23 = .ok (.goto 4, 3) := by decide +kernel
theorem d_M_bound_26 : decode b_M_bound 26 = .ok (.iconst 0, 1) := by decide +kernel
theorem d_M_bound_27 : decode b_M_bound 27 = .ok (.invokevirtual 42, 3) := by decide +kernel
theorem d_M_bound_30 : decode b_M_bound 30 = .ok (.ifCond .eq 4, 3) := by decide +kernel
theorem d_M_bound_33 : decode b_M_bound 33 = .ok (.return_, 1) := by decide +kernel
theorem d_M_bound_34 : decode b_M_bound 34 = .ok (.iconst 0, 1) := by decide +kernel
theorem d_M_bound_35 : decode b_M_bound 35 = .ok (.istore 5, 2) := by decide +kernel
theorem d_M_bound_37 : decode b_M_bound 37 = .ok (.iload 5, 2) := by decide +kernel
theorem d_M_bound_39 : decode b_M_bound 39 = .ok (.sipush 1024, 3) := by decide +kernel
theorem d_M_bound_42 : decode b_M_bound 42 = .ok (.if_icmp .ge 108, 3) := by decide +kernel
theorem d_M_bound_45 : decode b_M_bound 45 = .ok (.iload 4, 2) := by decide +kernel
theorem d_M_bound_47 : decode b_M_bound 47 = .ok (.istore 6, 2) := by decide +kernel
theorem d_M_bound_49 : decode b_M_bound 49 = .ok (.iconst 0, 1) := by decide +kernel
theorem d_M_bound_50 : decode b_M_bound 50 = .ok (.istore 7, 2) := by decide +kernel
theorem d_M_bound_52 : decode b_M_bound 52 = .ok (.iload 7, 2) := by decide +kernel
theorem d_M_bound_54 : decode b_M_bound 54 = .ok (.sipush 1024, 3) := by decide +kernel
theorem d_M_bound_57 : decode b_M_bound 57 = .ok (.if_icmp .ge 78, 3) := by decide +kernel
theorem d_M_bound_60 : decode b_M_bound 60 = .ok (.iload 5, 2) := by decide +kernel
theorem d_M_bound_62 : decode b_M_bound 62 = .ok (.iload 7, 2) := by decide +kernel
theorem d_M_bound_64 : decode b_M_bound 64 = .ok (.ixor, 1) := by decide +kernel
theorem d_M_bound_65 : decode b_M_bound 65 = .ok (.iload_n 3, 1) := by decide +kernel
theorem d_M_bound_66 : decode b_M_bound 66 = .ok (.iconst (-1), 1) := by decide +kernel
theorem d_M_bound_67 : decode b_M_bound 67 = .ok (.ixor, 1) := by decide +kernel
theorem d_M_bound_68 : decode b_M_bound 68 = .ok (.iand, 1) := by decide +kernel
theorem d_M_bound_69 : decode b_M_bound 69 = .ok (.ifCond .eq 6, 3) := by decide +kernel
theorem d_M_bound_72 : decode b_M_bound 72 = .ok (.goto 57, 3) := by decide +kernel
theorem d_M_bound_75 : decode b_M_bound 75 = .ok (.iload 4, 2) := by decide +kernel
theorem d_M_bound_77 : decode b_M_bound 77 = .ok (.ifCond .eq 28, 3) := by decide +kernel
theorem d_M_bound_80 : decode b_M_bound 80 = .ok (.iload 6, 2) := by decide +kernel
theorem d_M_bound_82 : decode b_M_bound 82 = .ok (.ifCond .eq 19, 3) := by decide +kernel
theorem d_M_bound_85 : decode b_M_bound 85 = .ok (.aload_n 0, 1) := by decide +kernel
theorem d_M_bound_86 : decode b_M_bound 86 = .ok (.getfield 15, 3) := by decide +kernel
theorem d_M_bound_89 : decode b_M_bound 89 = .ok (.iload_n 2, 1) := by decide +kernel
theorem d_M_bound_90 : decode b_M_bound 90 = .ok (.aaload, 1) := by decide +kernel
theorem d_M_bound_91 : decode b_M_bound 91 = .ok (.iload 7, 2) := by decide +kernel
theorem d_M_bound_93 : decode b_M_bound 93 = .ok (.baload, 1) := by decide +kernel
theorem d_M_bound_94 : decode b_M_bound 94 = .ok (.ifCond .eq 7, 3) := by decide +kernel
theorem d_M_bound_97 : decode b_M_bound 97 = .ok (.iconst 1, 1) := by decide +kernel
theorem d_M_bound_98 : decode b_M_bound 98 = .ok (.goto 29, 3) := by decide +kernel
theorem d_M_bound_101 : decode b_M_bound 101 = .ok (.iconst 0, 1) := by decide +kernel
theorem d_M_bound_102 : decode b_M_bound 102 = .ok (.goto 25, 3) := by decide +kernel
theorem d_M_bound_105 : decode b_M_bound 105 = .ok (.iload 6, 2) := by decide +kernel
theorem d_M_bound_107 : decode b_M_bound 107 = .ok (.ifCond .ne 15, 3) := by decide +kernel
theorem d_M_bound_110 : decode b_M_bound 110 = .ok (.aload_n 0, 1) := by decide +kernel
theorem d_M_bound_111 : decode b_M_bound 111 = .ok (.getfield 15, 3) := by decide +kernel
theorem d_M_bound_114 : decode b_M_bound 114 = .ok (.iload_n 2, 1) := by decide +kernel
theorem d_M_bound_115 : decode b_M_bound 115 = .ok (.aaload, 1) := by decide +kernel
theorem d_M_bound_116 : decode b_M_bound 116 = .ok (.iload 7, 2) := by decide +kernel
theorem d_M_bound_118 : decode b_M_bound 118 = .ok (.baload, 1) := by decide +kernel
theorem d_M_bound_119 : decode b_M_bound 119 = .ok (.ifCond .eq 7, 3) := by decide +kernel
theorem d_M_bound_122 : decode b_M_bound 122 = .ok (.iconst 1, 1) := by decide +kernel
theorem d_M_bound_123 : decode b_M_bound 123 = .ok (.goto 4, 3) := by decide +kernel
theorem d_M_bound_126 : decode b_M_bound 126 = .ok (.iconst 0, 1) := by decide +kernel
theorem d_M_bound_127 : decode b_M_bound 127 = .ok (.istore 6, 2) := by decide +kernel
theorem d_M_bound_129 : decode b_M_bound 129 = .ok (.iinc 7 1, 3) := by decide +kernel
theorem d_M_bound_132 : decode b_M_bound 132 = .ok (.goto (-80), 3) := by decide +kernel
theorem d_M_bound_135 : decode b_M_bound 135 = .ok (.aload_n 0, 1) := by decide +kernel
theorem d_M_bound_136 : decode b_M_bound 136 = .ok (.getfield 18, 3) := by decide +kernel
theorem d_M_bound_139 : decode b_M_bound 139 = .ok (.iload 5, 2) := by decide +kernel
theorem d_M_bound_141 : decode b_M_bound 141 = .ok (.iload 6, 2) := by decide +kernel
theorem d_M_bound_143 : decode b_M_bound 143 = .ok (.bastore, 1) := by decide +kernel
theorem d_M_bound_144 : decode b_M_bound 144 = .ok (.iinc 5 1, 3) := by decide +kernel
theorem d_M_bound_147 : decode b_M_bound 147 = .ok (.goto (-110), 3) := by decide +kernel
theorem d_M_bound_150 : decode b_M_bound 150 = .ok (.aload_n 0, 1) := by decide +kernel
theorem d_M_bound_151 : decode b_M_bound 151 = .ok (.iload_n 1, 1) := by decide +kernel
theorem d_M_bound_152 : decode b_M_bound 152 = .ok (.invokevirtual 49, 3) := by decide +kernel
theorem d_M_bound_155 : decode b_M_bound 155 = .ok (.return_, 1) := by decide +kernel
theorem d_M_swap_0 : decode b_M_swap 0 = .ok (.aload_n 0, 1) := by decide +kernel
theorem d_M_swap_1 : decode b_M_swap 1 = .ok (.iload_n 1, 1) := by decide +kernel
theorem d_M_swap_2 : decode b_M_swap 2 = .ok (.invokestatic 35, 3) := by decide +kernel
theorem d_M_swap_5 : decode b_M_swap 5 = .ok (.ifCond .ne 25, 3) := by decide +kernel
theorem d_M_swap_8 : decode b_M_swap 8 = .ok (.iload_n 2, 1) := by decide +kernel
theorem d_M_swap_9 : decode b_M_swap 9 = .ok (.invokestatic 35, 3) := by decide +kernel
theorem d_M_swap_12 : decode b_M_swap 12 = .ok (.ifCond .ne 18, 3) := by decide +kernel
theorem d_M_swap_15 : decode b_M_swap 15 = .ok (.iload_n 3, 1) := by decide +kernel
theorem d_M_swap_16 : decode b_M_swap 16 = .ok (.invokestatic 39, 3) := by decide +kernel
theorem d_M_swap_19 : decode b_M_swap 19 = .ok (.ifCond .ne 11, 3) := by decide +kernel
theorem d_M_swap_22 : decode b_M_swap 22 = .ok (.iload 4, 2) := by decide +kernel
theorem d_M_swap_24 : decode b_M_swap 24 = .ok (.invokestatic 39, 3) := by decide +kernel
theorem d_M_swap_27 : decode b_M_swap 27 = .ok (.ifCond .eq 7, 3) := by decide +kernel
theorem d_M_swap_30 : decode b_M_swap 30 = .ok (.iconst 1, 1) := by decide +kernel
theorem d_M_swap_31 : decode b_M_swap 31 = .ok (.goto 4, 3) := by decide +kernel
theorem d_M_swap_34 : decode b_M_swap 34 = .ok (.iconst 0, 1) := by decide +kernel
theorem d_M_swap_35 : decode b_M_swap 35 = .ok (.invokevirtual 42, 3) := by decide +kernel
theorem d_M_swap_38 : decode b_M_swap 38 = .ok (.ifCond .eq 4, 3) := by decide +kernel
theorem d_M_swap_41 : decode b_M_swap 41 = .ok (.return_, 1) := by decide +kernel
theorem d_M_swap_42 : decode b_M_swap 42 = .ok (.iconst 0, 1) := by decide +kernel
theorem d_M_swap_43 : decode b_M_swap 43 = .ok (.istore 5, 2) := by decide +kernel
theorem d_M_swap_45 : decode b_M_swap 45 = .ok (.iload 5, 2) := by decide +kernel
theorem d_M_swap_47 : decode b_M_swap 47 = .ok (.sipush 1024, 3) := by decide +kernel
theorem d_M_swap_50 : decode b_M_swap 50 = .ok (.if_icmp .ge 66, 3) := by decide +kernel
theorem d_M_swap_53 : decode b_M_swap 53 = .ok (.iload 5, 2) := by decide +kernel
theorem d_M_swap_55 : decode b_M_swap 55 = .ok (.iload_n 3, 1) := by decide +kernel
theorem d_M_swap_56 : decode b_M_swap 56 = .ok (.ishr, 1) := by decide +kernel
theorem d_M_swap_57 : decode b_M_swap 57 = .ok (.iconst 1, 1) := by decide +kernel
theorem d_M_swap_58 : decode b_M_swap 58 = .ok (.iand, 1) := by decide +kernel
theorem d_M_swap_59 : decode b_M_swap 59 = .ok (.istore 6, 2) := by decide +kernel
theorem d_M_swap_61 : decode b_M_swap 61 = .ok (.iload 5, 2) := by decide +kernel
theorem d_M_swap_63 : decode b_M_swap 63 = .ok (.iload 4, 2) := by decide +kernel
theorem d_M_swap_65 : decode b_M_swap 65 = .ok (.ishr, 1) := by decide +kernel
theorem d_M_swap_66 : decode b_M_swap 66 = .ok (.iconst 1, 1) := by decide +kernel
theorem d_M_swap_67 : decode b_M_swap 67 = .ok (.iand, 1) := by decide +kernel
theorem d_M_swap_68 : decode b_M_swap 68 = .ok (.istore 7, 2) := by decide +kernel
theorem d_M_swap_70 : decode b_M_swap 70 = .ok (.aload_n 0, 1) := by decide +kernel
theorem d_M_swap_71 : decode b_M_swap 71 = .ok (.getfield 18, 3) := by decide +kernel
theorem d_M_swap_74 : decode b_M_swap 74 = .ok (.iload 5, 2) := by decide +kernel
theorem d_M_swap_76 : decode b_M_swap 76 = .ok (.aload_n 0, 1) := by decide +kernel
theorem d_M_swap_77 : decode b_M_swap 77 = .ok (.getfield 15, 3) := by decide +kernel
theorem d_M_swap_80 : decode b_M_swap 80 = .ok (.iload_n 2, 1) := by decide +kernel
theorem d_M_swap_81 : decode b_M_swap 81 = .ok (.aaload, 1) := by decide +kernel
theorem d_M_swap_82 : decode b_M_swap 82 = .ok (.iload 5, 2) := by decide +kernel
theorem d_M_swap_84 : decode b_M_swap 84 = .ok (.iconst 1, 1) := by decide +kernel
theorem d_M_swap_85 : decode b_M_swap 85 = .ok (.iload_n 3, 1) := by decide +kernel
theorem d_M_swap_86 : decode b_M_swap 86 = .ok (.ishl, 1) := by decide +kernel
theorem d_M_swap_87 : decode b_M_swap 87 = .ok (.iconst (-1), 1) := by decide +kernel
theorem d_M_swap_88 : decode b_M_swap 88 = .ok (.ixor, 1) := by decide +kernel
theorem d_M_swap_89 : decode b_M_swap 89 = .ok (.iand, 1) := by decide +kernel
theorem d_M_swap_90 : decode b_M_swap 90 = .ok (.iconst 1, 1) := by decide +kernel
theorem d_M_swap_91 : decode b_M_swap 91 = .ok (.iload 4, 2) := by decide +kernel
theorem d_M_swap_93 : decode b_M_swap 93 = .ok (.ishl, 1) := by decide +kernel
theorem d_M_swap_94 : decode b_M_swap 94 = .ok (.iconst (-1), 1) := by decide +kernel
theorem d_M_swap_95 : decode b_M_swap 95 = .ok (.ixor, 1) := by decide +kernel
theorem d_M_swap_96 : decode b_M_swap 96 = .ok (.iand, 1) := by decide +kernel
theorem d_M_swap_97 : decode b_M_swap 97 = .ok (.iload 6, 2) := by decide +kernel
theorem d_M_swap_99 : decode b_M_swap 99 = .ok (.iload 4, 2) := by decide +kernel
theorem d_M_swap_101 : decode b_M_swap 101 = .ok (.ishl, 1) := by decide +kernel
theorem d_M_swap_102 : decode b_M_swap 102 = .ok (.ior, 1) := by decide +kernel
theorem d_M_swap_103 : decode b_M_swap 103 = .ok (.iload 7, 2) := by decide +kernel
theorem d_M_swap_105 : decode b_M_swap 105 = .ok (.iload_n 3, 1) := by decide +kernel
theorem d_M_swap_106 : decode b_M_swap 106 = .ok (.ishl, 1) := by decide +kernel
theorem d_M_swap_107 : decode b_M_swap 107 = .ok (.ior, 1) := by decide +kernel
theorem d_M_swap_108 : decode b_M_swap 108 = .ok (.baload, 1) := by decide +kernel
theorem d_M_swap_109 : decode b_M_swap 109 = .ok (.bastore, 1) := by decide +kernel
theorem d_M_swap_110 : decode b_M_swap 110 = .ok (.iinc 5 1, 3) := by decide +kernel
theorem d_M_swap_113 : decode b_M_swap 113 = .ok (.goto (-68), 3) := by decide +kernel
theorem d_M_swap_116 : decode b_M_swap 116 = .ok (.aload_n 0, 1) := by decide +kernel
theorem d_M_swap_117 : decode b_M_swap 117 = .ok (.iload_n 1, 1) := by decide +kernel
theorem d_M_swap_118 : decode b_M_swap 118 = .ok (.invokevirtual 49, 3) := by decide +kernel
theorem d_M_swap_121 : decode b_M_swap 121 = .ok (.return_, 1) := by decide +kernel
theorem d_M_is_0 : decode b_M_is 0 = .ok (.aload_n 0, 1) := by decide +kernel
theorem d_M_is_1 : decode b_M_is 1 = .ok (.iload_n 1, 1) := by decide +kernel
theorem d_M_is_2 : decode b_M_is 2 = .ok (.invokestatic 35, 3) := by decide +kernel
theorem d_M_is_5 : decode b_M_is 5 = .ok (.ifCond .ne 10, 3) := by decide +kernel
theorem d_M_is_8 : decode b_M_is 8 = .ok (.iload_n 2, 1) := by decide +kernel
theorem d_M_is_9 : decode b_M_is 9 = .ok (.invokestatic 46, 3) := by decide +kernel
theorem d_M_is_12 : decode b_M_is 12 = .ok (.ifCond .eq 7, 3) := by decide +kernel
theorem d_M_is_15 : decode b_M_is 15 = .ok (.iconst 1, 1) := by decide +kernel
theorem d_M_is_16 : decode b_M_is 16 = .ok (.goto 4, 3) := by decide +kernel
theorem d_M_is_19 : decode b_M_is 19 = .ok (.iconst 0, 1) := by decide +kernel
end
section
theorem d_M_is_20 : decode b_M_is 20 = .ok (.invokevirtual 42, 3) := by decide +kernel
theorem d_M_is_23 : decode b_M_is 23 = .ok (.ifCond .eq 5, 3) := by decide +kernel
theorem d_M_is_26 : decode b_M_is 26 = .ok (.iconst 0, 1) := by decide +kernel
theorem d_M_is_27 : decode b_M_is 27 = .ok (.ireturn, 1) := by decide +kernel
theorem d_M_is_28 : decode b_M_is 28 = .ok (.aload_n 0, 1) := by decide +kernel
theorem d_M_is_29 : decode b_M_is 29 = .ok (.getfield 15, 3) := by decide +kernel
theorem d_M_is_32 : decode b_M_is 32 = .ok (.iload_n 1, 1) := by decide +kernel
theorem d_M_is_33 : decode b_M_is 33 = .ok (.aaload, 1) := by decide +kernel
theorem d_M_is_34 : decode b_M_is 34 = .ok (.iload_n 2, 1) := by decide +kernel
theorem d_M_is_35 : decode b_M_is 35 = .ok (.baload, 1) := by decide +kernel
theorem d_M_is_36 : decode b_M_is 36 = .ok (.ireturn, 1) := by decide +kernel
theorem d_M_ways_0 : decode b_M_ways 0 = .ok (.aload_n 0, 1) := by decide +kernel
theorem d_M_ways_1 : decode b_M_ways 1 = .ok (.iload_n 1, 1) := by decide +kernel
theorem d_M_ways_2 : decode b_M_ways 2 = .ok (.invokestatic 35, 3) := by decide +kernel
theorem d_M_ways_5 : decode b_M_ways 5 = .ok (.invokevirtual 42, 3) := by decide +kernel
theorem d_M_ways_8 : decode b_M_ways 8 = .ok (.ifCond .eq 5, 3) := by decide +kernel
theorem d_M_ways_11 : decode b_M_ways 11 = .ok (.iconst 0, 1) := by decide +kernel
theorem d_M_ways_12 : decode b_M_ways 12 = .ok (.ireturn, 1) := by decide +kernel
theorem d_M_ways_13 : decode b_M_ways 13 = .ok (.iconst 0, 1) := by decide +kernel
theorem d_M_ways_14 : decode b_M_ways 14 = .ok (.istore_n 2, 1) := by decide +kernel
theorem d_M_ways_15 : decode b_M_ways 15 = .ok (.iconst 0, 1) := by decide +kernel
theorem d_M_ways_16 : decode b_M_ways 16 = .ok (.istore_n 3, 1) := by decide +kernel
theorem d_M_ways_17 : decode b_M_ways 17 = .ok (.iload_n 3, 1) := by decide +kernel
theorem d_M_ways_18 : decode b_M_ways 18 = .ok (.sipush 1024, 3) := by decide +kernel
theorem d_M_ways_21 : decode b_M_ways 21 = .ok (.if_icmp .ge 23, 3) := by decide +kernel
theorem d_M_ways_24 : decode b_M_ways 24 = .ok (.aload_n 0, 1) := by decide +kernel
theorem d_M_ways_25 : decode b_M_ways 25 = .ok (.getfield 15, 3) := by decide +kernel
theorem d_M_ways_28 : decode b_M_ways 28 = .ok (.iload_n 1, 1) := by decide +kernel
theorem d_M_ways_29 : decode b_M_ways 29 = .ok (.aaload, 1) := by decide +kernel
theorem d_M_ways_30 : decode b_M_ways 30 = .ok (.iload_n 3, 1) := by decide +kernel
theorem d_M_ways_31 : decode b_M_ways 31 = .ok (.baload, 1) := by decide +kernel
theorem d_M_ways_32 : decode b_M_ways 32 = .ok (.ifCond .eq 6, 3) := by decide +kernel
theorem d_M_ways_35 : decode b_M_ways 35 = .ok (.iinc 2 1, 3) := by decide +kernel
theorem d_M_ways_38 : decode b_M_ways 38 = .ok (.iinc 3 1, 3) := by decide +kernel
theorem d_M_ways_41 : decode b_M_ways 41 = .ok (.goto (-24), 3) := by decide +kernel
theorem d_M_ways_44 : decode b_M_ways 44 = .ok (.iload_n 2, 1) := by decide +kernel
theorem d_M_ways_45 : decode b_M_ways 45 = .ok (.ireturn, 1) := by decide +kernel
theorem d_M_turned_0 : decode b_M_turned 0 = .ok (.iconst 0, 1) := by decide +kernel
theorem d_M_turned_1 : decode b_M_turned 1 = .ok (.istore_n 1, 1) := by decide +kernel
theorem d_M_turned_2 : decode b_M_turned 2 = .ok (.iconst 0, 1) := by decide +kernel
theorem d_M_turned_3 : decode b_M_turned 3 = .ok (.istore_n 2, 1) := by decide +kernel
theorem d_M_turned_4 : decode b_M_turned 4 = .ok (.iload_n 2, 1) := by decide +kernel
theorem d_M_turned_5 : decode b_M_turned 5 = .ok (.bipush 10, 2) := by decide +kernel
theorem d_M_turned_7 : decode b_M_turned 7 = .ok (.if_icmp .ge 19, 3) := by decide +kernel
theorem d_M_turned_10 : decode b_M_turned 10 = .ok (.iconst 2, 1) := by decide +kernel
theorem d_M_turned_11 : decode b_M_turned 11 = .ok (.iload_n 1, 1) := by decide +kernel
theorem d_M_turned_12 : decode b_M_turned 12 = .ok (.imul, 1) := by decide +kernel
theorem d_M_turned_13 : decode b_M_turned 13 = .ok (.iload_n 0, 1) := by decide +kernel
theorem d_M_turned_14 : decode b_M_turned 14 = .ok (.iload_n 2, 1) := by decide +kernel
theorem d_M_turned_15 : decode b_M_turned 15 = .ok (.ishr, 1) := by decide +kernel
theorem d_M_turned_16 : decode b_M_turned 16 = .ok (.iconst 1, 1) := by decide +kernel
theorem d_M_turned_17 : decode b_M_turned 17 = .ok (.iand, 1) := by decide +kernel
theorem d_M_turned_18 : decode b_M_turned 18 = .ok (.iadd, 1) := by decide +kernel
theorem d_M_turned_19 : decode b_M_turned 19 = .ok (.istore_n 1, 1) := by decide +kernel
theorem d_M_turned_20 : decode b_M_turned 20 = .ok (.iinc 2 1, 3) := by decide +kernel
theorem d_M_turned_23 : decode b_M_turned 23 = .ok (.goto (-19), 3) := by decide +kernel
theorem d_M_turned_26 : decode b_M_turned 26 = .ok (.iload_n 1, 1) := by decide +kernel
theorem d_M_turned_27 : decode b_M_turned 27 = .ok (.ireturn, 1) := by decide +kernel
theorem d_M_first_0 : decode b_M_first 0 = .ok (.aload_n 0, 1) := by decide +kernel
theorem d_M_first_1 : decode b_M_first 1 = .ok (.iload_n 1, 1) := by decide +kernel
theorem d_M_first_2 : decode b_M_first 2 = .ok (.invokestatic 35, 3) := by decide +kernel
theorem d_M_first_5 : decode b_M_first 5 = .ok (.invokevirtual 42, 3) := by decide +kernel
theorem d_M_first_8 : decode b_M_first 8 = .ok (.ifCond .eq 5, 3) := by decide +kernel
theorem d_M_first_11 : decode b_M_first 11 = .ok (.iconst 0, 1) := by decide +kernel
theorem d_M_first_12 : decode b_M_first 12 = .ok (.ireturn, 1) := by decide +kernel
theorem d_M_first_13 : decode b_M_first 13 = .ok (.iconst (-1), 1) := by decide +kernel
theorem d_M_first_14 : decode b_M_first 14 = .ok (.istore_n 2, 1) := by decide +kernel
theorem d_M_first_15 : decode b_M_first 15 = .ok (.iconst 0, 1) := by decide +kernel
theorem d_M_first_16 : decode b_M_first 16 = .ok (.istore_n 3, 1) := by decide +kernel
theorem d_M_first_17 : decode b_M_first 17 = .ok (.iload_n 3, 1) := by decide +kernel
theorem d_M_first_18 : decode b_M_first 18 = .ok (.sipush 1024, 3) := by decide +kernel
theorem d_M_first_21 : decode b_M_first 21 = .ok (.if_icmp .ge 37, 3) := by decide +kernel
theorem d_M_first_24 : decode b_M_first 24 = .ok (.aload_n 0, 1) := by decide +kernel
theorem d_M_first_25 : decode b_M_first 25 = .ok (.getfield 15, 3) := by decide +kernel
theorem d_M_first_28 : decode b_M_first 28 = .ok (.iload_n 1, 1) := by decide +kernel
theorem d_M_first_29 : decode b_M_first 29 = .ok (.aaload, 1) := by decide +kernel
theorem d_M_first_30 : decode b_M_first 30 = .ok (.iload_n 3, 1) := by decide +kernel
theorem d_M_first_31 : decode b_M_first 31 = .ok (.baload, 1) := by decide +kernel
theorem d_M_first_32 : decode b_M_first 32 = .ok (.ifCond .eq 20, 3) := by decide +kernel
theorem d_M_first_35 : decode b_M_first 35 = .ok (.iload_n 2, 1) := by decide +kernel
theorem d_M_first_36 : decode b_M_first 36 = .ok (.ifCond .lt 14, 3) := by decide +kernel
theorem d_M_first_39 : decode b_M_first 39 = .ok (.iload_n 3, 1) := by decide +kernel
theorem d_M_first_40 : decode b_M_first 40 = .ok (.invokestatic 53, 3) := by decide +kernel
theorem d_M_first_43 : decode b_M_first 43 = .ok (.iload_n 2, 1) := by decide +kernel
theorem d_M_first_44 : decode b_M_first 44 = .ok (.invokestatic 53, 3) := by decide +kernel
theorem d_M_first_47 : decode b_M_first 47 = .ok (.if_icmp .ge 5, 3) := by decide +kernel
theorem d_M_first_50 : decode b_M_first 50 = .ok (.iload_n 3, 1) := by decide +kernel
theorem d_M_first_51 : decode b_M_first 51 = .ok (.istore_n 2, 1) := by decide +kernel
theorem d_M_first_52 : decode b_M_first 52 = .ok (.iinc 3 1, 3) := by decide +kernel
theorem d_M_first_55 : decode b_M_first 55 = .ok (.goto (-38), 3) := by decide +kernel
theorem d_M_first_58 : decode b_M_first 58 = .ok (.iload_n 2, 1) := by decide +kernel
theorem d_M_first_59 : decode b_M_first 59 = .ok (.ifCond .ge 8, 3) := by decide +kernel
theorem d_M_first_62 : decode b_M_first 62 = .ok (.aload_n 0, 1) := by decide +kernel
theorem d_M_first_63 : decode b_M_first 63 = .ok (.iconst 2, 1) := by decide +kernel
theorem d_M_first_64 : decode b_M_first 64 = .ok (.putfield 7, 3) := by decide +kernel
theorem d_M_first_67 : decode b_M_first 67 = .ok (.iconst 0, 1) := by decide +kernel
theorem d_M_first_68 : decode b_M_first 68 = .ok (.iload_n 2, 1) := by decide +kernel
theorem d_M_first_69 : decode b_M_first 69 = .ok (.invokestatic 57, 3) := by decide +kernel
theorem d_M_first_72 : decode b_M_first 72 = .ok (.ireturn, 1) := by decide +kernel
theorem d_M_hangs_0 : decode b_M_hangs 0 = .ok (.aload_n 0, 1) := by decide +kernel
theorem d_M_hangs_1 : decode b_M_hangs 1 = .ok (.iload_n 1, 1) := by decide +kernel
theorem d_M_hangs_2 : decode b_M_hangs 2 = .ok (.invokestatic 35, 3) := by decide +kernel
theorem d_M_hangs_5 : decode b_M_hangs 5 = .ok (.invokevirtual 42, 3) := by decide +kernel
theorem d_M_hangs_8 : decode b_M_hangs 8 = .ok (.ifCond .eq 5, 3) := by decide +kernel
theorem d_M_hangs_11 : decode b_M_hangs 11 = .ok (.iconst 0, 1) := by decide +kernel
theorem d_M_hangs_12 : decode b_M_hangs 12 = .ok (.ireturn, 1) := by decide +kernel
theorem d_M_hangs_13 : decode b_M_hangs 13 = .ok (.iconst 0, 1) := by decide +kernel
theorem d_M_hangs_14 : decode b_M_hangs 14 = .ok (.istore_n 2, 1) := by decide +kernel
theorem d_M_hangs_15 : decode b_M_hangs 15 = .ok (.iconst 0, 1) := by decide +kernel
theorem d_M_hangs_16 : decode b_M_hangs 16 = .ok (.istore_n 3, 1) := by decide +kernel
theorem d_M_hangs_17 : decode b_M_hangs 17 = .ok (.iload_n 3, 1) := by decide +kernel
theorem d_M_hangs_18 : decode b_M_hangs 18 = .ok (.bipush 10, 2) := by decide +kernel
theorem d_M_hangs_20 : decode b_M_hangs 20 = .ok (.if_icmp .ge 57, 3) := by decide +kernel
theorem d_M_hangs_23 : decode b_M_hangs 23 = .ok (.iconst 0, 1) := by decide +kernel
theorem d_M_hangs_24 : decode b_M_hangs 24 = .ok (.istore 4, 2) := by decide +kernel
theorem d_M_hangs_26 : decode b_M_hangs 26 = .ok (.iload 4, 2) := by decide +kernel
theorem d_M_hangs_28 : decode b_M_hangs 28 = .ok (.sipush 1024, 3) := by decide +kernel
theorem d_M_hangs_31 : decode b_M_hangs 31 = .ok (.if_icmp .ge 40, 3) := by decide +kernel
theorem d_M_hangs_34 : decode b_M_hangs 34 = .ok (.aload_n 0, 1) := by decide +kernel
theorem d_M_hangs_35 : decode b_M_hangs 35 = .ok (.getfield 15, 3) := by decide +kernel
theorem d_M_hangs_38 : decode b_M_hangs 38 = .ok (.iload_n 1, 1) := by decide +kernel
theorem d_M_hangs_39 : decode b_M_hangs 39 = .ok (.aaload, 1) := by decide +kernel
theorem d_M_hangs_40 : decode b_M_hangs 40 = .ok (.iload 4, 2) := by decide +kernel
theorem d_M_hangs_42 : decode b_M_hangs 42 = .ok (.baload, 1) := by decide +kernel
theorem d_M_hangs_43 : decode b_M_hangs 43 = .ok (.aload_n 0, 1) := by decide +kernel
theorem d_M_hangs_44 : decode b_M_hangs 44 = .ok (.getfield 15, 3) := by decide +kernel
theorem d_M_hangs_47 : decode b_M_hangs 47 = .ok (.iload_n 1, 1) := by decide +kernel
theorem d_M_hangs_48 : decode b_M_hangs 48 = .ok (.aaload, 1) := by decide +kernel
theorem d_M_hangs_49 : decode b_M_hangs 49 = .ok (.iload 4, 2) := by decide +kernel
theorem d_M_hangs_51 : decode b_M_hangs 51 = .ok (.iconst 1, 1) := by decide +kernel
theorem d_M_hangs_52 : decode b_M_hangs 52 = .ok (.iload_n 3, 1) := by decide +kernel
theorem d_M_hangs_53 : decode b_M_hangs 53 = .ok (.ishl, 1) := by decide +kernel
theorem d_M_hangs_54 : decode b_M_hangs 54 = .ok (.ixor, 1) := by decide +kernel
theorem d_M_hangs_55 : decode b_M_hangs 55 = .ok (.baload, 1) := by decide +kernel
theorem d_M_hangs_56 : decode b_M_hangs 56 = .ok (.if_icmp .eq 9, 3) := by decide +kernel
theorem d_M_hangs_59 : decode b_M_hangs 59 = .ok (.iload_n 2, 1) := by decide +kernel
theorem d_M_hangs_60 : decode b_M_hangs 60 = .ok (.iconst 1, 1) := by decide +kernel
theorem d_M_hangs_61 : decode b_M_hangs 61 = .ok (.iload_n 3, 1) := by decide +kernel
theorem d_M_hangs_62 : decode b_M_hangs 62 = .ok (.ishl, 1) := by decide +kernel
theorem d_M_hangs_63 : decode b_M_hangs 63 = .ok (.ior, 1) := by decide +kernel
theorem d_M_hangs_64 : decode b_M_hangs 64 = .ok (.istore_n 2, 1) := by decide +kernel
theorem d_M_hangs_65 : decode b_M_hangs 65 = .ok (.iinc 4 1, 3) := by decide +kernel
theorem d_M_hangs_68 : decode b_M_hangs 68 = .ok (.goto (-42), 3) := by decide +kernel
theorem d_M_hangs_71 : decode b_M_hangs 71 = .ok (.iinc 3 1, 3) := by decide +kernel
theorem d_M_hangs_74 : decode b_M_hangs 74 = .ok (.goto (-57), 3) := by decide +kernel
theorem d_M_hangs_77 : decode b_M_hangs 77 = .ok (.iload_n 2, 1) := by decide +kernel
theorem d_M_hangs_78 : decode b_M_hangs 78 = .ok (.ireturn, 1) := by decide +kernel
theorem d_M_same_0 : decode b_M_same 0 = .ok (.aload_n 0, 1) := by decide +kernel
theorem d_M_same_1 : decode b_M_same 1 = .ok (.iload_n 1, 1) := by decide +kernel
theorem d_M_same_2 : decode b_M_same 2 = .ok (.invokestatic 35, 3) := by decide +kernel
theorem d_M_same_5 : decode b_M_same 5 = .ok (.ifCond .ne 10, 3) := by decide +kernel
theorem d_M_same_8 : decode b_M_same 8 = .ok (.iload_n 2, 1) := by decide +kernel
theorem d_M_same_9 : decode b_M_same 9 = .ok (.invokestatic 35, 3) := by decide +kernel
theorem d_M_same_12 : decode b_M_same 12 = .ok (.ifCond .eq 7, 3) := by decide +kernel
theorem d_M_same_15 : decode b_M_same 15 = .ok (.iconst 1, 1) := by decide +kernel
theorem d_M_same_16 : decode b_M_same 16 = .ok (.goto 4, 3) := by decide +kernel
theorem d_M_same_19 : decode b_M_same 19 = .ok (.iconst 0, 1) := by decide +kernel
theorem d_M_same_20 : decode b_M_same 20 = .ok (.invokevirtual 42, 3) := by decide +kernel
theorem d_M_same_23 : decode b_M_same 23 = .ok (.ifCond .eq 5, 3) := by decide +kernel
theorem d_M_same_26 : decode b_M_same 26 = .ok (.iconst 0, 1) := by decide +kernel
theorem d_M_same_27 : decode b_M_same 27 = .ok (.ireturn, 1) := by decide +kernel
theorem d_M_same_28 : decode b_M_same 28 = .ok (.iconst 0, 1) := by decide +kernel
theorem d_M_same_29 : decode b_M_same 29 = .ok (.istore_n 3, 1) := by decide +kernel
theorem d_M_same_30 : decode b_M_same 30 = .ok (.iload_n 3, 1) := by decide +kernel
theorem d_M_same_31 : decode b_M_same 31 = .ok (.sipush 1024, 3) := by decide +kernel
theorem d_M_same_34 : decode b_M_same 34 = .ok (.if_icmp .ge 30, 3) := by decide +kernel
theorem d_M_same_37 : decode b_M_same 37 = .ok (.aload_n 0, 1) := by decide +kernel
theorem d_M_same_38 : decode b_M_same 38 = .ok (.getfield 15, 3) := by decide +kernel
theorem d_M_same_41 : decode b_M_same 41 = .ok (.iload_n 1, 1) := by decide +kernel
theorem d_M_same_42 : decode b_M_same 42 = .ok (.aaload, 1) := by decide +kernel
theorem d_M_same_43 : decode b_M_same 43 = .ok (.iload_n 3, 1) := by decide +kernel
theorem d_M_same_44 : decode b_M_same 44 = .ok (.baload, 1) := by decide +kernel
theorem d_M_same_45 : decode b_M_same 45 = .ok (.aload_n 0, 1) := by decide +kernel
theorem d_M_same_46 : decode b_M_same 46 = .ok (.getfield 15, 3) := by decide +kernel
theorem d_M_same_49 : decode b_M_same 49 = .ok (.iload_n 2, 1) := by decide +kernel
theorem d_M_same_50 : decode b_M_same 50 = .ok (.aaload, 1) := by decide +kernel
theorem d_M_same_51 : decode b_M_same 51 = .ok (.iload_n 3, 1) := by decide +kernel
theorem d_M_same_52 : decode b_M_same 52 = .ok (.baload, 1) := by decide +kernel
theorem d_M_same_53 : decode b_M_same 53 = .ok (.if_icmp .eq 5, 3) := by decide +kernel
theorem d_M_same_56 : decode b_M_same 56 = .ok (.iconst 0, 1) := by decide +kernel
theorem d_M_same_57 : decode b_M_same 57 = .ok (.ireturn, 1) := by decide +kernel
theorem d_M_same_58 : decode b_M_same 58 = .ok (.iinc 3 1, 3) := by decide +kernel
theorem d_M_same_61 : decode b_M_same 61 = .ok (.goto (-31), 3) := by decide +kernel
theorem d_M_same_64 : decode b_M_same 64 = .ok (.iconst 1, 1) := by decide +kernel
theorem d_M_same_65 : decode b_M_same 65 = .ok (.ireturn, 1) := by decide +kernel
theorem d_M_hangsOn_0 : decode b_M_hangsOn 0 = .ok (.iconst 0, 1) := by decide +kernel
theorem d_M_hangsOn_1 : decode b_M_hangsOn 1 = .ok (.istore 4, 2) := by decide +kernel
theorem d_M_hangsOn_3 : decode b_M_hangsOn 3 = .ok (.iload 4, 2) := by decide +kernel
theorem d_M_hangsOn_5 : decode b_M_hangsOn 5 = .ok (.sipush 1024, 3) := by decide +kernel
theorem d_M_hangsOn_8 : decode b_M_hangsOn 8 = .ok (.iload_n 2, 1) := by decide +kernel
theorem d_M_hangsOn_9 : decode b_M_hangsOn 9 = .ok (.ishr, 1) := by decide +kernel
theorem d_M_hangsOn_10 : decode b_M_hangsOn 10 = .ok (.if_icmp .ge 42, 3) := by decide +kernel
theorem d_M_hangsOn_13 : decode b_M_hangsOn 13 = .ok (.aload_n 0, 1) := by decide +kernel
theorem d_M_hangsOn_14 : decode b_M_hangsOn 14 = .ok (.getfield 15, 3) := by decide +kernel
theorem d_M_hangsOn_17 : decode b_M_hangsOn 17 = .ok (.iload_n 1, 1) := by decide +kernel
theorem d_M_hangsOn_18 : decode b_M_hangsOn 18 = .ok (.aaload, 1) := by decide +kernel
theorem d_M_hangsOn_19 : decode b_M_hangsOn 19 = .ok (.iload_n 3, 1) := by decide +kernel
theorem d_M_hangsOn_20 : decode b_M_hangsOn 20 = .ok (.iload 4, 2) := by decide +kernel
theorem d_M_hangsOn_22 : decode b_M_hangsOn 22 = .ok (.iload_n 2, 1) := by decide +kernel
theorem d_M_hangsOn_23 : decode b_M_hangsOn 23 = .ok (.ishl, 1) := by decide +kernel
theorem d_M_hangsOn_24 : decode b_M_hangsOn 24 = .ok (.iadd, 1) := by decide +kernel
theorem d_M_hangsOn_25 : decode b_M_hangsOn 25 = .ok (.baload, 1) := by decide +kernel
theorem d_M_hangsOn_26 : decode b_M_hangsOn 26 = .ok (.aload_n 0, 1) := by decide +kernel
theorem d_M_hangsOn_27 : decode b_M_hangsOn 27 = .ok (.getfield 15, 3) := by decide +kernel
theorem d_M_hangsOn_30 : decode b_M_hangsOn 30 = .ok (.iload_n 1, 1) := by decide +kernel
theorem d_M_hangsOn_31 : decode b_M_hangsOn 31 = .ok (.aaload, 1) := by decide +kernel
theorem d_M_hangsOn_32 : decode b_M_hangsOn 32 = .ok (.iload_n 3, 1) := by decide +kernel
theorem d_M_hangsOn_33 : decode b_M_hangsOn 33 = .ok (.iload 4, 2) := by decide +kernel
theorem d_M_hangsOn_35 : decode b_M_hangsOn 35 = .ok (.iconst 1, 1) := by decide +kernel
theorem d_M_hangsOn_36 : decode b_M_hangsOn 36 = .ok (.ixor, 1) := by decide +kernel
theorem d_M_hangsOn_37 : decode b_M_hangsOn 37 = .ok (.iload_n 2, 1) := by decide +kernel
theorem d_M_hangsOn_38 : decode b_M_hangsOn 38 = .ok (.ishl, 1) := by decide +kernel
theorem d_M_hangsOn_39 : decode b_M_hangsOn 39 = .ok (.iadd, 1) := by decide +kernel
theorem d_M_hangsOn_40 : decode b_M_hangsOn 40 = .ok (.baload, 1) := by decide +kernel
theorem d_M_hangsOn_41 : decode b_M_hangsOn 41 = .ok (.if_icmp .eq 5, 3) := by decide +kernel
theorem d_M_hangsOn_44 : decode b_M_hangsOn 44 = .ok (.iconst 1, 1) := by decide +kernel
theorem d_M_hangsOn_45 : decode b_M_hangsOn 45 = .ok (.ireturn, 1) := by decide +kernel
theorem d_M_hangsOn_46 : decode b_M_hangsOn 46 = .ok (.iinc 4 1, 3) := by decide +kernel
theorem d_M_hangsOn_49 : decode b_M_hangsOn 49 = .ok (.goto (-46), 3) := by decide +kernel
theorem d_M_hangsOn_52 : decode b_M_hangsOn 52 = .ok (.iconst 0, 1) := by decide +kernel
theorem d_M_hangsOn_53 : decode b_M_hangsOn 53 = .ok (.ireturn, 1) := by decide +kernel
theorem d_M_alike_0 : decode b_M_alike 0 = .ok (.iconst 0, 1) := by decide +kernel
theorem d_M_alike_1 : decode b_M_alike 1 = .ok (.istore 6, 2) := by decide +kernel
theorem d_M_alike_3 : decode b_M_alike 3 = .ok (.iload 6, 2) := by decide +kernel
theorem d_M_alike_5 : decode b_M_alike 5 = .ok (.sipush 1024, 3) := by decide +kernel
theorem d_M_alike_8 : decode b_M_alike 8 = .ok (.iload 5, 2) := by decide +kernel
theorem d_M_alike_10 : decode b_M_alike 10 = .ok (.ishr, 1) := by decide +kernel
theorem d_M_alike_11 : decode b_M_alike 11 = .ok (.if_icmp .ge 43, 3) := by decide +kernel
theorem d_M_alike_14 : decode b_M_alike 14 = .ok (.aload_n 0, 1) := by decide +kernel
theorem d_M_alike_15 : decode b_M_alike 15 = .ok (.getfield 15, 3) := by decide +kernel
theorem d_M_alike_18 : decode b_M_alike 18 = .ok (.iload_n 1, 1) := by decide +kernel
theorem d_M_alike_19 : decode b_M_alike 19 = .ok (.aaload, 1) := by decide +kernel
theorem d_M_alike_20 : decode b_M_alike 20 = .ok (.iload_n 2, 1) := by decide +kernel
theorem d_M_alike_21 : decode b_M_alike 21 = .ok (.iload 6, 2) := by decide +kernel
theorem d_M_alike_23 : decode b_M_alike 23 = .ok (.iload 5, 2) := by decide +kernel
theorem d_M_alike_25 : decode b_M_alike 25 = .ok (.ishl, 1) := by decide +kernel
theorem d_M_alike_26 : decode b_M_alike 26 = .ok (.iadd, 1) := by decide +kernel
theorem d_M_alike_27 : decode b_M_alike 27 = .ok (.baload, 1) := by decide +kernel
theorem d_M_alike_28 : decode b_M_alike 28 = .ok (.aload_n 0, 1) := by decide +kernel
theorem d_M_alike_29 : decode b_M_alike 29 = .ok (.getfield 15, 3) := by decide +kernel
theorem d_M_alike_32 : decode b_M_alike 32 = .ok (.iload_n 3, 1) := by decide +kernel
theorem d_M_alike_33 : decode b_M_alike 33 = .ok (.aaload, 1) := by decide +kernel
theorem d_M_alike_34 : decode b_M_alike 34 = .ok (.iload 4, 2) := by decide +kernel
theorem d_M_alike_36 : decode b_M_alike 36 = .ok (.iload 6, 2) := by decide +kernel
theorem d_M_alike_38 : decode b_M_alike 38 = .ok (.iload 5, 2) := by decide +kernel
theorem d_M_alike_40 : decode b_M_alike 40 = .ok (.ishl, 1) := by decide +kernel
theorem d_M_alike_41 : decode b_M_alike 41 = .ok (.iadd, 1) := by decide +kernel
theorem d_M_alike_42 : decode b_M_alike 42 = .ok (.baload, 1) := by decide +kernel
theorem d_M_alike_43 : decode b_M_alike 43 = .ok (.if_icmp .eq 5, 3) := by decide +kernel
theorem d_M_alike_46 : decode b_M_alike 46 = .ok (.iconst 0, 1) := by decide +kernel
theorem d_M_alike_47 : decode b_M_alike 47 = .ok (.ireturn, 1) := by decide +kernel
theorem d_M_alike_48 : decode b_M_alike 48 = .ok (.iinc 6 1, 3) := by decide +kernel
theorem d_M_alike_51 : decode b_M_alike 51 = .ok (.goto (-48), 3) := by decide +kernel
theorem d_M_alike_54 : decode b_M_alike 54 = .ok (.iconst 1, 1) := by decide +kernel
theorem d_M_alike_55 : decode b_M_alike 55 = .ok (.ireturn, 1) := by decide +kernel
theorem d_M_count_0 : decode b_M_count 0 = .ok (.iconst 0, 1) := by decide +kernel
theorem d_M_count_1 : decode b_M_count 1 = .ok (.istore_n 3, 1) := by decide +kernel
theorem d_M_count_2 : decode b_M_count 2 = .ok (.iconst 0, 1) := by decide +kernel
theorem d_M_count_3 : decode b_M_count 3 = .ok (.istore 4, 2) := by decide +kernel
theorem d_M_count_5 : decode b_M_count 5 = .ok (.iload 4, 2) := by decide +kernel
theorem d_M_count_7 : decode b_M_count 7 = .ok (.bipush 10, 2) := by decide +kernel
theorem d_M_count_9 : decode b_M_count 9 = .ok (.if_icmp .ge 140, 3) := by decide +kernel
theorem d_M_count_12 : decode b_M_count 12 = .ok (.iconst 0, 1) := by decide +kernel
theorem d_M_count_13 : decode b_M_count 13 = .ok (.istore 5, 2) := by decide +kernel
theorem d_M_count_15 : decode b_M_count 15 = .ok (.iload_n 1, 1) := by decide +kernel
theorem d_M_count_16 : decode b_M_count 16 = .ok (.istore 6, 2) := by decide +kernel
theorem d_M_count_18 : decode b_M_count 18 = .ok (.iload 6, 2) := by decide +kernel
theorem d_M_count_20 : decode b_M_count 20 = .ok (.iload_n 2, 1) := by decide +kernel
theorem d_M_count_21 : decode b_M_count 21 = .ok (.if_icmp .ge 117, 3) := by decide +kernel
theorem d_M_count_24 : decode b_M_count 24 = .ok (.iconst 0, 1) := by decide +kernel
theorem d_M_count_25 : decode b_M_count 25 = .ok (.istore 7, 2) := by decide +kernel
theorem d_M_count_27 : decode b_M_count 27 = .ok (.iload 7, 2) := by decide +kernel
theorem d_M_count_29 : decode b_M_count 29 = .ok (.iconst 1, 1) := by decide +kernel
theorem d_M_count_30 : decode b_M_count 30 = .ok (.iload 4, 2) := by decide +kernel
theorem d_M_count_32 : decode b_M_count 32 = .ok (.ishl, 1) := by decide +kernel
theorem d_M_count_33 : decode b_M_count 33 = .ok (.if_icmp .ge 99, 3) := by decide +kernel
theorem d_M_count_36 : decode b_M_count 36 = .ok (.aload_n 0, 1) := by decide +kernel
theorem d_M_count_37 : decode b_M_count 37 = .ok (.iload 6, 2) := by decide +kernel
theorem d_M_count_39 : decode b_M_count 39 = .ok (.iload 4, 2) := by decide +kernel
theorem d_M_count_41 : decode b_M_count 41 = .ok (.iload 7, 2) := by decide +kernel
theorem d_M_count_43 : decode b_M_count 43 = .ok (.invokevirtual 63, 3) := by decide +kernel
theorem d_M_count_46 : decode b_M_count 46 = .ok (.ifCond .ne 6, 3) := by decide +kernel
theorem d_M_count_49 : decode b_M_count 49 = .ok (.goto 77, 3) := by decide +kernel
theorem d_M_count_52 : decode b_M_count 52 = .ok (.iconst 0, 1) := by decide +kernel
theorem d_M_count_53 : decode b_M_count 53 = .ok (.istore 8, 2) := by decide +kernel
theorem d_M_count_55 : decode b_M_count 55 = .ok (.iload 8, 2) := by decide +kernel
theorem d_M_count_57 : decode b_M_count 57 = .ok (.iload 5, 2) := by decide +kernel
theorem d_M_count_59 : decode b_M_count 59 = .ok (.if_icmp .ge 36, 3) := by decide +kernel
theorem d_M_count_62 : decode b_M_count 62 = .ok (.aload_n 0, 1) := by decide +kernel
theorem d_M_count_63 : decode b_M_count 63 = .ok (.iload 6, 2) := by decide +kernel
theorem d_M_count_65 : decode b_M_count 65 = .ok (.iload 7, 2) := by decide +kernel
theorem d_M_count_67 : decode b_M_count 67 = .ok (.aload_n 0, 1) := by decide +kernel
theorem d_M_count_68 : decode b_M_count 68 = .ok (.getfield 22, 3) := by decide +kernel
theorem d_M_count_71 : decode b_M_count 71 = .ok (.iload 8, 2) := by decide +kernel
theorem d_M_count_73 : decode b_M_count 73 = .ok (.iaload, 1) := by decide +kernel
theorem d_M_count_74 : decode b_M_count 74 = .ok (.aload_n 0, 1) := by decide +kernel
theorem d_M_count_75 : decode b_M_count 75 = .ok (.getfield 26, 3) := by decide +kernel
theorem d_M_count_78 : decode b_M_count 78 = .ok (.iload 8, 2) := by decide +kernel
theorem d_M_count_80 : decode b_M_count 80 = .ok (.iaload, 1) := by decide +kernel
theorem d_M_count_81 : decode b_M_count 81 = .ok (.iload 4, 2) := by decide +kernel
theorem d_M_count_83 : decode b_M_count 83 = .ok (.invokevirtual 67, 3) := by decide +kernel
theorem d_M_count_86 : decode b_M_count 86 = .ok (.ifCond .ne 9, 3) := by decide +kernel
theorem d_M_count_89 : decode b_M_count 89 = .ok (.iinc 8 1, 3) := by decide +kernel
theorem d_M_count_92 : decode b_M_count 92 = .ok (.goto (-37), 3) := by decide +kernel
theorem d_M_count_95 : decode b_M_count 95 = .ok (.iload 8, 2) := by decide +kernel
theorem d_M_count_97 : decode b_M_count 97 = .ok (.iload 5, 2) := by decide +kernel
theorem d_M_count_99 : decode b_M_count 99 = .ok (.if_icmp .ge 6, 3) := by decide +kernel
theorem d_M_count_102 : decode b_M_count 102 = .ok (.goto 24, 3) := by decide +kernel
theorem d_M_count_105 : decode b_M_count 105 = .ok (.aload_n 0, 1) := by decide +kernel
theorem d_M_count_106 : decode b_M_count 106 = .ok (.getfield 22, 3) := by decide +kernel
theorem d_M_count_109 : decode b_M_count 109 = .ok (.iload 5, 2) := by decide +kernel
theorem d_M_count_111 : decode b_M_count 111 = .ok (.iload 6, 2) := by decide +kernel
theorem d_M_count_113 : decode b_M_count 113 = .ok (.iastore, 1) := by decide +kernel
theorem d_M_count_114 : decode b_M_count 114 = .ok (.aload_n 0, 1) := by decide +kernel
theorem d_M_count_115 : decode b_M_count 115 = .ok (.getfield 26, 3) := by decide +kernel
theorem d_M_count_118 : decode b_M_count 118 = .ok (.iload 5, 2) := by decide +kernel
theorem d_M_count_120 : decode b_M_count 120 = .ok (.iinc 5 1, 3) := by decide +kernel
theorem d_M_count_123 : decode b_M_count 123 = .ok (.iload 7, 2) := by decide +kernel
theorem d_M_count_125 : decode b_M_count 125 = .ok (.iastore, 1) := by decide +kernel
theorem d_M_count_126 : decode b_M_count 126 = .ok (.iinc 7 1, 3) := by decide +kernel
theorem d_M_count_129 : decode b_M_count 129 = .ok (.goto (-102), 3) := by decide +kernel
theorem d_M_count_132 : decode b_M_count 132 = .ok (.iinc 6 1, 3) := by decide +kernel
theorem d_M_count_135 : decode b_M_count 135 = .ok (.goto (-117), 3) := by decide +kernel
theorem d_M_count_138 : decode b_M_count 138 = .ok (.iload_n 3, 1) := by decide +kernel
theorem d_M_count_139 : decode b_M_count 139 = .ok (.iload 5, 2) := by decide +kernel
theorem d_M_count_141 : decode b_M_count 141 = .ok (.iadd, 1) := by decide +kernel
theorem d_M_count_142 : decode b_M_count 142 = .ok (.istore_n 3, 1) := by decide +kernel
theorem d_M_count_143 : decode b_M_count 143 = .ok (.iinc 4 1, 3) := by decide +kernel
theorem d_M_count_146 : decode b_M_count 146 = .ok (.goto (-141), 3) := by decide +kernel
theorem d_M_count_149 : decode b_M_count 149 = .ok (.iload_n 3, 1) := by decide +kernel
theorem d_M_count_150 : decode b_M_count 150 = .ok (.ireturn, 1) := by decide +kernel
theorem d_M_parts_0 : decode b_M_parts 0 = .ok (.aload_n 0, 1) := by decide +kernel
theorem d_M_parts_1 : decode b_M_parts 1 = .ok (.iload_n 1, 1) := by decide +kernel
theorem d_M_parts_2 : decode b_M_parts 2 = .ok (.invokestatic 35, 3) := by decide +kernel
theorem d_M_parts_5 : decode b_M_parts 5 = .ok (.invokevirtual 42, 3) := by decide +kernel
theorem d_M_parts_8 : decode b_M_parts 8 = .ok (.ifCond .eq 5, 3) := by decide +kernel
theorem d_M_parts_11 : decode b_M_parts 11 = .ok (.iconst 0, 1) := by decide +kernel
theorem d_M_parts_12 : decode b_M_parts 12 = .ok (.ireturn, 1) := by decide +kernel
theorem d_M_parts_13 : decode b_M_parts 13 = .ok (.aload_n 0, 1) := by decide +kernel
theorem d_M_parts_14 : decode b_M_parts 14 = .ok (.iload_n 1, 1) := by decide +kernel
theorem d_M_parts_15 : decode b_M_parts 15 = .ok (.iload_n 1, 1) := by decide +kernel
theorem d_M_parts_16 : decode b_M_parts 16 = .ok (.iconst 1, 1) := by decide +kernel
theorem d_M_parts_17 : decode b_M_parts 17 = .ok (.iadd, 1) := by decide +kernel
theorem d_M_parts_18 : decode b_M_parts 18 = .ok (.invokevirtual 71, 3) := by decide +kernel
theorem d_M_parts_21 : decode b_M_parts 21 = .ok (.ireturn, 1) := by decide +kernel
theorem d_M_together_0 : decode b_M_together 0 = .ok (.aload_n 0, 1) := by decide +kernel
theorem d_M_together_1 : decode b_M_together 1 = .ok (.iload_n 1, 1) := by decide +kernel
theorem d_M_together_2 : decode b_M_together 2 = .ok (.ifCond .lt 14, 3) := by decide +kernel
theorem d_M_together_5 : decode b_M_together 5 = .ok (.iload_n 2, 1) := by decide +kernel
theorem d_M_together_6 : decode b_M_together 6 = .ok (.bipush 16, 2) := by decide +kernel
theorem d_M_together_8 : decode b_M_together 8 = .ok (.if_icmp .gt 8, 3) := by decide +kernel
theorem d_M_together_11 : decode b_M_together 11 = .ok (.iload_n 1, 1) := by decide +kernel
theorem d_M_together_12 : decode b_M_together 12 = .ok (.iload_n 2, 1) := by decide +kernel
theorem d_M_together_13 : decode b_M_together 13 = .ok (.if_icmp .lt 7, 3) := by decide +kernel
theorem d_M_together_16 : decode b_M_together 16 = .ok (.iconst 1, 1) := by decide +kernel
theorem d_M_together_17 : decode b_M_together 17 = .ok (.goto 4, 3) := by decide +kernel
theorem d_M_together_20 : decode b_M_together 20 = .ok (.iconst 0, 1) := by decide +kernel
theorem d_M_together_21 : decode b_M_together 21 = .ok (.invokevirtual 42, 3) := by decide +kernel
theorem d_M_together_24 : decode b_M_together 24 = .ok (.ifCond .eq 5, 3) := by decide +kernel
theorem d_M_together_27 : decode b_M_together 27 = .ok (.iconst 0, 1) := by decide +kernel
theorem d_M_together_28 : decode b_M_together 28 = .ok (.ireturn, 1) := by decide +kernel
theorem d_M_together_29 : decode b_M_together 29 = .ok (.aload_n 0, 1) := by decide +kernel
theorem d_M_together_30 : decode b_M_together 30 = .ok (.iload_n 1, 1) := by decide +kernel
theorem d_M_together_31 : decode b_M_together 31 = .ok (.iload_n 2, 1) := by decide +kernel
theorem d_M_together_32 : decode b_M_together 32 = .ok (.invokevirtual 71, 3) := by decide +kernel
theorem d_M_together_35 : decode b_M_together 35 = .ok (.ireturn, 1) := by decide +kernel
theorem d_G_init_0 : decode b_G_init 0 = .ok (.aload_n 0, 1) := by decide +kernel
theorem d_G_init_1 : decode b_G_init 1 = .ok (.invokespecial 5, 3) := by decide +kernel
theorem d_G_init_4 : decode b_G_init 4 = .ok (.aload_n 0, 1) := by decide +kernel
theorem d_G_init_5 : decode b_G_init 5 = .ok (.sipush 4096, 3) := by decide +kernel
theorem d_G_init_8 : decode b_G_init 8 = .ok (.newarray .int, 2) := by decide +kernel
theorem d_G_init_10 : decode b_G_init 10 = .ok (.putfield 11, 3) := by decide +kernel
theorem d_G_init_13 : decode b_G_init 13 = .ok (.aload_n 0, 1) := by decide +kernel
theorem d_G_init_14 : decode b_G_init 14 = .ok (.sipush 1024, 3) := by decide +kernel
theorem d_G_init_17 : decode b_G_init 17 = .ok (.newarray .int, 2) := by decide +kernel
theorem d_G_init_19 : decode b_G_init 19 = .ok (.putfield 15, 3) := by decide +kernel
theorem d_G_init_22 : decode b_G_init 22 = .ok (.aload_n 0, 1) := by decide +kernel
theorem d_G_init_23 : decode b_G_init 23 = .ok (.iconst 0, 1) := by decide +kernel
theorem d_G_init_24 : decode b_G_init 24 = .ok (.putfield 18, 3) := by decide +kernel
theorem d_G_init_27 : decode b_G_init 27 = .ok (.return_, 1) := by decide +kernel
theorem d_G_clear_0 : decode b_G_clear 0 = .ok (.aload_n 0, 1) := by decide +kernel
theorem d_G_clear_1 : decode b_G_clear 1 = .ok (.getfield 11, 3) := by decide +kernel
theorem d_G_clear_4 : decode b_G_clear 4 = .ok (.iconst 0, 1) := by decide +kernel
theorem d_G_clear_5 : decode b_G_clear 5 = .ok (.invokestatic 22, 3) := by decide +kernel
theorem d_G_clear_8 : decode b_G_clear 8 = .ok (.aload_n 0, 1) := by decide +kernel
theorem d_G_clear_9 : decode b_G_clear 9 = .ok (.iconst 0, 1) := by decide +kernel
theorem d_G_clear_10 : decode b_G_clear 10 = .ok (.putfield 18, 3) := by decide +kernel
theorem d_G_clear_13 : decode b_G_clear 13 = .ok (.return_, 1) := by decide +kernel
theorem d_G_take_0 : decode b_G_take 0 = .ok (.iconst 0, 1) := by decide +kernel
theorem d_G_take_1 : decode b_G_take 1 = .ok (.istore_n 2, 1) := by decide +kernel
theorem d_G_take_2 : decode b_G_take 2 = .ok (.iload_n 2, 1) := by decide +kernel
theorem d_G_take_3 : decode b_G_take 3 = .ok (.sipush 1024, 3) := by decide +kernel
theorem d_G_take_6 : decode b_G_take 6 = .ok (.if_icmp .ge 20, 3) := by decide +kernel
theorem d_G_take_9 : decode b_G_take 9 = .ok (.aload_n 0, 1) := by decide +kernel
theorem d_G_take_10 : decode b_G_take 10 = .ok (.getfield 15, 3) := by decide +kernel
theorem d_G_take_13 : decode b_G_take 13 = .ok (.iload_n 2, 1) := by decide +kernel
theorem d_G_take_14 : decode b_G_take 14 = .ok (.aload_n 1, 1) := by decide +kernel
theorem d_G_take_15 : decode b_G_take 15 = .ok (.iload_n 2, 1) := by decide +kernel
theorem d_G_take_16 : decode b_G_take 16 = .ok (.invokestatic 28, 3) := by decide +kernel
theorem d_G_take_19 : decode b_G_take 19 = .ok (.iastore, 1) := by decide +kernel
theorem d_G_take_20 : decode b_G_take 20 = .ok (.iinc 2 1, 3) := by decide +kernel
theorem d_G_take_23 : decode b_G_take 23 = .ok (.goto (-21), 3) := by decide +kernel
theorem d_G_take_26 : decode b_G_take 26 = .ok (.bipush 9, 2) := by decide +kernel
theorem d_G_take_28 : decode b_G_take 28 = .ok (.istore_n 2, 1) := by decide +kernel
theorem d_G_take_29 : decode b_G_take 29 = .ok (.iload_n 2, 1) := by decide +kernel
theorem d_G_take_30 : decode b_G_take 30 = .ok (.ifCond .lt 56, 3) := by decide +kernel
theorem d_G_take_33 : decode b_G_take 33 = .ok (.iconst 1, 1) := by decide +kernel
theorem d_G_take_34 : decode b_G_take 34 = .ok (.iload_n 2, 1) := by decide +kernel
theorem d_G_take_35 : decode b_G_take 35 = .ok (.ishl, 1) := by decide +kernel
theorem d_G_take_36 : decode b_G_take 36 = .ok (.istore_n 3, 1) := by decide +kernel
theorem d_G_take_37 : decode b_G_take 37 = .ok (.iconst 0, 1) := by decide +kernel
theorem d_G_take_38 : decode b_G_take 38 = .ok (.istore 4, 2) := by decide +kernel
theorem d_G_take_40 : decode b_G_take 40 = .ok (.iload 4, 2) := by decide +kernel
theorem d_G_take_42 : decode b_G_take 42 = .ok (.iload_n 3, 1) := by decide +kernel
theorem d_G_take_43 : decode b_G_take 43 = .ok (.if_icmp .ge 37, 3) := by decide +kernel
theorem d_G_take_46 : decode b_G_take 46 = .ok (.aload_n 0, 1) := by decide +kernel
theorem d_G_take_47 : decode b_G_take 47 = .ok (.getfield 15, 3) := by decide +kernel
theorem d_G_take_50 : decode b_G_take 50 = .ok (.iload 4, 2) := by decide +kernel
theorem d_G_take_52 : decode b_G_take 52 = .ok (.aload_n 0, 1) := by decide +kernel
theorem d_G_take_53 : decode b_G_take 53 = .ok (.iload_n 2, 1) := by decide +kernel
theorem d_G_take_54 : decode b_G_take 54 = .ok (.aload_n 0, 1) := by decide +kernel
theorem d_G_take_55 : decode b_G_take 55 = .ok (.getfield 15, 3) := by decide +kernel
theorem d_G_take_58 : decode b_G_take 58 = .ok (.iload 4, 2) := by decide +kernel
theorem d_G_take_60 : decode b_G_take 60 = .ok (.iaload, 1) := by decide +kernel
theorem d_G_take_61 : decode b_G_take 61 = .ok (.aload_n 0, 1) := by decide +kernel
theorem d_G_take_62 : decode b_G_take 62 = .ok (.getfield 15, 3) := by decide +kernel
theorem d_G_take_65 : decode b_G_take 65 = .ok (.iload 4, 2) := by decide +kernel
theorem d_G_take_67 : decode b_G_take 67 = .ok (.iload_n 3, 1) := by decide +kernel
theorem d_G_take_68 : decode b_G_take 68 = .ok (.iadd, 1) := by decide +kernel
theorem d_G_take_69 : decode b_G_take 69 = .ok (.iaload, 1) := by decide +kernel
theorem d_G_take_70 : decode b_G_take 70 = .ok (.invokevirtual 32, 3) := by decide +kernel
theorem d_G_take_73 : decode b_G_take 73 = .ok (.iastore, 1) := by decide +kernel
theorem d_G_take_74 : decode b_G_take 74 = .ok (.iinc 4 1, 3) := by decide +kernel
theorem d_G_take_77 : decode b_G_take 77 = .ok (.goto (-37), 3) := by decide +kernel
theorem d_G_take_80 : decode b_G_take 80 = .ok (.iinc 2 (-1), 3) := by decide +kernel
theorem d_G_take_83 : decode b_G_take 83 = .ok (.goto (-54), 3) := by decide +kernel
theorem d_G_take_86 : decode b_G_take 86 = .ok (.return_, 1) := by decide +kernel
theorem d_G_nameOf_0 : decode b_G_nameOf 0 = .ok (.iload_n 2, 1) := by decide +kernel
theorem d_G_nameOf_1 : decode b_G_nameOf 1 = .ok (.iload_n 3, 1) := by decide +kernel
theorem d_G_nameOf_2 : decode b_G_nameOf 2 = .ok (.if_icmp .ne 5, 3) := by decide +kernel
theorem d_G_nameOf_5 : decode b_G_nameOf 5 = .ok (.iload_n 2, 1) := by decide +kernel
theorem d_G_nameOf_6 : decode b_G_nameOf 6 = .ok (.ireturn, 1) := by decide +kernel
theorem d_G_nameOf_7 : decode b_G_nameOf 7 = .ok (.iload_n 1, 1) := by decide +kernel
theorem d_G_nameOf_8 : decode b_G_nameOf 8 = .ok (.bipush 26, 2) := by decide +kernel
theorem d_G_nameOf_10 : decode b_G_nameOf 10 = .ok (.ishl, 1) := by decide +kernel
theorem d_G_nameOf_11 : decode b_G_nameOf 11 = .ok (.iload_n 2, 1) := by decide +kernel
theorem d_G_nameOf_12 : decode b_G_nameOf 12 = .ok (.bipush 13, 2) := by decide +kernel
theorem d_G_nameOf_14 : decode b_G_nameOf 14 = .ok (.ishl, 1) := by decide +kernel
theorem d_G_nameOf_15 : decode b_G_nameOf 15 = .ok (.ior, 1) := by decide +kernel
theorem d_G_nameOf_16 : decode b_G_nameOf 16 = .ok (.iload_n 3, 1) := by decide +kernel
theorem d_G_nameOf_17 : decode b_G_nameOf 17 = .ok (.ior, 1) := by decide +kernel
theorem d_G_nameOf_18 : decode b_G_nameOf 18 = .ok (.istore 4, 2) := by decide +kernel
theorem d_G_nameOf_20 : decode b_G_nameOf 20 = .ok (.aload_n 0, 1) := by decide +kernel
theorem d_G_nameOf_21 : decode b_G_nameOf 21 = .ok (.iload 4, 2) := by decide +kernel
theorem d_G_nameOf_23 : decode b_G_nameOf 23 = .ok (.invokevirtual 36, 3) := by decide +kernel
theorem d_G_nameOf_26 : decode b_G_nameOf 26 = .ok (.iconst 2, 1) := by decide +kernel
theorem d_G_nameOf_27 : decode b_G_nameOf 27 = .ok (.iadd, 1) := by decide +kernel
theorem d_G_nameOf_28 : decode b_G_nameOf 28 = .ok (.ireturn, 1) := by decide +kernel
theorem d_G_slotOf_0 : decode b_G_slotOf 0 = .ok (.iload_n 1, 1) := by decide +kernel
theorem d_G_slotOf_1 : decode b_G_slotOf 1 = .ok (.ldc 40, 2) := by decide +kernel
theorem d_G_slotOf_3 : decode b_G_slotOf 3 = .ok (.imul, 1) := by decide +kernel
theorem d_G_slotOf_4 : decode b_G_slotOf 4 = .ok (.bipush 20, 2) := by decide +kernel
theorem d_G_slotOf_6 : decode b_G_slotOf 6 = .ok (.iushr, 1) := by decide +kernel
theorem d_G_slotOf_7 : decode b_G_slotOf 7 = .ok (.istore_n 2, 1) := by decide +kernel
theorem d_G_slotOf_8 : decode b_G_slotOf 8 = .ok (.iconst 0, 1) := by decide +kernel
theorem d_G_slotOf_9 : decode b_G_slotOf 9 = .ok (.istore_n 3, 1) := by decide +kernel
theorem d_G_slotOf_10 : decode b_G_slotOf 10 = .ok (.iload_n 3, 1) := by decide +kernel
theorem d_G_slotOf_11 : decode b_G_slotOf 11 = .ok (.sipush 4096, 3) := by decide +kernel
theorem d_G_slotOf_14 : decode b_G_slotOf 14 = .ok (.if_icmp .ge 57, 3) := by decide +kernel
theorem d_G_slotOf_17 : decode b_G_slotOf 17 = .ok (.aload_n 0, 1) := by decide +kernel
theorem d_G_slotOf_18 : decode b_G_slotOf 18 = .ok (.getfield 11, 3) := by decide +kernel
theorem d_G_slotOf_21 : decode b_G_slotOf 21 = .ok (.iload_n 2, 1) := by decide +kernel
theorem d_G_slotOf_22 : decode b_G_slotOf 22 = .ok (.iaload, 1) := by decide +kernel
theorem d_G_slotOf_23 : decode b_G_slotOf 23 = .ok (.iload_n 1, 1) := by decide +kernel
theorem d_G_slotOf_24 : decode b_G_slotOf 24 = .ok (.if_icmp .ne 5, 3) := by decide +kernel
theorem d_G_slotOf_27 : decode b_G_slotOf 27 = .ok (.iload_n 2, 1) := by decide +kernel
theorem d_G_slotOf_28 : decode b_G_slotOf 28 = .ok (.ireturn, 1) := by decide +kernel
theorem d_G_slotOf_29 : decode b_G_slotOf 29 = .ok (.aload_n 0, 1) := by decide +kernel
theorem d_G_slotOf_30 : decode b_G_slotOf 30 = .ok (.getfield 11, 3) := by decide +kernel
theorem d_G_slotOf_33 : decode b_G_slotOf 33 = .ok (.iload_n 2, 1) := by decide +kernel
theorem d_G_slotOf_34 : decode b_G_slotOf 34 = .ok (.iaload, 1) := by decide +kernel
theorem d_G_slotOf_35 : decode b_G_slotOf 35 = .ok (.ifCond .ne 22, 3) := by decide +kernel
theorem d_G_slotOf_38 : decode b_G_slotOf 38 = .ok (.aload_n 0, 1) := by decide +kernel
theorem d_G_slotOf_39 : decode b_G_slotOf 39 = .ok (.getfield 11, 3) := by decide +kernel
theorem d_G_slotOf_42 : decode b_G_slotOf 42 = .ok (.iload_n 2, 1) := by decide +kernel
theorem d_G_slotOf_43 : decode b_G_slotOf 43 = .ok (.iload_n 1, 1) := by decide +kernel
theorem d_G_slotOf_44 : decode b_G_slotOf 44 = .ok (.iastore, 1) := by decide +kernel
theorem d_G_slotOf_45 : decode b_G_slotOf 45 = .ok (.aload_n 0, 1) := by decide +kernel
theorem d_G_slotOf_46 : decode b_G_slotOf 46 = .ok (.dup, 1) := by decide +kernel
theorem d_G_slotOf_47 : decode b_G_slotOf 47 = .ok (.getfield 18, 3) := by decide +kernel
theorem d_G_slotOf_50 : decode b_G_slotOf 50 = .ok (.iconst 1, 1) := by decide +kernel
theorem d_G_slotOf_51 : decode b_G_slotOf 51 = .ok (.iadd, 1) := by decide +kernel
theorem d_G_slotOf_52 : decode b_G_slotOf 52 = .ok (.putfield 18, 3) := by decide +kernel
theorem d_G_slotOf_55 : decode b_G_slotOf 55 = .ok (.iload_n 2, 1) := by decide +kernel
theorem d_G_slotOf_56 : decode b_G_slotOf 56 = .ok (.ireturn, 1) := by decide +kernel
theorem d_G_slotOf_57 : decode b_G_slotOf 57 = .ok (.iload_n 2, 1) := by decide +kernel
theorem d_G_slotOf_58 : decode b_G_slotOf 58 = .ok (.iconst 1, 1) := by decide +kernel
theorem d_G_slotOf_59 : decode b_G_slotOf 59 = .ok (.iadd, 1) := by decide +kernel
theorem d_G_slotOf_60 : decode b_G_slotOf 60 = .ok (.sipush 4095, 3) := by decide +kernel
theorem d_G_slotOf_63 : decode b_G_slotOf 63 = .ok (.iand, 1) := by decide +kernel
theorem d_G_slotOf_64 : decode b_G_slotOf 64 = .ok (.istore_n 2, 1) := by decide +kernel
theorem d_G_slotOf_65 : decode b_G_slotOf 65 = .ok (.iinc 3 1, 3) := by decide +kernel
theorem d_G_slotOf_68 : decode b_G_slotOf 68 = .ok (.goto (-58), 3) := by decide +kernel
theorem d_G_slotOf_71 : decode b_G_slotOf 71 = .ok (.iconst 0, 1) := by decide +kernel
theorem d_G_slotOf_72 : decode b_G_slotOf 72 = .ok (.ireturn, 1) := by decide +kernel
theorem d_L_variable_0 : decode b_L_variable 0 = .ok (.aload_n 0, 1) := by decide +kernel
theorem d_L_variable_1 : decode b_L_variable 1 = .ok (.iload_n 1, 1) := by decide +kernel
theorem d_L_variable_2 : decode b_L_variable 2 = .ok (.iload_n 2, 1) := by decide +kernel
theorem d_L_variable_3 : decode b_L_variable 3 = .ok (.invokevirtual 7, 3) := by decide +kernel
theorem d_L_variable_6 : decode b_L_variable 6 = .ok (.goto 6, 3) := by decide +kernel
theorem d_L_variable_9 : decode b_L_variable 9 = .ok (.astore_n 3, 1) := by decide +kernel
theorem d_L_variable_10 : decode b_L_variable 10 = .ok (.iconst 1, 1) := by decide +kernel
theorem d_L_variable_11 : decode b_L_variable 11 = .ok (.ireturn, 1) := by decide +kernel
theorem d_L_variable_12 : decode b_L_variable 12 = .ok (.iconst 0, 1) := by decide +kernel
theorem d_L_variable_13 : decode b_L_variable 13 = .ok (.ireturn, 1) := by decide +kernel
theorem d_L_only_0 : decode b_L_only 0 = .ok (.aload_n 0, 1) := by decide +kernel
theorem d_L_only_1 : decode b_L_only 1 = .ok (.iload_n 1, 1) := by decide +kernel
theorem d_L_only_2 : decode b_L_only 2 = .ok (.iload_n 2, 1) := by decide +kernel
theorem d_L_only_3 : decode b_L_only 3 = .ok (.invokevirtual 15, 3) := by decide +kernel
theorem d_L_only_6 : decode b_L_only 6 = .ok (.goto 6, 3) := by decide +kernel
theorem d_L_only_9 : decode b_L_only 9 = .ok (.astore_n 3, 1) := by decide +kernel
theorem d_L_only_10 : decode b_L_only 10 = .ok (.iconst 1, 1) := by decide +kernel
theorem d_L_only_11 : decode b_L_only 11 = .ok (.ireturn, 1) := by decide +kernel
theorem d_L_only_12 : decode b_L_only 12 = .ok (.iconst 0, 1) := by decide +kernel
theorem d_L_only_13 : decode b_L_only 13 = .ok (.ireturn, 1) := by decide +kernel
theorem d_L_join_0 : decode b_L_join 0 = .ok (.aload_n 0, 1) := by decide +kernel
theorem d_L_join_1 : decode b_L_join 1 = .ok (.iload_n 1, 1) := by decide +kernel
theorem d_L_join_2 : decode b_L_join 2 = .ok (.iload_n 2, 1) := by decide +kernel
theorem d_L_join_3 : decode b_L_join 3 = .ok (.iload_n 3, 1) := by decide +kernel
theorem d_L_join_4 : decode b_L_join 4 = .ok (.iload 4, 2) := by decide +kernel
theorem d_L_join_6 : decode b_L_join 6 = .ok (.invokevirtual 18, 3) := by decide +kernel
theorem d_L_join_9 : decode b_L_join 9 = .ok (.goto 7, 3) := by decide +kernel
theorem d_L_join_12 : decode b_L_join 12 = .ok (.astore 5, 2) := by decide +kernel
theorem d_L_join_14 : decode b_L_join 14 = .ok (.iconst 1, 1) := by decide +kernel
theorem d_L_join_15 : decode b_L_join 15 = .ok (.ireturn, 1) := by decide +kernel
theorem d_L_join_16 : decode b_L_join 16 = .ok (.iconst 0, 1) := by decide +kernel
theorem d_L_join_17 : decode b_L_join 17 = .ok (.ireturn, 1) := by decide +kernel
theorem d_L_choose_0 : decode b_L_choose 0 = .ok (.aload_n 0, 1) := by decide +kernel
theorem d_L_choose_1 : decode b_L_choose 1 = .ok (.iload_n 1, 1) := by decide +kernel
theorem d_L_choose_2 : decode b_L_choose 2 = .ok (.iload_n 2, 1) := by decide +kernel
theorem d_L_choose_3 : decode b_L_choose 3 = .ok (.iload_n 3, 1) := by decide +kernel
theorem d_L_choose_4 : decode b_L_choose 4 = .ok (.iload 4, 2) := by decide +kernel
theorem d_L_choose_6 : decode b_L_choose 6 = .ok (.invokevirtual 22, 3) := by decide +kernel
theorem d_L_choose_9 : decode b_L_choose 9 = .ok (.goto 7, 3) := by decide +kernel
theorem d_L_choose_12 : decode b_L_choose 12 = .ok (.astore 5, 2) := by decide +kernel
theorem d_L_choose_14 : decode b_L_choose 14 = .ok (.iconst 1, 1) := by decide +kernel
theorem d_L_choose_15 : decode b_L_choose 15 = .ok (.ireturn, 1) := by decide +kernel
theorem d_L_choose_16 : decode b_L_choose 16 = .ok (.iconst 0, 1) := by decide +kernel
theorem d_L_choose_17 : decode b_L_choose 17 = .ok (.ireturn, 1) := by decide +kernel
theorem d_L_cut_0 : decode b_L_cut 0 = .ok (.aload_n 0, 1) := by decide +kernel
theorem d_L_cut_1 : decode b_L_cut 1 = .ok (.iload_n 1, 1) := by decide +kernel
theorem d_L_cut_2 : decode b_L_cut 2 = .ok (.iload_n 2, 1) := by decide +kernel
theorem d_L_cut_3 : decode b_L_cut 3 = .ok (.iload_n 3, 1) := by decide +kernel
theorem d_L_cut_4 : decode b_L_cut 4 = .ok (.iload 4, 2) := by decide +kernel
theorem d_L_cut_6 : decode b_L_cut 6 = .ok (.invokevirtual 25, 3) := by decide +kernel
theorem d_L_cut_9 : decode b_L_cut 9 = .ok (.goto 7, 3) := by decide +kernel
theorem d_L_cut_12 : decode b_L_cut 12 = .ok (.astore 5, 2) := by decide +kernel
theorem d_L_cut_14 : decode b_L_cut 14 = .ok (.iconst 1, 1) := by decide +kernel
theorem d_L_cut_15 : decode b_L_cut 15 = .ok (.ireturn, 1) := by decide +kernel
theorem d_L_cut_16 : decode b_L_cut 16 = .ok (.iconst 0, 1) := by decide +kernel
theorem d_L_cut_17 : decode b_L_cut 17 = .ok (.ireturn, 1) := by decide +kernel
theorem d_L_put_0 : decode b_L_put 0 = .ok (.aload_n 0, 1) := by decide +kernel
theorem d_L_put_1 : decode b_L_put 1 = .ok (.iload_n 1, 1) := by decide +kernel
theorem d_L_put_2 : decode b_L_put 2 = .ok (.iload_n 2, 1) := by decide +kernel
theorem d_L_put_3 : decode b_L_put 3 = .ok (.iload_n 3, 1) := by decide +kernel
theorem d_L_put_4 : decode b_L_put 4 = .ok (.iload 4, 2) := by decide +kernel
theorem d_L_put_6 : decode b_L_put 6 = .ok (.invokevirtual 29, 3) := by decide +kernel
theorem d_L_put_9 : decode b_L_put 9 = .ok (.goto 7, 3) := by decide +kernel
theorem d_L_put_12 : decode b_L_put 12 = .ok (.astore 5, 2) := by decide +kernel
theorem d_L_put_14 : decode b_L_put 14 = .ok (.iconst 1, 1) := by decide +kernel
theorem d_L_put_15 : decode b_L_put 15 = .ok (.ireturn, 1) := by decide +kernel
theorem d_L_put_16 : decode b_L_put 16 = .ok (.iconst 0, 1) := by decide +kernel
theorem d_L_put_17 : decode b_L_put 17 = .ok (.ireturn, 1) := by decide +kernel
theorem d_L_bound_0 : decode b_L_bound 0 = .ok (.aload_n 0, 1) := by decide +kernel
theorem d_L_bound_1 : decode b_L_bound 1 = .ok (.iload_n 1, 1) := by decide +kernel
theorem d_L_bound_2 : decode b_L_bound 2 = .ok (.iload_n 2, 1) := by decide +kernel
theorem d_L_bound_3 : decode b_L_bound 3 = .ok (.iload_n 3, 1) := by decide +kernel
theorem d_L_bound_4 : decode b_L_bound 4 = .ok (.iload 4, 2) := by decide +kernel
theorem d_L_bound_6 : decode b_L_bound 6 = .ok (.invokevirtual 32, 3) := by decide +kernel
theorem d_L_bound_9 : decode b_L_bound 9 = .ok (.goto 7, 3) := by decide +kernel
theorem d_L_bound_12 : decode b_L_bound 12 = .ok (.astore 5, 2) := by decide +kernel
theorem d_L_bound_14 : decode b_L_bound 14 = .ok (.iconst 1, 1) := by decide +kernel
theorem d_L_bound_15 : decode b_L_bound 15 = .ok (.ireturn, 1) := by decide +kernel
theorem d_L_bound_16 : decode b_L_bound 16 = .ok (.iconst 0, 1) := by decide +kernel
theorem d_L_bound_17 : decode b_L_bound 17 = .ok (.ireturn, 1) := by decide +kernel
theorem d_L_swap_0 : decode b_L_swap 0 = .ok (.aload_n 0, 1) := by decide +kernel
theorem d_L_swap_1 : decode b_L_swap 1 = .ok (.iload_n 1, 1) := by decide +kernel
theorem d_L_swap_2 : decode b_L_swap 2 = .ok (.iload_n 2, 1) := by decide +kernel
theorem d_L_swap_3 : decode b_L_swap 3 = .ok (.iload_n 3, 1) := by decide +kernel
theorem d_L_swap_4 : decode b_L_swap 4 = .ok (.iload 4, 2) := by decide +kernel
theorem d_L_swap_6 : decode b_L_swap 6 = .ok (.invokevirtual 35, 3) := by decide +kernel
theorem d_L_swap_9 : decode b_L_swap 9 = .ok (.goto 7, 3) := by decide +kernel
theorem d_L_swap_12 : decode b_L_swap 12 = .ok (.astore 5, 2) := by decide +kernel
theorem d_L_swap_14 : decode b_L_swap 14 = .ok (.iconst 1, 1) := by decide +kernel
theorem d_L_swap_15 : decode b_L_swap 15 = .ok (.ireturn, 1) := by decide +kernel
theorem d_L_swap_16 : decode b_L_swap 16 = .ok (.iconst 0, 1) := by decide +kernel
theorem d_L_swap_17 : decode b_L_swap 17 = .ok (.ireturn, 1) := by decide +kernel
theorem d_L_is_0 : decode b_L_is 0 = .ok (.aload_n 3, 1) := by decide +kernel
theorem d_L_is_1 : decode b_L_is 1 = .ok (.iconst 0, 1) := by decide +kernel
theorem d_L_is_2 : decode b_L_is 2 = .ok (.aload_n 0, 1) := by decide +kernel
theorem d_L_is_3 : decode b_L_is 3 = .ok (.iload_n 1, 1) := by decide +kernel
theorem d_L_is_4 : decode b_L_is 4 = .ok (.iload_n 2, 1) := by decide +kernel
theorem d_L_is_5 : decode b_L_is 5 = .ok (.invokevirtual 38, 3) := by decide +kernel
theorem d_L_is_8 : decode b_L_is 8 = .ok (.ifCond .eq 7, 3) := by decide +kernel
theorem d_L_is_11 : decode b_L_is 11 = .ok (.lconst 1, 1) := by decide +kernel
theorem d_L_is_12 : decode b_L_is 12 = .ok (.goto 4, 3) := by decide +kernel
theorem d_L_is_15 : decode b_L_is 15 = .ok (.lconst 0, 1) := by decide +kernel
theorem d_L_is_16 : decode b_L_is 16 = .ok (.lastore, 1) := by decide +kernel
theorem d_L_is_17 : decode b_L_is 17 = .ok (.goto 7, 3) := by decide +kernel
theorem d_L_is_20 : decode b_L_is 20 = .ok (.astore 4, 2) := by decide +kernel
theorem d_L_is_22 : decode b_L_is 22 = .ok (.iconst 1, 1) := by decide +kernel
theorem d_L_is_23 : decode b_L_is 23 = .ok (.ireturn, 1) := by decide +kernel
theorem d_L_is_24 : decode b_L_is 24 = .ok (.iconst 0, 1) := by decide +kernel
theorem d_L_is_25 : decode b_L_is 25 = .ok (.ireturn, 1) := by decide +kernel
theorem d_L_ways_0 : decode b_L_ways 0 = .ok (.aload_n 2, 1) := by decide +kernel
theorem d_L_ways_1 : decode b_L_ways 1 = .ok (.iconst 0, 1) := by decide +kernel
theorem d_L_ways_2 : decode b_L_ways 2 = .ok (.aload_n 0, 1) := by decide +kernel
theorem d_L_ways_3 : decode b_L_ways 3 = .ok (.iload_n 1, 1) := by decide +kernel
theorem d_L_ways_4 : decode b_L_ways 4 = .ok (.invokevirtual 42, 3) := by decide +kernel
theorem d_L_ways_7 : decode b_L_ways 7 = .ok (.i2l, 1) := by decide +kernel
theorem d_L_ways_8 : decode b_L_ways 8 = .ok (.lastore, 1) := by decide +kernel
theorem d_L_ways_9 : decode b_L_ways 9 = .ok (.goto 6, 3) := by decide +kernel
theorem d_L_ways_12 : decode b_L_ways 12 = .ok (.astore_n 3, 1) := by decide +kernel
theorem d_L_ways_13 : decode b_L_ways 13 = .ok (.iconst 1, 1) := by decide +kernel
theorem d_L_ways_14 : decode b_L_ways 14 = .ok (.ireturn, 1) := by decide +kernel
theorem d_L_ways_15 : decode b_L_ways 15 = .ok (.iconst 0, 1) := by decide +kernel
theorem d_L_ways_16 : decode b_L_ways 16 = .ok (.ireturn, 1) := by decide +kernel
theorem d_L_first_0 : decode b_L_first 0 = .ok (.aload_n 2, 1) := by decide +kernel
theorem d_L_first_1 : decode b_L_first 1 = .ok (.iconst 0, 1) := by decide +kernel
theorem d_L_first_2 : decode b_L_first 2 = .ok (.aload_n 0, 1) := by decide +kernel
theorem d_L_first_3 : decode b_L_first 3 = .ok (.iload_n 1, 1) := by decide +kernel
theorem d_L_first_4 : decode b_L_first 4 = .ok (.invokevirtual 46, 3) := by decide +kernel
theorem d_L_first_7 : decode b_L_first 7 = .ok (.i2l, 1) := by decide +kernel
theorem d_L_first_8 : decode b_L_first 8 = .ok (.lastore, 1) := by decide +kernel
theorem d_L_first_9 : decode b_L_first 9 = .ok (.goto 9, 3) := by decide +kernel
theorem d_L_first_12 : decode b_L_first 12 = .ok (.astore_n 3, 1) := by decide +kernel
theorem d_L_first_13 : decode b_L_first 13 = .ok (.iconst 1, 1) := by decide +kernel
theorem d_L_first_14 : decode b_L_first 14 = .ok (.ireturn, 1) := by decide +kernel
theorem d_L_first_15 : decode b_L_first 15 = .ok (.astore_n 3, 1) := by decide +kernel
theorem d_L_first_16 : decode b_L_first 16 = .ok (.iconst 2, 1) := by decide +kernel
theorem d_L_first_17 : decode b_L_first 17 = .ok (.ireturn, 1) := by decide +kernel
theorem d_L_first_18 : decode b_L_first 18 = .ok (.iconst 0, 1) := by decide +kernel
theorem d_L_first_19 : decode b_L_first 19 = .ok (.ireturn, 1) := by decide +kernel
theorem d_L_hangs_0 : decode b_L_hangs 0 = .ok (.aload_n 2, 1) := by decide +kernel
theorem d_L_hangs_1 : decode b_L_hangs 1 = .ok (.iconst 0, 1) := by decide +kernel
theorem d_L_hangs_2 : decode b_L_hangs 2 = .ok (.aload_n 0, 1) := by decide +kernel
theorem d_L_hangs_3 : decode b_L_hangs 3 = .ok (.iload_n 1, 1) := by decide +kernel
theorem d_L_hangs_4 : decode b_L_hangs 4 = .ok (.invokevirtual 51, 3) := by decide +kernel
theorem d_L_hangs_7 : decode b_L_hangs 7 = .ok (.i2l, 1) := by decide +kernel
theorem d_L_hangs_8 : decode b_L_hangs 8 = .ok (.lastore, 1) := by decide +kernel
theorem d_L_hangs_9 : decode b_L_hangs 9 = .ok (.goto 6, 3) := by decide +kernel
theorem d_L_hangs_12 : decode b_L_hangs 12 = .ok (.astore_n 3, 1) := by decide +kernel
theorem d_L_hangs_13 : decode b_L_hangs 13 = .ok (.iconst 1, 1) := by decide +kernel
theorem d_L_hangs_14 : decode b_L_hangs 14 = .ok (.ireturn, 1) := by decide +kernel
theorem d_L_hangs_15 : decode b_L_hangs 15 = .ok (.iconst 0, 1) := by decide +kernel
theorem d_L_hangs_16 : decode b_L_hangs 16 = .ok (.ireturn, 1) := by decide +kernel
theorem d_L_same_0 : decode b_L_same 0 = .ok (.aload_n 3, 1) := by decide +kernel
theorem d_L_same_1 : decode b_L_same 1 = .ok (.iconst 0, 1) := by decide +kernel
theorem d_L_same_2 : decode b_L_same 2 = .ok (.aload_n 0, 1) := by decide +kernel
theorem d_L_same_3 : decode b_L_same 3 = .ok (.iload_n 1, 1) := by decide +kernel
theorem d_L_same_4 : decode b_L_same 4 = .ok (.iload_n 2, 1) := by decide +kernel
theorem d_L_same_5 : decode b_L_same 5 = .ok (.invokevirtual 54, 3) := by decide +kernel
theorem d_L_same_8 : decode b_L_same 8 = .ok (.ifCond .eq 7, 3) := by decide +kernel
theorem d_L_same_11 : decode b_L_same 11 = .ok (.lconst 1, 1) := by decide +kernel
theorem d_L_same_12 : decode b_L_same 12 = .ok (.goto 4, 3) := by decide +kernel
theorem d_L_same_15 : decode b_L_same 15 = .ok (.lconst 0, 1) := by decide +kernel
theorem d_L_same_16 : decode b_L_same 16 = .ok (.lastore, 1) := by decide +kernel
theorem d_L_same_17 : decode b_L_same 17 = .ok (.goto 7, 3) := by decide +kernel
theorem d_L_same_20 : decode b_L_same 20 = .ok (.astore 4, 2) := by decide +kernel
theorem d_L_same_22 : decode b_L_same 22 = .ok (.iconst 1, 1) := by decide +kernel
theorem d_L_same_23 : decode b_L_same 23 = .ok (.ireturn, 1) := by decide +kernel
theorem d_L_same_24 : decode b_L_same 24 = .ok (.iconst 0, 1) := by decide +kernel
theorem d_L_same_25 : decode b_L_same 25 = .ok (.ireturn, 1) := by decide +kernel
theorem d_L_parts_0 : decode b_L_parts 0 = .ok (.aload_n 2, 1) := by decide +kernel
theorem d_L_parts_1 : decode b_L_parts 1 = .ok (.iconst 0, 1) := by decide +kernel
theorem d_L_parts_2 : decode b_L_parts 2 = .ok (.aload_n 0, 1) := by decide +kernel
theorem d_L_parts_3 : decode b_L_parts 3 = .ok (.iload_n 1, 1) := by decide +kernel
theorem d_L_parts_4 : decode b_L_parts 4 = .ok (.invokevirtual 57, 3) := by decide +kernel
theorem d_L_parts_7 : decode b_L_parts 7 = .ok (.i2l, 1) := by decide +kernel
theorem d_L_parts_8 : decode b_L_parts 8 = .ok (.lastore, 1) := by decide +kernel
theorem d_L_parts_9 : decode b_L_parts 9 = .ok (.goto 6, 3) := by decide +kernel
theorem d_L_parts_12 : decode b_L_parts 12 = .ok (.astore_n 3, 1) := by decide +kernel
theorem d_L_parts_13 : decode b_L_parts 13 = .ok (.iconst 1, 1) := by decide +kernel
theorem d_L_parts_14 : decode b_L_parts 14 = .ok (.ireturn, 1) := by decide +kernel
theorem d_L_parts_15 : decode b_L_parts 15 = .ok (.iconst 0, 1) := by decide +kernel
theorem d_L_parts_16 : decode b_L_parts 16 = .ok (.ireturn, 1) := by decide +kernel
theorem d_L_together_0 : decode b_L_together 0 = .ok (.aload_n 3, 1) := by decide +kernel
theorem d_L_together_1 : decode b_L_together 1 = .ok (.iconst 0, 1) := by decide +kernel
theorem d_L_together_2 : decode b_L_together 2 = .ok (.aload_n 0, 1) := by decide +kernel
theorem d_L_together_3 : decode b_L_together 3 = .ok (.iload_n 1, 1) := by decide +kernel
theorem d_L_together_4 : decode b_L_together 4 = .ok (.iload_n 2, 1) := by decide +kernel
theorem d_L_together_5 : decode b_L_together 5 = .ok (.invokevirtual 60, 3) := by decide +kernel
theorem d_L_together_8 : decode b_L_together 8 = .ok (.i2l, 1) := by decide +kernel
theorem d_L_together_9 : decode b_L_together 9 = .ok (.lastore, 1) := by decide +kernel
theorem d_L_together_10 : decode b_L_together 10 = .ok (.goto 7, 3) := by decide +kernel
theorem d_L_together_13 : decode b_L_together 13 = .ok (.astore 4, 2) := by decide +kernel
theorem d_L_together_15 : decode b_L_together 15 = .ok (.iconst 1, 1) := by decide +kernel
theorem d_L_together_16 : decode b_L_together 16 = .ok (.ireturn, 1) := by decide +kernel
theorem d_L_together_17 : decode b_L_together 17 = .ok (.iconst 0, 1) := by decide +kernel
theorem d_L_together_18 : decode b_L_together 18 = .ok (.ireturn, 1) := by decide +kernel
end
section
theorem d_J_bitCount_0 : decode b_J_bitCount 0 = .ok (.lload_n 0, 1) := by decide +kernel
theorem d_J_bitCount_1 : decode b_J_bitCount 1 = .ok (.lload_n 0, 1) := by decide +kernel
theorem d_J_bitCount_2 : decode b_J_bitCount 2 = .ok (.iconst 1, 1) := by decide +kernel
theorem d_J_bitCount_3 : decode b_J_bitCount 3 = .ok (.lushr, 1) := by decide +kernel
theorem d_J_bitCount_4 : decode b_J_bitCount 4 = .ok (.ldc2_w 314, 3) := by decide +kernel
theorem d_J_bitCount_7 : decode b_J_bitCount 7 = .ok (.land, 1) := by decide +kernel
theorem d_J_bitCount_8 : decode b_J_bitCount 8 = .ok (.lsub, 1) := by decide +kernel
theorem d_J_bitCount_9 : decode b_J_bitCount 9 = .ok (.lstore_n 0, 1) := by decide +kernel
theorem d_J_bitCount_10 : decode b_J_bitCount 10 = .ok (.lload_n 0, 1) := by decide +kernel
theorem d_J_bitCount_11 : decode b_J_bitCount 11 = .ok (.ldc2_w 316, 3) := by decide +kernel
theorem d_J_bitCount_14 : decode b_J_bitCount 14 = .ok (.land, 1) := by decide +kernel
theorem d_J_bitCount_15 : decode b_J_bitCount 15 = .ok (.lload_n 0, 1) := by decide +kernel
theorem d_J_bitCount_16 : decode b_J_bitCount 16 = .ok (.iconst 2, 1) := by decide +kernel
theorem d_J_bitCount_17 : decode b_J_bitCount 17 = .ok (.lushr, 1) := by decide +kernel
theorem d_J_bitCount_18 : decode b_J_bitCount 18 = .ok (.ldc2_w 316, 3) := by decide +kernel
theorem d_J_bitCount_21 : decode b_J_bitCount 21 = .ok (.land, 1) := by decide +kernel
theorem d_J_bitCount_22 : decode b_J_bitCount 22 = .ok (.ladd, 1) := by decide +kernel
theorem d_J_bitCount_23 : decode b_J_bitCount 23 = .ok (.lstore_n 0, 1) := by decide +kernel
theorem d_J_bitCount_24 : decode b_J_bitCount 24 = .ok (.lload_n 0, 1) := by decide +kernel
theorem d_J_bitCount_25 : decode b_J_bitCount 25 = .ok (.lload_n 0, 1) := by decide +kernel
theorem d_J_bitCount_26 : decode b_J_bitCount 26 = .ok (.iconst 4, 1) := by decide +kernel
theorem d_J_bitCount_27 : decode b_J_bitCount 27 = .ok (.lushr, 1) := by decide +kernel
theorem d_J_bitCount_28 : decode b_J_bitCount 28 = .ok (.ladd, 1) := by decide +kernel
theorem d_J_bitCount_29 : decode b_J_bitCount 29 = .ok (.ldc2_w 318, 3) := by decide +kernel
theorem d_J_bitCount_32 : decode b_J_bitCount 32 = .ok (.land, 1) := by decide +kernel
theorem d_J_bitCount_33 : decode b_J_bitCount 33 = .ok (.lstore_n 0, 1) := by decide +kernel
theorem d_J_bitCount_34 : decode b_J_bitCount 34 = .ok (.lload_n 0, 1) := by decide +kernel
theorem d_J_bitCount_35 : decode b_J_bitCount 35 = .ok (.lload_n 0, 1) := by decide +kernel
theorem d_J_bitCount_36 : decode b_J_bitCount 36 = .ok (.bipush 8, 2) := by decide +kernel
theorem d_J_bitCount_38 : decode b_J_bitCount 38 = .ok (.lushr, 1) := by decide +kernel
theorem d_J_bitCount_39 : decode b_J_bitCount 39 = .ok (.ladd, 1) := by decide +kernel
theorem d_J_bitCount_40 : decode b_J_bitCount 40 = .ok (.lstore_n 0, 1) := by decide +kernel
theorem d_J_bitCount_41 : decode b_J_bitCount 41 = .ok (.lload_n 0, 1) := by decide +kernel
theorem d_J_bitCount_42 : decode b_J_bitCount 42 = .ok (.lload_n 0, 1) := by decide +kernel
theorem d_J_bitCount_43 : decode b_J_bitCount 43 = .ok (.bipush 16, 2) := by decide +kernel
theorem d_J_bitCount_45 : decode b_J_bitCount 45 = .ok (.lushr, 1) := by decide +kernel
theorem d_J_bitCount_46 : decode b_J_bitCount 46 = .ok (.ladd, 1) := by decide +kernel
theorem d_J_bitCount_47 : decode b_J_bitCount 47 = .ok (.lstore_n 0, 1) := by decide +kernel
theorem d_J_bitCount_48 : decode b_J_bitCount 48 = .ok (.lload_n 0, 1) := by decide +kernel
theorem d_J_bitCount_49 : decode b_J_bitCount 49 = .ok (.lload_n 0, 1) := by decide +kernel
theorem d_J_bitCount_50 : decode b_J_bitCount 50 = .ok (.bipush 32, 2) := by decide +kernel
theorem d_J_bitCount_52 : decode b_J_bitCount 52 = .ok (.lushr, 1) := by decide +kernel
theorem d_J_bitCount_53 : decode b_J_bitCount 53 = .ok (.ladd, 1) := by decide +kernel
theorem d_J_bitCount_54 : decode b_J_bitCount 54 = .ok (.lstore_n 0, 1) := by decide +kernel
theorem d_J_bitCount_55 : decode b_J_bitCount 55 = .ok (.lload_n 0, 1) := by decide +kernel
theorem d_J_bitCount_56 : decode b_J_bitCount 56 = .ok (.l2i, 1) := by decide +kernel
theorem d_J_bitCount_57 : decode b_J_bitCount 57 = .ok (.bipush 127, 2) := by decide +kernel
theorem d_J_bitCount_59 : decode b_J_bitCount 59 = .ok (.iand, 1) := by decide +kernel
theorem d_J_bitCount_60 : decode b_J_bitCount 60 = .ok (.ireturn, 1) := by decide +kernel
theorem d_A_fillI_0 : decode b_A_fillI 0 = .ok (.iconst 0, 1) := by decide +kernel
theorem d_A_fillI_1 : decode b_A_fillI 1 = .ok (.istore_n 2, 1) := by decide +kernel
theorem d_A_fillI_2 : decode b_A_fillI 2 = .ok (.aload_n 0, 1) := by decide +kernel
theorem d_A_fillI_3 : decode b_A_fillI 3 = .ok (.arraylength, 1) := by decide +kernel
theorem d_A_fillI_4 : decode b_A_fillI 4 = .ok (.istore_n 3, 1) := by decide +kernel
theorem d_A_fillI_5 : decode b_A_fillI 5 = .ok (.iload_n 2, 1) := by decide +kernel
theorem d_A_fillI_6 : decode b_A_fillI 6 = .ok (.iload_n 3, 1) := by decide +kernel
theorem d_A_fillI_7 : decode b_A_fillI 7 = .ok (.if_icmp .ge 13, 3) := by decide +kernel
theorem d_A_fillI_10 : decode b_A_fillI 10 = .ok (.aload_n 0, 1) := by decide +kernel
theorem d_A_fillI_11 : decode b_A_fillI 11 = .ok (.iload_n 2, 1) := by decide +kernel
theorem d_A_fillI_12 : decode b_A_fillI 12 = .ok (.iload_n 1, 1) := by decide +kernel
theorem d_A_fillI_13 : decode b_A_fillI 13 = .ok (.iastore, 1) := by decide +kernel
theorem d_A_fillI_14 : decode b_A_fillI 14 = .ok (.iinc 2 1, 3) := by decide +kernel
theorem d_A_fillI_17 : decode b_A_fillI 17 = .ok (.goto (-12), 3) := by decide +kernel
theorem d_A_fillI_20 : decode b_A_fillI 20 = .ok (.return_, 1) := by decide +kernel
theorem d_A_fillJ_0 : decode b_A_fillJ 0 = .ok (.iconst 0, 1) := by decide +kernel
theorem d_A_fillJ_1 : decode b_A_fillJ 1 = .ok (.istore_n 3, 1) := by decide +kernel
theorem d_A_fillJ_2 : decode b_A_fillJ 2 = .ok (.aload_n 0, 1) := by decide +kernel
theorem d_A_fillJ_3 : decode b_A_fillJ 3 = .ok (.arraylength, 1) := by decide +kernel
theorem d_A_fillJ_4 : decode b_A_fillJ 4 = .ok (.istore 4, 2) := by decide +kernel
theorem d_A_fillJ_6 : decode b_A_fillJ 6 = .ok (.iload_n 3, 1) := by decide +kernel
theorem d_A_fillJ_7 : decode b_A_fillJ 7 = .ok (.iload 4, 2) := by decide +kernel
theorem d_A_fillJ_9 : decode b_A_fillJ 9 = .ok (.if_icmp .ge 13, 3) := by decide +kernel
theorem d_A_fillJ_12 : decode b_A_fillJ 12 = .ok (.aload_n 0, 1) := by decide +kernel
theorem d_A_fillJ_13 : decode b_A_fillJ 13 = .ok (.iload_n 3, 1) := by decide +kernel
theorem d_A_fillJ_14 : decode b_A_fillJ 14 = .ok (.lload_n 1, 1) := by decide +kernel
theorem d_A_fillJ_15 : decode b_A_fillJ 15 = .ok (.lastore, 1) := by decide +kernel
theorem d_A_fillJ_16 : decode b_A_fillJ 16 = .ok (.iinc 3 1, 3) := by decide +kernel
theorem d_A_fillJ_19 : decode b_A_fillJ 19 = .ok (.goto (-13), 3) := by decide +kernel
theorem d_A_fillJ_22 : decode b_A_fillJ 22 = .ok (.return_, 1) := by decide +kernel
end
section
-- the judgement Wv (a world, a pc, known locals, a stack) and a row an instruction
abbrev gG : Type := va_G × (Nat → ClassId)
abbrev gT (G : gG) : List (ClassId × FieldType) := [(G.2 0, .int), (G.2 1, .long), (G.2 2, .boolean), (G.2 3, .array .long), (G.2 4, .array .boolean)]
/-- what nobody writes: the table of the class, two fields of Throwable, the texts, words that calls don't hand on -/
def StA (A : Nat → Prop) (U : State) (H : Heap) : Prop :=
  (∃ t : Nat, va_Z "DiagramBench" "TRUE_PLACES" "[J" (.ref t) A U H ∧ va_T .long t 6 tpV A U H) ∧ vx_Zq Bundle.tN "UNASSIGNED_STACK" Bundle.steD A U H ∧ vx_Zq Bundle.tN "SUPPRESSED_SENTINEL" Bundle.listD A U H ∧
  (∀ q ∈ strs, ∃ a : Nat, vk_R q.1 q.2.1 q.2.2 a U) ∧ (∀ w ∈ nws, va_Nw w U) ∧ va_AOA .long U ∧ va_AOA .boolean U ∧ va_Nc "java/util/NoSuchElementException" "java/lang/IllegalArgumentException" U
theorem StA.narrow {A B : Nat → Prop} {U : State} {H : Heap} (h : StA A U H) (hAB : ∀ q, B q → A q) : StA B U H := by
  obtain ⟨⟨t, h1, h2⟩, h3, h4, h5⟩ := h
  exact ⟨⟨t, h1.narrow hAB, h2.narrow hAB⟩, h3.narrow hAB, h4.narrow hAB, h5⟩
theorem StA.kept {A : Nat → Prop} {U : State} {H H1 : Heap} (h : StA A U H) (hq : ∀ a : Nat, a < H.size → ¬ A a → H1[a]? = H[a]?) : StA A U H1 := by
  obtain ⟨⟨t, h1, h2⟩, h3, h4, h5⟩ := h
  exact ⟨⟨t, h1.kept hq, h2.kept hq⟩, h3.kept hq, h4.kept hq, h5⟩
theorem StA.warm {A : Nat → Prop} {s U : State} {H : Heap} (hW : s.WarmedH U.vm) (h : StA A s H) : StA A U H := by
  obtain ⟨⟨t, h1, h2⟩, h3, h4, h5, h6, h7, h8, h9⟩ := h
  refine ⟨⟨t, va_Z.moved hW.alike h1, va_T.moved hW.alike h2⟩, vx_Zq.moved hW.alike h3, vx_Zq.moved hW.alike h4, fun q hq => ?_, nws_warm hW h6, va_AOA.moved hW.alike h7, va_AOA.moved hW.alike h8, va_Nc.moved hW.alike h9⟩
  obtain ⟨a, ha⟩ := h5 q hq
  exact ⟨a, vk_R.warm hW ha⟩
theorem StA.same {A : Nat → Prop} {u U : State} {H : Heap} (hv : U.vm = u.vm) (h : StA A u H) : StA A U H := by
  obtain ⟨⟨t, h1, h2⟩, h3, h4, h5, h6, h7, h8, h9⟩ := h
  have hA : u.vm.Alike U.vm := by rw [hv]; exact Vm.Alike.refl u.vm
  refine ⟨⟨t, va_Z.moved hA h1, va_T.moved hA h2⟩, vx_Zq.moved hA h3, vx_Zq.moved hA h4, fun q hq => ?_, nws_same hv.symm h6, va_AOA.moved hA h7, va_AOA.moved hA h8, va_Nc.moved hA h9⟩
  obtain ⟨a, ha⟩ := h5 q hq
  exact ⟨a, vk_R.same hv ha⟩
/-- the start of every method -/
def Pu (G : gG) (A : Nat → Prop) (ws : va_W) (sz : Nat) (U : State) : Prop :=
  U.heap.size = sz ∧ va_P G.1 cls ws U.heap ∧ va_K G.1 cls (gT G) U ∧ va_D A ws ∧ StA A U U.heap
theorem Pu.blind {G : gG} {A : Nat → Prop} {ws : va_W} {sz : Nat} {As : List Value} : FrameBlind (va_Pc As (Pu G A ws sz)) :=
  fun a U g mk q => ⟨q.1, q.2.1, q.2.2.1, va_K.moved (u := U) (U := U.calling g mk a) (Vm.Alike.refl U.vm) q.2.2.2.1, q.2.2.2.2.1, StA.same (u := U) (U := U.calling g mk a) rfl q.2.2.2.2.2⟩
/-- the end of a method that returns v and leaves the world ws -/
def QC (G : gG) (A : Nat → Prop) (v : Option Value) (ws : va_W) : Array Value → State → Outcome → State → Prop := fun _ st o t =>
  o = .returned v ∧ va_P G.1 cls ws t.heap ∧ va_F A st t
/-- the end of a method that throws an E and leaves the world ws -/
def XE (G : gG) (A : Nat → Prop) (E : String) (ws : va_W) : String → State → State → Prop := fun E' st t =>
  E' = E ∧ va_P G.1 cls ws t.heap ∧ va_F A st t
def QN : Array Value → State → Outcome → State → Prop := fun _ _ _ _ => False
/-- a contract: with these arguments, in this world, the method returns v and leaves the world ws' -/
def Ct (l : Launch) (y : MethodName) (w : List Cond) (rm : Room) (G : gG) (As : List Value) (ws : va_W) (v : Option Value) (ws' : va_W) : Prop :=
  ∀ sz : Nat, Met l y w rm (va_Pc As (Pu G (va_A ws sz) ws sz)) (QC G (va_A ws sz) v ws') 0 0 (va_A ws sz)
/-- .. and the method throws an E and leaves the world as it was -/
def Tt (l : Launch) (y : MethodName) (w : List Cond) (rm : Room) (G : gG) (As : List Value) (ws : va_W) (E : String) : Prop :=
  ∀ sz : Nat, vx_Met l y w rm (va_Pc As (Pu G (va_A ws sz) ws sz)) QN (XE G (va_A ws sz) E ws) 1 6 (va_A ws sz)
/-- what holds all along a method's body -/
def Fx (p : Program) (m : MethodId) (c : Code) (s : State) (args : Array Value) (meth : Method) (own : String) (cc : ByteArray) (nL : Nat) (Ts : List Cond) (G : gG) (A : Nat → Prop) : Prop :=
  CallFix p m c cc nL s args Ts own ∧ va_K G.1 cls (gT G) s ∧ StA A s s.heap ∧ (∀ q : Nat, s.heap.size ≤ q → A q) ∧ meth.locks = false
def Wv (p : Program) (l : Launch) (e : Env) (R : Room) (s : State) (m : MethodId) (args : Array Value) (below : List Frame) (meth : Method) (c : Code) (G : gG) (A : Nat → Prop) (nL cells slots : Nat) (Q : State → Prop) (ws : va_W) (pc : Nat) (lv : List (Nat × Value)) (st : List Value) : Prop :=
  ∀ (H : Heap) (locs : List Loc) (ls : Array Slot), va_P G.1 cls ws H → va_D A ws → va_S A s.heap H locs → lv_has ls nL lv → W p l e R s m args below meth c H locs cells slots Q (F0 m pc ls st)
theorem va_fst {ws ws' : va_W} (e : ws'.map Prod.fst = ws.map Prod.fst) {i : Nat} {q : Nat × va_E} (hq : ws'[i]? = some q) : ∃ q0, ws[i]? = some q0 ∧ q0.1 = q.1 := by
  have h1 : (ws'.map Prod.fst)[i]? = some q.1 := by rw [List.getElem?_map, hq]; rfl
  rw [e, List.getElem?_map] at h1
  cases h : ws[i]? with
  | none => rw [h] at h1; cases h1
  | some q0 => rw [h] at h1; exact ⟨q0, rfl, Option.some.inj h1⟩
theorem va_Dsame {A : Nat → Prop} {ws ws' : va_W} (e : ws'.map Prod.fst = ws.map Prod.fst) (h : va_D A ws) : va_D A ws' := by
  refine ⟨fun i j a b ha hb hab => ?_, fun k q hq => ?_⟩
  · obtain ⟨a0, h1, h2⟩ := va_fst e ha
    obtain ⟨b0, h3, h4⟩ := va_fst e hb
    exact h.1 i j a0 b0 h1 h3 (by rw [h2, h4]; exact hab)
  · obtain ⟨q0, h1, h2⟩ := va_fst e hq
    rw [← h2]
    exact h.2 k q0 h1
section RW
variable {p : Program} {l : Launch} {e : Env} {R : Room} {s : State} {m : MethodId} {args : Array Value} {below : List Frame} {meth : Method} {c : Code} {cells slots : Nat} {Q : State → Prop} {G : gG} {A : Nat → Prop} {nL : Nat} {cc : ByteArray} {own : String} {Ts : List Cond} {ws ws' : va_W} {pc : Nat} {lv : List (Nat × Value)} {st : List Value}
theorem Wv.sub {lv' : List (Nat × Value)} (ks : List Nat) (hk : lv_pick lv ks = lv') (k : Wv p l e R s m args below meth c G A nL cells slots Q ws pc lv' st) : Wv p l e R s m args below meth c G A nL cells slots Q ws pc lv st :=
  fun H locs ls hP hD hS hl => k H locs ls hP hD hS (lv_sub hl ks hk)
theorem Wv.top {v v' : Value} (e1 : v = v') (k : Wv p l e R s m args below meth c G A nL cells slots Q ws pc lv (v' :: st)) : Wv p l e R s m args below meth c G A nL cells slots Q ws pc lv (v :: st) := e1 ▸ k
theorem Wv.wld (e1 : ws = ws') (k : Wv p l e R s m args below meth c G A nL cells slots Q ws' pc lv st) : Wv p l e R s m args below meth c G A nL cells slots Q ws pc lv st := e1 ▸ k
theorem Wv.lcl {lv' : List (Nat × Value)} (e1 : lv = lv') (k : Wv p l e R s m args below meth c G A nL cells slots Q ws pc lv' st) : Wv p l e R s m args below meth c G A nL cells slots Q ws pc lv st := e1 ▸ k
theorem r_iconst (h : Fx p m c s args meth own cc nL Ts G A) {n : Int} {v : Int32} (d : decode cc pc = .ok (.iconst n, 1)) (e0 : Int32.ofInt n = v) (k : Wv p l e R s m args below meth c G A nL cells slots Q ws (pc + 1) lv (.int v :: st)) : Wv p l e R s m args below meth c G A nL cells slots Q ws (pc) lv (st) :=
  fun H locs ls hP hD hS hl => lv_iconst h.1.1 h.1.2.1 d e0 (k H locs ls hP hD hS hl)
theorem r_bipush (h : Fx p m c s args meth own cc nL Ts G A) {n : Int} {v : Int32} (d : decode cc pc = .ok (.bipush n, 2)) (e0 : (Int8.ofInt n).toInt32 = v) (k : Wv p l e R s m args below meth c G A nL cells slots Q ws (pc + 2) lv (.int v :: st)) : Wv p l e R s m args below meth c G A nL cells slots Q ws (pc) lv (st) :=
  fun H locs ls hP hD hS hl => lv_bipush h.1.1 h.1.2.1 d e0 (k H locs ls hP hD hS hl)
theorem r_sipush (h : Fx p m c s args meth own cc nL Ts G A) {n : Int} {v : Int32} (d : decode cc pc = .ok (.sipush n, 3)) (e0 : (Int16.ofInt n).toInt32 = v) (k : Wv p l e R s m args below meth c G A nL cells slots Q ws (pc + 3) lv (.int v :: st)) : Wv p l e R s m args below meth c G A nL cells slots Q ws (pc) lv (st) :=
  fun H locs ls hP hD hS hl => lv_sipush h.1.1 h.1.2.1 d e0 (k H locs ls hP hD hS hl)
theorem r_lconst (h : Fx p m c s args meth own cc nL Ts G A) {n : Fin 2} {v : Int64} (d : decode cc pc = .ok (.lconst n, 1)) (e0 : Int64.ofNat (n : Nat) = v) (k : Wv p l e R s m args below meth c G A nL cells slots Q ws (pc + 1) lv (.long v :: st)) : Wv p l e R s m args below meth c G A nL cells slots Q ws (pc) lv (st) :=
  fun H locs ls hP hD hS hl => lv_lconst h.1.1 h.1.2.1 d e0 (k H locs ls hP hD hS hl)
theorem r_ldc (h : Fx p m c s args meth own cc nL Ts G A) {idx : Nat} {v : Int32} (d : decode cc pc = .ok (.ldc idx, 2)) (hw : Cond.constant own idx v ∈ Ts) (k : Wv p l e R s m args below meth c G A nL cells slots Q ws (pc + 2) lv (.int v :: st)) : Wv p l e R s m args below meth c G A nL cells slots Q ws (pc) lv (st) :=
  fun H locs ls hP hD hS hl => lv_ldc h.1.1 h.1.2.1 h.1.2.2.2.1 (h.1.2.2.2.2 _ hw) d (k H locs ls hP hD hS hl)
theorem r_ldc2 (h : Fx p m c s args meth own cc nL Ts G A) {idx : Nat} {v : Int64} (d : decode cc pc = .ok (.ldc2_w idx, 3)) (hw : Cond.constantLong own idx v ∈ Ts) (k : Wv p l e R s m args below meth c G A nL cells slots Q ws (pc + 3) lv (.long v :: st)) : Wv p l e R s m args below meth c G A nL cells slots Q ws (pc) lv (st) :=
  fun H locs ls hP hD hS hl => lv_ldc2 h.1.1 h.1.2.1 h.1.2.2.2.1 (h.1.2.2.2.2 _ hw) d (k H locs ls hP hD hS hl)
theorem r_iload_n (h : Fx p m c s args meth own cc nL Ts G A) {kf : Fin 4} {i : Nat} {x : Int32} (j : Nat) (d : decode cc pc = .ok (.iload_n kf, 1)) (hi : (kf : Nat) = i) (hj : lv[j]? = some (i, .int x)) (k : Wv p l e R s m args below meth c G A nL cells slots Q ws (pc + 1) lv (.int x :: st)) : Wv p l e R s m args below meth c G A nL cells slots Q ws (pc) lv (st) :=
  fun H locs ls hP hD hS hl => lv_iload_n h.1.1 h.1.2.1 d hi (lv_at hl j hj) (k H locs ls hP hD hS hl)
theorem r_iload (h : Fx p m c s args meth own cc nL Ts G A) {i : Nat} {x : Int32} (j : Nat) (d : decode cc pc = .ok (.iload i, 2)) (hj : lv[j]? = some (i, .int x)) (k : Wv p l e R s m args below meth c G A nL cells slots Q ws (pc + 2) lv (.int x :: st)) : Wv p l e R s m args below meth c G A nL cells slots Q ws (pc) lv (st) :=
  fun H locs ls hP hD hS hl => lv_iload h.1.1 h.1.2.1 d (lv_at hl j hj) (k H locs ls hP hD hS hl)
theorem r_lload_n (h : Fx p m c s args meth own cc nL Ts G A) {kf : Fin 4} {i : Nat} {x : Int64} (j : Nat) (d : decode cc pc = .ok (.lload_n kf, 1)) (hi : (kf : Nat) = i) (hj : lv[j]? = some (i, .long x)) (k : Wv p l e R s m args below meth c G A nL cells slots Q ws (pc + 1) lv (.long x :: st)) : Wv p l e R s m args below meth c G A nL cells slots Q ws (pc) lv (st) :=
  fun H locs ls hP hD hS hl => lv_lload_n h.1.1 h.1.2.1 d hi (lv_at hl j hj) (k H locs ls hP hD hS hl)
theorem r_lload (h : Fx p m c s args meth own cc nL Ts G A) {i : Nat} {x : Int64} (j : Nat) (d : decode cc pc = .ok (.lload i, 2)) (hj : lv[j]? = some (i, .long x)) (k : Wv p l e R s m args below meth c G A nL cells slots Q ws (pc + 2) lv (.long x :: st)) : Wv p l e R s m args below meth c G A nL cells slots Q ws (pc) lv (st) :=
  fun H locs ls hP hD hS hl => lv_lload h.1.1 h.1.2.1 d (lv_at hl j hj) (k H locs ls hP hD hS hl)
theorem r_aload_n (h : Fx p m c s args meth own cc nL Ts G A) {kf : Fin 4} {i : Nat} {x : Nat} (j : Nat) (d : decode cc pc = .ok (.aload_n kf, 1)) (hi : (kf : Nat) = i) (hj : lv[j]? = some (i, .ref x)) (k : Wv p l e R s m args below meth c G A nL cells slots Q ws (pc + 1) lv (.ref x :: st)) : Wv p l e R s m args below meth c G A nL cells slots Q ws (pc) lv (st) :=
  fun H locs ls hP hD hS hl => lv_aload_n h.1.1 h.1.2.1 d hi (lv_at hl j hj) (k H locs ls hP hD hS hl)
theorem r_aload (h : Fx p m c s args meth own cc nL Ts G A) {i : Nat} {x : Nat} (j : Nat) (d : decode cc pc = .ok (.aload i, 2)) (hj : lv[j]? = some (i, .ref x)) (k : Wv p l e R s m args below meth c G A nL cells slots Q ws (pc + 2) lv (.ref x :: st)) : Wv p l e R s m args below meth c G A nL cells slots Q ws (pc) lv (st) :=
  fun H locs ls hP hD hS hl => lv_aload h.1.1 h.1.2.1 d (lv_at hl j hj) (k H locs ls hP hD hS hl)
theorem r_istore_n (h : Fx p m c s args meth own cc nL Ts G A) {kf : Fin 4} {i : Nat} {x : Int32} {lv' : List (Nat × Value)} (d : decode cc pc = .ok (.istore_n kf, 1)) (hi : (kf : Nat) = i) (hn : i < nL) (hf : (i, Value.int x) :: lv.filter (fun q => !(q.1 == i) && !(q.1 + 1 == i && q.2.category == 2)) = lv') (k : Wv p l e R s m args below meth c G A nL cells slots Q ws (pc + 1) lv' (st)) : Wv p l e R s m args below meth c G A nL cells slots Q ws (pc) lv (.int x :: st) :=
  fun H locs ls hP hD hS hl => lv_istore_n h.1.1 h.1.2.1 d hi hl hn hf (fun ls' hl' => k H locs ls' hP hD hS hl')
theorem r_istore (h : Fx p m c s args meth own cc nL Ts G A) {i : Nat} {x : Int32} {lv' : List (Nat × Value)} (d : decode cc pc = .ok (.istore i, 2)) (hn : i < nL) (hf : (i, Value.int x) :: lv.filter (fun q => !(q.1 == i) && !(q.1 + 1 == i && q.2.category == 2)) = lv') (k : Wv p l e R s m args below meth c G A nL cells slots Q ws (pc + 2) lv' (st)) : Wv p l e R s m args below meth c G A nL cells slots Q ws (pc) lv (.int x :: st) :=
  fun H locs ls hP hD hS hl => lv_istore h.1.1 h.1.2.1 d hl hn hf (fun ls' hl' => k H locs ls' hP hD hS hl')
theorem r_lstore_n (h : Fx p m c s args meth own cc nL Ts G A) {kf : Fin 4} {i : Nat} {x : Int64} {lv' : List (Nat × Value)} (d : decode cc pc = .ok (.lstore_n kf, 1)) (hi : (kf : Nat) = i) (hn : i + 1 < nL) (hf : (i, Value.long x) :: lv.filter (fun q => !(q.1 == i) && (!(q.1 == i + 1) && !(q.1 + 1 == i && q.2.category == 2))) = lv') (k : Wv p l e R s m args below meth c G A nL cells slots Q ws (pc + 1) lv' (st)) : Wv p l e R s m args below meth c G A nL cells slots Q ws (pc) lv (.long x :: st) :=
  fun H locs ls hP hD hS hl => lv_lstore_n h.1.1 h.1.2.1 d hi hl hn hf (fun ls' hl' => k H locs ls' hP hD hS hl')
theorem r_lstore (h : Fx p m c s args meth own cc nL Ts G A) {i : Nat} {x : Int64} {lv' : List (Nat × Value)} (d : decode cc pc = .ok (.lstore i, 2)) (hn : i + 1 < nL) (hf : (i, Value.long x) :: lv.filter (fun q => !(q.1 == i) && (!(q.1 == i + 1) && !(q.1 + 1 == i && q.2.category == 2))) = lv') (k : Wv p l e R s m args below meth c G A nL cells slots Q ws (pc + 2) lv' (st)) : Wv p l e R s m args below meth c G A nL cells slots Q ws (pc) lv (.long x :: st) :=
  fun H locs ls hP hD hS hl => lv_lstore h.1.1 h.1.2.1 d hl hn hf (fun ls' hl' => k H locs ls' hP hD hS hl')
theorem r_astore_n (h : Fx p m c s args meth own cc nL Ts G A) {kf : Fin 4} {i : Nat} {x : Nat} {lv' : List (Nat × Value)} (d : decode cc pc = .ok (.astore_n kf, 1)) (hi : (kf : Nat) = i) (hn : i < nL) (hf : (i, Value.ref x) :: lv.filter (fun q => !(q.1 == i) && !(q.1 + 1 == i && q.2.category == 2)) = lv') (k : Wv p l e R s m args below meth c G A nL cells slots Q ws (pc + 1) lv' (st)) : Wv p l e R s m args below meth c G A nL cells slots Q ws (pc) lv (.ref x :: st) :=
  fun H locs ls hP hD hS hl => lv_astore_n h.1.1 h.1.2.1 d hi hl hn hf (fun ls' hl' => k H locs ls' hP hD hS hl')
theorem r_astore (h : Fx p m c s args meth own cc nL Ts G A) {i : Nat} {x : Nat} {lv' : List (Nat × Value)} (d : decode cc pc = .ok (.astore i, 2)) (hn : i < nL) (hf : (i, Value.ref x) :: lv.filter (fun q => !(q.1 == i) && !(q.1 + 1 == i && q.2.category == 2)) = lv') (k : Wv p l e R s m args below meth c G A nL cells slots Q ws (pc + 2) lv' (st)) : Wv p l e R s m args below meth c G A nL cells slots Q ws (pc) lv (.ref x :: st) :=
  fun H locs ls hP hD hS hl => lv_astore h.1.1 h.1.2.1 d hl hn hf (fun ls' hl' => k H locs ls' hP hD hS hl')
theorem r_iinc (h : Fx p m c s args meth own cc nL Ts G A) {i : Nat} {n : Int} {x v : Int32} {lv' : List (Nat × Value)} (j : Nat) (d : decode cc pc = .ok (.iinc i n, 3)) (hj : lv[j]? = some (i, .int x)) (e0 : x + Int32.ofInt n = v) (hn : i < nL) (hf : (i, Value.int v) :: lv.filter (fun q => !(q.1 == i) && !(q.1 + 1 == i && q.2.category == 2)) = lv') (k : Wv p l e R s m args below meth c G A nL cells slots Q ws (pc + 3) lv' (st)) : Wv p l e R s m args below meth c G A nL cells slots Q ws (pc) lv (st) :=
  fun H locs ls hP hD hS hl => lv_iinc (k := j) h.1.1 h.1.2.1 d hl hj e0 hn hf (fun ls' hl' => k H locs ls' hP hD hS hl')
theorem r_iadd (h : Fx p m c s args meth own cc nL Ts G A) {x z : Int32} {y : Int32} (d : decode cc pc = .ok (.iadd, 1)) (e0 : x + y = z) (k : Wv p l e R s m args below meth c G A nL cells slots Q ws (pc + 1) lv (.int z :: st)) : Wv p l e R s m args below meth c G A nL cells slots Q ws (pc) lv (.int y :: .int x :: st) :=
  fun H locs ls hP hD hS hl => lv_iadd h.1.1 h.1.2.1 d (by rw [e0]; exact k H locs ls hP hD hS hl)
theorem r_isub (h : Fx p m c s args meth own cc nL Ts G A) {x z : Int32} {y : Int32} (d : decode cc pc = .ok (.isub, 1)) (e0 : x - y = z) (k : Wv p l e R s m args below meth c G A nL cells slots Q ws (pc + 1) lv (.int z :: st)) : Wv p l e R s m args below meth c G A nL cells slots Q ws (pc) lv (.int y :: .int x :: st) :=
  fun H locs ls hP hD hS hl => lv_isub h.1.1 h.1.2.1 d (by rw [e0]; exact k H locs ls hP hD hS hl)
theorem r_imul (h : Fx p m c s args meth own cc nL Ts G A) {x z : Int32} {y : Int32} (d : decode cc pc = .ok (.imul, 1)) (e0 : x * y = z) (k : Wv p l e R s m args below meth c G A nL cells slots Q ws (pc + 1) lv (.int z :: st)) : Wv p l e R s m args below meth c G A nL cells slots Q ws (pc) lv (.int y :: .int x :: st) :=
  fun H locs ls hP hD hS hl => lv_imul h.1.1 h.1.2.1 d (by rw [e0]; exact k H locs ls hP hD hS hl)
theorem r_iand (h : Fx p m c s args meth own cc nL Ts G A) {x z : Int32} {y : Int32} (d : decode cc pc = .ok (.iand, 1)) (e0 : x &&& y = z) (k : Wv p l e R s m args below meth c G A nL cells slots Q ws (pc + 1) lv (.int z :: st)) : Wv p l e R s m args below meth c G A nL cells slots Q ws (pc) lv (.int y :: .int x :: st) :=
  fun H locs ls hP hD hS hl => lv_iand h.1.1 h.1.2.1 d (by rw [e0]; exact k H locs ls hP hD hS hl)
theorem r_ior (h : Fx p m c s args meth own cc nL Ts G A) {x z : Int32} {y : Int32} (d : decode cc pc = .ok (.ior, 1)) (e0 : x ||| y = z) (k : Wv p l e R s m args below meth c G A nL cells slots Q ws (pc + 1) lv (.int z :: st)) : Wv p l e R s m args below meth c G A nL cells slots Q ws (pc) lv (.int y :: .int x :: st) :=
  fun H locs ls hP hD hS hl => lv_ior h.1.1 h.1.2.1 d (by rw [e0]; exact k H locs ls hP hD hS hl)
theorem r_ixor (h : Fx p m c s args meth own cc nL Ts G A) {x z : Int32} {y : Int32} (d : decode cc pc = .ok (.ixor, 1)) (e0 : x ^^^ y = z) (k : Wv p l e R s m args below meth c G A nL cells slots Q ws (pc + 1) lv (.int z :: st)) : Wv p l e R s m args below meth c G A nL cells slots Q ws (pc) lv (.int y :: .int x :: st) :=
  fun H locs ls hP hD hS hl => lv_ixor h.1.1 h.1.2.1 d (by rw [e0]; exact k H locs ls hP hD hS hl)
theorem r_ladd (h : Fx p m c s args meth own cc nL Ts G A) {x z : Int64} {y : Int64} (d : decode cc pc = .ok (.ladd, 1)) (e0 : x + y = z) (k : Wv p l e R s m args below meth c G A nL cells slots Q ws (pc + 1) lv (.long z :: st)) : Wv p l e R s m args below meth c G A nL cells slots Q ws (pc) lv (.long y :: .long x :: st) :=
  fun H locs ls hP hD hS hl => lv_ladd h.1.1 h.1.2.1 d (by rw [e0]; exact k H locs ls hP hD hS hl)
theorem r_land (h : Fx p m c s args meth own cc nL Ts G A) {x z : Int64} {y : Int64} (d : decode cc pc = .ok (.land, 1)) (e0 : x &&& y = z) (k : Wv p l e R s m args below meth c G A nL cells slots Q ws (pc + 1) lv (.long z :: st)) : Wv p l e R s m args below meth c G A nL cells slots Q ws (pc) lv (.long y :: .long x :: st) :=
  fun H locs ls hP hD hS hl => lv_land h.1.1 h.1.2.1 d (by rw [e0]; exact k H locs ls hP hD hS hl)
theorem r_lor (h : Fx p m c s args meth own cc nL Ts G A) {x z : Int64} {y : Int64} (d : decode cc pc = .ok (.lor, 1)) (e0 : x ||| y = z) (k : Wv p l e R s m args below meth c G A nL cells slots Q ws (pc + 1) lv (.long z :: st)) : Wv p l e R s m args below meth c G A nL cells slots Q ws (pc) lv (.long y :: .long x :: st) :=
  fun H locs ls hP hD hS hl => lv_lor h.1.1 h.1.2.1 d (by rw [e0]; exact k H locs ls hP hD hS hl)
theorem r_lxor (h : Fx p m c s args meth own cc nL Ts G A) {x z : Int64} {y : Int64} (d : decode cc pc = .ok (.lxor, 1)) (e0 : x ^^^ y = z) (k : Wv p l e R s m args below meth c G A nL cells slots Q ws (pc + 1) lv (.long z :: st)) : Wv p l e R s m args below meth c G A nL cells slots Q ws (pc) lv (.long y :: .long x :: st) :=
  fun H locs ls hP hD hS hl => lv_lxor h.1.1 h.1.2.1 d (by rw [e0]; exact k H locs ls hP hD hS hl)
theorem r_lsub (h : Fx p m c s args meth own cc nL Ts G A) {x z : Int64} {y : Int64} (d : decode cc pc = .ok (.lsub, 1)) (e0 : x - y = z) (k : Wv p l e R s m args below meth c G A nL cells slots Q ws (pc + 1) lv (.long z :: st)) : Wv p l e R s m args below meth c G A nL cells slots Q ws (pc) lv (.long y :: .long x :: st) :=
  fun H locs ls hP hD hS hl => lv_lsub h.1.1 h.1.2.1 d (by rw [e0]; exact k H locs ls hP hD hS hl)
theorem r_ishl (h : Fx p m c s args meth own cc nL Ts G A) {x z : Int32} {y : Int32} (d : decode cc pc = .ok (.ishl, 1)) (e0 : x <<< (y &&& 31) = z) (k : Wv p l e R s m args below meth c G A nL cells slots Q ws (pc + 1) lv (.int z :: st)) : Wv p l e R s m args below meth c G A nL cells slots Q ws (pc) lv (.int y :: .int x :: st) :=
  fun H locs ls hP hD hS hl => lv_ishl h.1.1 h.1.2.1 d (by rw [e0]; exact k H locs ls hP hD hS hl)
theorem r_ishr (h : Fx p m c s args meth own cc nL Ts G A) {x z : Int32} {y : Int32} (d : decode cc pc = .ok (.ishr, 1)) (e0 : x >>> (y &&& 31) = z) (k : Wv p l e R s m args below meth c G A nL cells slots Q ws (pc + 1) lv (.int z :: st)) : Wv p l e R s m args below meth c G A nL cells slots Q ws (pc) lv (.int y :: .int x :: st) :=
  fun H locs ls hP hD hS hl => lv_ishr h.1.1 h.1.2.1 d (by rw [e0]; exact k H locs ls hP hD hS hl)
theorem r_iushr (h : Fx p m c s args meth own cc nL Ts G A) {x z : Int32} {y : Int32} (d : decode cc pc = .ok (.iushr, 1)) (e0 : (x.toUInt32 >>> (y.toUInt32 &&& Int32.toUInt32 31)).toInt32 = z) (k : Wv p l e R s m args below meth c G A nL cells slots Q ws (pc + 1) lv (.int z :: st)) : Wv p l e R s m args below meth c G A nL cells slots Q ws (pc) lv (.int y :: .int x :: st) :=
  fun H locs ls hP hD hS hl => lv_iushr h.1.1 h.1.2.1 d e0 (k H locs ls hP hD hS hl)
theorem r_lushr (h : Fx p m c s args meth own cc nL Ts G A) {x z : Int64} {y : Int32} (d : decode cc pc = .ok (.lushr, 1)) (e0 : (x.toUInt64 >>> (y.toInt64.toUInt64 &&& Int64.toUInt64 63)).toInt64 = z) (k : Wv p l e R s m args below meth c G A nL cells slots Q ws (pc + 1) lv (.long z :: st)) : Wv p l e R s m args below meth c G A nL cells slots Q ws (pc) lv (.int y :: .long x :: st) :=
  fun H locs ls hP hD hS hl => lv_lushr h.1.1 h.1.2.1 d e0 (k H locs ls hP hD hS hl)
theorem r_lshl (h : Fx p m c s args meth own cc nL Ts G A) {x z : Int64} {y : Int32} (d : decode cc pc = .ok (.lshl, 1)) (e0 : x <<< (y.toInt64 &&& 63) = z) (k : Wv p l e R s m args below meth c G A nL cells slots Q ws (pc + 1) lv (.long z :: st)) : Wv p l e R s m args below meth c G A nL cells slots Q ws (pc) lv (.int y :: .long x :: st) :=
  fun H locs ls hP hD hS hl => lv_lshl h.1.1 h.1.2.1 d e0 (k H locs ls hP hD hS hl)
theorem r_lcmp (h : Fx p m c s args meth own cc nL Ts G A) {x y : Int64} {z : Int32} (d : decode cc pc = .ok (.lcmp, 1)) (e0 : lg_cmp x y = z) (k : Wv p l e R s m args below meth c G A nL cells slots Q ws (pc + 1) lv (.int z :: st)) : Wv p l e R s m args below meth c G A nL cells slots Q ws (pc) lv (.long y :: .long x :: st) :=
  fun H locs ls hP hD hS hl => W.lcmp h.1.1 h.1.2.1 d (by rw [e0]; exact k H locs ls hP hD hS hl)
theorem r_i2l (h : Fx p m c s args meth own cc nL Ts G A) {x : Int32} {z : Int64} (d : decode cc pc = .ok (.i2l, 1)) (e0 : x.toInt64 = z) (k : Wv p l e R s m args below meth c G A nL cells slots Q ws (pc + 1) lv (.long z :: st)) : Wv p l e R s m args below meth c G A nL cells slots Q ws (pc) lv (.int x :: st) :=
  fun H locs ls hP hD hS hl => lv_i2l h.1.1 h.1.2.1 d e0 (k H locs ls hP hD hS hl)
theorem r_l2i (h : Fx p m c s args meth own cc nL Ts G A) {x : Int64} {z : Int32} (d : decode cc pc = .ok (.l2i, 1)) (e0 : x.toInt32 = z) (k : Wv p l e R s m args below meth c G A nL cells slots Q ws (pc + 1) lv (.int z :: st)) : Wv p l e R s m args below meth c G A nL cells slots Q ws (pc) lv (.long x :: st) :=
  fun H locs ls hP hD hS hl => lv_l2i h.1.1 h.1.2.1 d e0 (k H locs ls hP hD hS hl)
theorem r_dup (h : Fx p m c s args meth own cc nL Ts G A) {v : Value} (d : decode cc pc = .ok (.dup, 1)) (hv : v.category = 1) (k : Wv p l e R s m args below meth c G A nL cells slots Q ws (pc + 1) lv (v :: v :: st)) : Wv p l e R s m args below meth c G A nL cells slots Q ws (pc) lv (v :: st) :=
  fun H locs ls hP hD hS hl => lv_dup h.1.1 h.1.2.1 d hv (k H locs ls hP hD hS hl)
theorem r_pop (h : Fx p m c s args meth own cc nL Ts G A) {v : Value} (d : decode cc pc = .ok (.pop, 1)) (hv : v.category = 1) (k : Wv p l e R s m args below meth c G A nL cells slots Q ws (pc + 1) lv (st)) : Wv p l e R s m args below meth c G A nL cells slots Q ws (pc) lv (v :: st) :=
  fun H locs ls hP hD hS hl => lv_pop h.1.1 h.1.2.1 d hv (k H locs ls hP hD hS hl)
theorem r_dup_x1 (h : Fx p m c s args meth own cc nL Ts G A) {v w : Value} (d : decode cc pc = .ok (.dup_x1, 1)) (hv : v.category = 1) (hw : w.category = 1) (k : Wv p l e R s m args below meth c G A nL cells slots Q ws (pc + 1) lv (v :: w :: v :: st)) : Wv p l e R s m args below meth c G A nL cells slots Q ws (pc) lv (v :: w :: st) :=
  fun H locs ls hP hD hS hl => lv_dup_x1 h.1.1 h.1.2.1 d hv hw (k H locs ls hP hD hS hl)
theorem r_if_eq (h : Fx p m c s args meth own cc nL Ts G A) {x : Int32} {off : Int} {tgt : Nat} (d : decode cc pc = .ok (.ifCond .eq off, 3)) (ht : (pc : Int) + off = (tgt : Int)) (kt : x = 0 → Wv p l e R s m args below meth c G A nL cells slots Q ws (tgt) lv (st)) (kf : ¬ x = 0 → Wv p l e R s m args below meth c G A nL cells slots Q ws (pc + 3) lv (st)) : Wv p l e R s m args below meth c G A nL cells slots Q ws (pc) lv (.int x :: st) :=
  fun H locs ls hP hD hS hl => lv_if_eq h.1.1 h.1.2.1 d ht (fun q => kt q H locs ls hP hD hS hl) (fun q => kf q H locs ls hP hD hS hl)
theorem r_if_eq_t (h : Fx p m c s args meth own cc nL Ts G A) {x : Int32} {off : Int} {tgt : Nat} (d : decode cc pc = .ok (.ifCond .eq off, 3)) (ht : (pc : Int) + off = (tgt : Int)) (hc : x = 0) (k : Wv p l e R s m args below meth c G A nL cells slots Q ws (tgt) lv (st)) : Wv p l e R s m args below meth c G A nL cells slots Q ws (pc) lv (.int x :: st) :=
  r_if_eq h d ht (fun _ => k) (fun q => absurd hc q)
theorem r_if_eq_f (h : Fx p m c s args meth own cc nL Ts G A) {x : Int32} {off : Int} {tgt : Nat} (d : decode cc pc = .ok (.ifCond .eq off, 3)) (ht : (pc : Int) + off = (tgt : Int)) (hc : ¬ x = 0) (k : Wv p l e R s m args below meth c G A nL cells slots Q ws (pc + 3) lv (st)) : Wv p l e R s m args below meth c G A nL cells slots Q ws (pc) lv (.int x :: st) :=
  r_if_eq h d ht (fun q => absurd q hc) (fun _ => k)
theorem r_if_ne (h : Fx p m c s args meth own cc nL Ts G A) {x : Int32} {off : Int} {tgt : Nat} (d : decode cc pc = .ok (.ifCond .ne off, 3)) (ht : (pc : Int) + off = (tgt : Int)) (kt : ¬ x = 0 → Wv p l e R s m args below meth c G A nL cells slots Q ws (tgt) lv (st)) (kf : x = 0 → Wv p l e R s m args below meth c G A nL cells slots Q ws (pc + 3) lv (st)) : Wv p l e R s m args below meth c G A nL cells slots Q ws (pc) lv (.int x :: st) :=
  fun H locs ls hP hD hS hl => lv_if_ne h.1.1 h.1.2.1 d ht (fun q => kt q H locs ls hP hD hS hl) (fun q => kf q H locs ls hP hD hS hl)
theorem r_if_ne_t (h : Fx p m c s args meth own cc nL Ts G A) {x : Int32} {off : Int} {tgt : Nat} (d : decode cc pc = .ok (.ifCond .ne off, 3)) (ht : (pc : Int) + off = (tgt : Int)) (hc : ¬ x = 0) (k : Wv p l e R s m args below meth c G A nL cells slots Q ws (tgt) lv (st)) : Wv p l e R s m args below meth c G A nL cells slots Q ws (pc) lv (.int x :: st) :=
  r_if_ne h d ht (fun _ => k) (fun q => absurd q hc)
theorem r_if_ne_f (h : Fx p m c s args meth own cc nL Ts G A) {x : Int32} {off : Int} {tgt : Nat} (d : decode cc pc = .ok (.ifCond .ne off, 3)) (ht : (pc : Int) + off = (tgt : Int)) (hc : x = 0) (k : Wv p l e R s m args below meth c G A nL cells slots Q ws (pc + 3) lv (st)) : Wv p l e R s m args below meth c G A nL cells slots Q ws (pc) lv (.int x :: st) :=
  r_if_ne h d ht (fun q => absurd hc q) (fun _ => k)
theorem r_if_lt (h : Fx p m c s args meth own cc nL Ts G A) {x : Int32} {off : Int} {tgt : Nat} (d : decode cc pc = .ok (.ifCond .lt off, 3)) (ht : (pc : Int) + off = (tgt : Int)) (kt : x < 0 → Wv p l e R s m args below meth c G A nL cells slots Q ws (tgt) lv (st)) (kf : ¬ x < 0 → Wv p l e R s m args below meth c G A nL cells slots Q ws (pc + 3) lv (st)) : Wv p l e R s m args below meth c G A nL cells slots Q ws (pc) lv (.int x :: st) :=
  fun H locs ls hP hD hS hl => lv_if_lt h.1.1 h.1.2.1 d ht (fun q => kt q H locs ls hP hD hS hl) (fun q => kf q H locs ls hP hD hS hl)
theorem r_if_lt_t (h : Fx p m c s args meth own cc nL Ts G A) {x : Int32} {off : Int} {tgt : Nat} (d : decode cc pc = .ok (.ifCond .lt off, 3)) (ht : (pc : Int) + off = (tgt : Int)) (hc : x < 0) (k : Wv p l e R s m args below meth c G A nL cells slots Q ws (tgt) lv (st)) : Wv p l e R s m args below meth c G A nL cells slots Q ws (pc) lv (.int x :: st) :=
  r_if_lt h d ht (fun _ => k) (fun q => absurd hc q)
theorem r_if_lt_f (h : Fx p m c s args meth own cc nL Ts G A) {x : Int32} {off : Int} {tgt : Nat} (d : decode cc pc = .ok (.ifCond .lt off, 3)) (ht : (pc : Int) + off = (tgt : Int)) (hc : ¬ x < 0) (k : Wv p l e R s m args below meth c G A nL cells slots Q ws (pc + 3) lv (st)) : Wv p l e R s m args below meth c G A nL cells slots Q ws (pc) lv (.int x :: st) :=
  r_if_lt h d ht (fun q => absurd q hc) (fun _ => k)
theorem r_if_ge (h : Fx p m c s args meth own cc nL Ts G A) {x : Int32} {off : Int} {tgt : Nat} (d : decode cc pc = .ok (.ifCond .ge off, 3)) (ht : (pc : Int) + off = (tgt : Int)) (kt : 0 ≤ x → Wv p l e R s m args below meth c G A nL cells slots Q ws (tgt) lv (st)) (kf : ¬ 0 ≤ x → Wv p l e R s m args below meth c G A nL cells slots Q ws (pc + 3) lv (st)) : Wv p l e R s m args below meth c G A nL cells slots Q ws (pc) lv (.int x :: st) :=
  fun H locs ls hP hD hS hl => lv_if_ge h.1.1 h.1.2.1 d ht (fun q => kt q H locs ls hP hD hS hl) (fun q => kf q H locs ls hP hD hS hl)
theorem r_if_ge_t (h : Fx p m c s args meth own cc nL Ts G A) {x : Int32} {off : Int} {tgt : Nat} (d : decode cc pc = .ok (.ifCond .ge off, 3)) (ht : (pc : Int) + off = (tgt : Int)) (hc : 0 ≤ x) (k : Wv p l e R s m args below meth c G A nL cells slots Q ws (tgt) lv (st)) : Wv p l e R s m args below meth c G A nL cells slots Q ws (pc) lv (.int x :: st) :=
  r_if_ge h d ht (fun _ => k) (fun q => absurd hc q)
theorem r_if_ge_f (h : Fx p m c s args meth own cc nL Ts G A) {x : Int32} {off : Int} {tgt : Nat} (d : decode cc pc = .ok (.ifCond .ge off, 3)) (ht : (pc : Int) + off = (tgt : Int)) (hc : ¬ 0 ≤ x) (k : Wv p l e R s m args below meth c G A nL cells slots Q ws (pc + 3) lv (st)) : Wv p l e R s m args below meth c G A nL cells slots Q ws (pc) lv (.int x :: st) :=
  r_if_ge h d ht (fun q => absurd q hc) (fun _ => k)
theorem r_if_gt (h : Fx p m c s args meth own cc nL Ts G A) {x : Int32} {off : Int} {tgt : Nat} (d : decode cc pc = .ok (.ifCond .gt off, 3)) (ht : (pc : Int) + off = (tgt : Int)) (kt : 0 < x → Wv p l e R s m args below meth c G A nL cells slots Q ws (tgt) lv (st)) (kf : ¬ 0 < x → Wv p l e R s m args below meth c G A nL cells slots Q ws (pc + 3) lv (st)) : Wv p l e R s m args below meth c G A nL cells slots Q ws (pc) lv (.int x :: st) :=
  fun H locs ls hP hD hS hl => lv_if_gt h.1.1 h.1.2.1 d ht (fun q => kt q H locs ls hP hD hS hl) (fun q => kf q H locs ls hP hD hS hl)
theorem r_if_gt_t (h : Fx p m c s args meth own cc nL Ts G A) {x : Int32} {off : Int} {tgt : Nat} (d : decode cc pc = .ok (.ifCond .gt off, 3)) (ht : (pc : Int) + off = (tgt : Int)) (hc : 0 < x) (k : Wv p l e R s m args below meth c G A nL cells slots Q ws (tgt) lv (st)) : Wv p l e R s m args below meth c G A nL cells slots Q ws (pc) lv (.int x :: st) :=
  r_if_gt h d ht (fun _ => k) (fun q => absurd hc q)
theorem r_if_gt_f (h : Fx p m c s args meth own cc nL Ts G A) {x : Int32} {off : Int} {tgt : Nat} (d : decode cc pc = .ok (.ifCond .gt off, 3)) (ht : (pc : Int) + off = (tgt : Int)) (hc : ¬ 0 < x) (k : Wv p l e R s m args below meth c G A nL cells slots Q ws (pc + 3) lv (st)) : Wv p l e R s m args below meth c G A nL cells slots Q ws (pc) lv (.int x :: st) :=
  r_if_gt h d ht (fun q => absurd q hc) (fun _ => k)
theorem r_if_le (h : Fx p m c s args meth own cc nL Ts G A) {x : Int32} {off : Int} {tgt : Nat} (d : decode cc pc = .ok (.ifCond .le off, 3)) (ht : (pc : Int) + off = (tgt : Int)) (kt : x ≤ 0 → Wv p l e R s m args below meth c G A nL cells slots Q ws (tgt) lv (st)) (kf : ¬ x ≤ 0 → Wv p l e R s m args below meth c G A nL cells slots Q ws (pc + 3) lv (st)) : Wv p l e R s m args below meth c G A nL cells slots Q ws (pc) lv (.int x :: st) :=
  fun H locs ls hP hD hS hl => lv_if_le h.1.1 h.1.2.1 d ht (fun q => kt q H locs ls hP hD hS hl) (fun q => kf q H locs ls hP hD hS hl)
theorem r_if_le_t (h : Fx p m c s args meth own cc nL Ts G A) {x : Int32} {off : Int} {tgt : Nat} (d : decode cc pc = .ok (.ifCond .le off, 3)) (ht : (pc : Int) + off = (tgt : Int)) (hc : x ≤ 0) (k : Wv p l e R s m args below meth c G A nL cells slots Q ws (tgt) lv (st)) : Wv p l e R s m args below meth c G A nL cells slots Q ws (pc) lv (.int x :: st) :=
  r_if_le h d ht (fun _ => k) (fun q => absurd hc q)
theorem r_if_le_f (h : Fx p m c s args meth own cc nL Ts G A) {x : Int32} {off : Int} {tgt : Nat} (d : decode cc pc = .ok (.ifCond .le off, 3)) (ht : (pc : Int) + off = (tgt : Int)) (hc : ¬ x ≤ 0) (k : Wv p l e R s m args below meth c G A nL cells slots Q ws (pc + 3) lv (st)) : Wv p l e R s m args below meth c G A nL cells slots Q ws (pc) lv (.int x :: st) :=
  r_if_le h d ht (fun q => absurd q hc) (fun _ => k)
theorem r_icmp_eq (h : Fx p m c s args meth own cc nL Ts G A) {x y : Int32} {off : Int} {tgt : Nat} (d : decode cc pc = .ok (.if_icmp .eq off, 3)) (ht : (pc : Int) + off = (tgt : Int)) (kt : x = y → Wv p l e R s m args below meth c G A nL cells slots Q ws (tgt) lv (st)) (kf : ¬ x = y → Wv p l e R s m args below meth c G A nL cells slots Q ws (pc + 3) lv (st)) : Wv p l e R s m args below meth c G A nL cells slots Q ws (pc) lv (.int y :: .int x :: st) :=
  fun H locs ls hP hD hS hl => lv_icmp_eq h.1.1 h.1.2.1 d ht (fun q => kt q H locs ls hP hD hS hl) (fun q => kf q H locs ls hP hD hS hl)
theorem r_icmp_eq_t (h : Fx p m c s args meth own cc nL Ts G A) {x y : Int32} {off : Int} {tgt : Nat} (d : decode cc pc = .ok (.if_icmp .eq off, 3)) (ht : (pc : Int) + off = (tgt : Int)) (hc : x = y) (k : Wv p l e R s m args below meth c G A nL cells slots Q ws (tgt) lv (st)) : Wv p l e R s m args below meth c G A nL cells slots Q ws (pc) lv (.int y :: .int x :: st) :=
  r_icmp_eq h d ht (fun _ => k) (fun q => absurd hc q)
theorem r_icmp_eq_f (h : Fx p m c s args meth own cc nL Ts G A) {x y : Int32} {off : Int} {tgt : Nat} (d : decode cc pc = .ok (.if_icmp .eq off, 3)) (ht : (pc : Int) + off = (tgt : Int)) (hc : ¬ x = y) (k : Wv p l e R s m args below meth c G A nL cells slots Q ws (pc + 3) lv (st)) : Wv p l e R s m args below meth c G A nL cells slots Q ws (pc) lv (.int y :: .int x :: st) :=
  r_icmp_eq h d ht (fun q => absurd q hc) (fun _ => k)
theorem r_icmp_ne (h : Fx p m c s args meth own cc nL Ts G A) {x y : Int32} {off : Int} {tgt : Nat} (d : decode cc pc = .ok (.if_icmp .ne off, 3)) (ht : (pc : Int) + off = (tgt : Int)) (kt : ¬ x = y → Wv p l e R s m args below meth c G A nL cells slots Q ws (tgt) lv (st)) (kf : x = y → Wv p l e R s m args below meth c G A nL cells slots Q ws (pc + 3) lv (st)) : Wv p l e R s m args below meth c G A nL cells slots Q ws (pc) lv (.int y :: .int x :: st) :=
  fun H locs ls hP hD hS hl => lv_icmp_ne h.1.1 h.1.2.1 d ht (fun q => kt q H locs ls hP hD hS hl) (fun q => kf q H locs ls hP hD hS hl)
theorem r_icmp_ne_t (h : Fx p m c s args meth own cc nL Ts G A) {x y : Int32} {off : Int} {tgt : Nat} (d : decode cc pc = .ok (.if_icmp .ne off, 3)) (ht : (pc : Int) + off = (tgt : Int)) (hc : ¬ x = y) (k : Wv p l e R s m args below meth c G A nL cells slots Q ws (tgt) lv (st)) : Wv p l e R s m args below meth c G A nL cells slots Q ws (pc) lv (.int y :: .int x :: st) :=
  r_icmp_ne h d ht (fun _ => k) (fun q => absurd q hc)
theorem r_icmp_ne_f (h : Fx p m c s args meth own cc nL Ts G A) {x y : Int32} {off : Int} {tgt : Nat} (d : decode cc pc = .ok (.if_icmp .ne off, 3)) (ht : (pc : Int) + off = (tgt : Int)) (hc : x = y) (k : Wv p l e R s m args below meth c G A nL cells slots Q ws (pc + 3) lv (st)) : Wv p l e R s m args below meth c G A nL cells slots Q ws (pc) lv (.int y :: .int x :: st) :=
  r_icmp_ne h d ht (fun q => absurd hc q) (fun _ => k)
theorem r_icmp_lt (h : Fx p m c s args meth own cc nL Ts G A) {x y : Int32} {off : Int} {tgt : Nat} (d : decode cc pc = .ok (.if_icmp .lt off, 3)) (ht : (pc : Int) + off = (tgt : Int)) (kt : x < y → Wv p l e R s m args below meth c G A nL cells slots Q ws (tgt) lv (st)) (kf : ¬ x < y → Wv p l e R s m args below meth c G A nL cells slots Q ws (pc + 3) lv (st)) : Wv p l e R s m args below meth c G A nL cells slots Q ws (pc) lv (.int y :: .int x :: st) :=
  fun H locs ls hP hD hS hl => lv_icmp_lt h.1.1 h.1.2.1 d ht (fun q => kt q H locs ls hP hD hS hl) (fun q => kf q H locs ls hP hD hS hl)
theorem r_icmp_lt_t (h : Fx p m c s args meth own cc nL Ts G A) {x y : Int32} {off : Int} {tgt : Nat} (d : decode cc pc = .ok (.if_icmp .lt off, 3)) (ht : (pc : Int) + off = (tgt : Int)) (hc : x < y) (k : Wv p l e R s m args below meth c G A nL cells slots Q ws (tgt) lv (st)) : Wv p l e R s m args below meth c G A nL cells slots Q ws (pc) lv (.int y :: .int x :: st) :=
  r_icmp_lt h d ht (fun _ => k) (fun q => absurd hc q)
theorem r_icmp_lt_f (h : Fx p m c s args meth own cc nL Ts G A) {x y : Int32} {off : Int} {tgt : Nat} (d : decode cc pc = .ok (.if_icmp .lt off, 3)) (ht : (pc : Int) + off = (tgt : Int)) (hc : ¬ x < y) (k : Wv p l e R s m args below meth c G A nL cells slots Q ws (pc + 3) lv (st)) : Wv p l e R s m args below meth c G A nL cells slots Q ws (pc) lv (.int y :: .int x :: st) :=
  r_icmp_lt h d ht (fun q => absurd q hc) (fun _ => k)
theorem r_icmp_ge (h : Fx p m c s args meth own cc nL Ts G A) {x y : Int32} {off : Int} {tgt : Nat} (d : decode cc pc = .ok (.if_icmp .ge off, 3)) (ht : (pc : Int) + off = (tgt : Int)) (kt : y ≤ x → Wv p l e R s m args below meth c G A nL cells slots Q ws (tgt) lv (st)) (kf : ¬ y ≤ x → Wv p l e R s m args below meth c G A nL cells slots Q ws (pc + 3) lv (st)) : Wv p l e R s m args below meth c G A nL cells slots Q ws (pc) lv (.int y :: .int x :: st) :=
  fun H locs ls hP hD hS hl => lv_icmp_ge h.1.1 h.1.2.1 d ht (fun q => kt q H locs ls hP hD hS hl) (fun q => kf q H locs ls hP hD hS hl)
theorem r_icmp_ge_t (h : Fx p m c s args meth own cc nL Ts G A) {x y : Int32} {off : Int} {tgt : Nat} (d : decode cc pc = .ok (.if_icmp .ge off, 3)) (ht : (pc : Int) + off = (tgt : Int)) (hc : y ≤ x) (k : Wv p l e R s m args below meth c G A nL cells slots Q ws (tgt) lv (st)) : Wv p l e R s m args below meth c G A nL cells slots Q ws (pc) lv (.int y :: .int x :: st) :=
  r_icmp_ge h d ht (fun _ => k) (fun q => absurd hc q)
theorem r_icmp_ge_f (h : Fx p m c s args meth own cc nL Ts G A) {x y : Int32} {off : Int} {tgt : Nat} (d : decode cc pc = .ok (.if_icmp .ge off, 3)) (ht : (pc : Int) + off = (tgt : Int)) (hc : ¬ y ≤ x) (k : Wv p l e R s m args below meth c G A nL cells slots Q ws (pc + 3) lv (st)) : Wv p l e R s m args below meth c G A nL cells slots Q ws (pc) lv (.int y :: .int x :: st) :=
  r_icmp_ge h d ht (fun q => absurd q hc) (fun _ => k)
theorem r_icmp_gt (h : Fx p m c s args meth own cc nL Ts G A) {x y : Int32} {off : Int} {tgt : Nat} (d : decode cc pc = .ok (.if_icmp .gt off, 3)) (ht : (pc : Int) + off = (tgt : Int)) (kt : y < x → Wv p l e R s m args below meth c G A nL cells slots Q ws (tgt) lv (st)) (kf : ¬ y < x → Wv p l e R s m args below meth c G A nL cells slots Q ws (pc + 3) lv (st)) : Wv p l e R s m args below meth c G A nL cells slots Q ws (pc) lv (.int y :: .int x :: st) :=
  fun H locs ls hP hD hS hl => lv_icmp_gt h.1.1 h.1.2.1 d ht (fun q => kt q H locs ls hP hD hS hl) (fun q => kf q H locs ls hP hD hS hl)
theorem r_icmp_gt_t (h : Fx p m c s args meth own cc nL Ts G A) {x y : Int32} {off : Int} {tgt : Nat} (d : decode cc pc = .ok (.if_icmp .gt off, 3)) (ht : (pc : Int) + off = (tgt : Int)) (hc : y < x) (k : Wv p l e R s m args below meth c G A nL cells slots Q ws (tgt) lv (st)) : Wv p l e R s m args below meth c G A nL cells slots Q ws (pc) lv (.int y :: .int x :: st) :=
  r_icmp_gt h d ht (fun _ => k) (fun q => absurd hc q)
theorem r_icmp_gt_f (h : Fx p m c s args meth own cc nL Ts G A) {x y : Int32} {off : Int} {tgt : Nat} (d : decode cc pc = .ok (.if_icmp .gt off, 3)) (ht : (pc : Int) + off = (tgt : Int)) (hc : ¬ y < x) (k : Wv p l e R s m args below meth c G A nL cells slots Q ws (pc + 3) lv (st)) : Wv p l e R s m args below meth c G A nL cells slots Q ws (pc) lv (.int y :: .int x :: st) :=
  r_icmp_gt h d ht (fun q => absurd q hc) (fun _ => k)
theorem r_icmp_le (h : Fx p m c s args meth own cc nL Ts G A) {x y : Int32} {off : Int} {tgt : Nat} (d : decode cc pc = .ok (.if_icmp .le off, 3)) (ht : (pc : Int) + off = (tgt : Int)) (kt : x ≤ y → Wv p l e R s m args below meth c G A nL cells slots Q ws (tgt) lv (st)) (kf : ¬ x ≤ y → Wv p l e R s m args below meth c G A nL cells slots Q ws (pc + 3) lv (st)) : Wv p l e R s m args below meth c G A nL cells slots Q ws (pc) lv (.int y :: .int x :: st) :=
  fun H locs ls hP hD hS hl => lv_icmp_le h.1.1 h.1.2.1 d ht (fun q => kt q H locs ls hP hD hS hl) (fun q => kf q H locs ls hP hD hS hl)
theorem r_icmp_le_t (h : Fx p m c s args meth own cc nL Ts G A) {x y : Int32} {off : Int} {tgt : Nat} (d : decode cc pc = .ok (.if_icmp .le off, 3)) (ht : (pc : Int) + off = (tgt : Int)) (hc : x ≤ y) (k : Wv p l e R s m args below meth c G A nL cells slots Q ws (tgt) lv (st)) : Wv p l e R s m args below meth c G A nL cells slots Q ws (pc) lv (.int y :: .int x :: st) :=
  r_icmp_le h d ht (fun _ => k) (fun q => absurd hc q)
theorem r_icmp_le_f (h : Fx p m c s args meth own cc nL Ts G A) {x y : Int32} {off : Int} {tgt : Nat} (d : decode cc pc = .ok (.if_icmp .le off, 3)) (ht : (pc : Int) + off = (tgt : Int)) (hc : ¬ x ≤ y) (k : Wv p l e R s m args below meth c G A nL cells slots Q ws (pc + 3) lv (st)) : Wv p l e R s m args below meth c G A nL cells slots Q ws (pc) lv (.int y :: .int x :: st) :=
  r_icmp_le h d ht (fun q => absurd q hc) (fun _ => k)
theorem r_goto (h : Fx p m c s args meth own cc nL Ts G A) {off : Int} {tgt : Nat} (d : decode cc pc = .ok (.goto off, 3)) (ht : (pc : Int) + off = (tgt : Int)) (k : Wv p l e R s m args below meth c G A nL cells slots Q ws (tgt) lv (st)) : Wv p l e R s m args below meth c G A nL cells slots Q ws (pc) lv (st) :=
  fun H locs ls hP hD hS hl => lv_goto h.1.1 h.1.2.1 d ht (k H locs ls hP hD hS hl)
-- arrays
theorem r_laload (h : Fx p m c s args meth own cc nL Ts G A) (q0 : Nat) {a n : Nat} {f : Nat → Int64} {i : Int32} {z : Int64} (j : Nat) (d : decode cc pc = .ok (.laload, 1)) (ha : ws[q0]? = some (a, .inl (G.2 1, n, .inr (.inl f)))) (hi : i = nI j) (hj : j < n) (hn : n < 2 ^ 31) (e1 : f j = z) (k : Wv p l e R s m args below meth c G A nL cells slots Q ws (pc + 1) lv (.long z :: st)) : Wv p l e R s m args below meth c G A nL cells slots Q ws pc lv (.int i :: .ref a :: st) := by
  subst hi
  intro H locs ls hP hD hS hl
  refine va_lald h.1.1 h.1.2.1 h.2.1 hP q0 1 ha rfl (vp_in_nI hj hn) d ?_
  rw [nI_clamp (Nat.lt_trans hj hn), e1]
  exact k H locs ls hP hD hS hl
theorem r_iaload (h : Fx p m c s args meth own cc nL Ts G A) (q0 : Nat) {a n : Nat} {f : Nat → Int32} {i : Int32} {z : Int32} (j : Nat) (d : decode cc pc = .ok (.iaload, 1)) (ha : ws[q0]? = some (a, .inl (G.2 0, n, .inl f))) (hi : i = nI j) (hj : j < n) (hn : n < 2 ^ 31) (e1 : f j = z) (k : Wv p l e R s m args below meth c G A nL cells slots Q ws (pc + 1) lv (.int z :: st)) : Wv p l e R s m args below meth c G A nL cells slots Q ws pc lv (.int i :: .ref a :: st) := by
  subst hi
  intro H locs ls hP hD hS hl
  refine va_iald h.1.1 h.1.2.1 h.2.1 hP q0 0 ha rfl (vp_in_nI hj hn) d ?_
  rw [nI_clamp (Nat.lt_trans hj hn), e1]
  exact k H locs ls hP hD hS hl
theorem r_baload (h : Fx p m c s args meth own cc nL Ts G A) (q0 : Nat) {a n : Nat} {f : Nat → Int32} {i : Int32} {z : Int32} (j : Nat) (d : decode cc pc = .ok (.baload, 1)) (ha : ws[q0]? = some (a, .inl (G.2 2, n, .inl f))) (hi : i = nI j) (hj : j < n) (hn : n < 2 ^ 31) (e1 : f j = z) (k : Wv p l e R s m args below meth c G A nL cells slots Q ws (pc + 1) lv (.int z :: st)) : Wv p l e R s m args below meth c G A nL cells slots Q ws pc lv (.int i :: .ref a :: st) := by
  subst hi
  intro H locs ls hP hD hS hl
  refine va_zald h.1.1 h.1.2.1 h.2.1 hP q0 2 ha rfl (vp_in_nI hj hn) d ?_
  rw [nI_clamp (Nat.lt_trans hj hn), e1]
  exact k H locs ls hP hD hS hl
theorem r_aaload (h : Fx p m c s args meth own cc nL Ts G A) (q0 t0 : Nat) {ty : FieldType} {cA : ClassId} {a n y : Nat} {f : Nat → Option Nat} {i : Int32} (j : Nat) (d : decode cc pc = .ok (.aaload, 1)) (ha : ws[q0]? = some (a, .inl (cA, n, .inr (.inr (.inr (.inr f)))))) (ht : (gT G)[t0]? = some (cA, ty)) (hty : ty.isReference = true) (hi : i = nI j) (hj : j < n) (hn : n < 2 ^ 31) (e1 : f j = some y) (k : Wv p l e R s m args below meth c G A nL cells slots Q ws (pc + 1) lv (.ref y :: st)) : Wv p l e R s m args below meth c G A nL cells slots Q ws pc lv (.int i :: .ref a :: st) := by
  subst hi
  intro H locs ls hP hD hS hl
  have hin := vp_in_nI hj hn
  have hcl := nI_clamp (Nat.lt_trans hj hn)
  refine W.aald (v := .ref y) (ty := ty) h.1.1 h.1.2.1 (hP q0 _ ha) ((h.2.1.2 t0 _ ht).1 n (fun j => va_rf (f j))) hty (fun q => by cases q) (by show ¬ (nI j < 0 ∨ (arrV _ _ _).slots.size ≤ _); rw [arrV_size]; exact hin) ?_ rfl rfl d (k H locs ls hP hD hS hl)
  show (arrV _ _ _).slots[_]? = _
  rw [hcl, arrV_read _ _ hj, e1]
  rfl
theorem r_lastore (h : Fx p m c s args meth own cc nL Ts G A) (q0 : Nat) {a n : Nat} {f : Nat → Int64} {i : Int32} {x : Int64} (j : Nat) (d : decode cc pc = .ok (.lastore, 1)) (ha : ws[q0]? = some (a, .inl (G.2 1, n, .inr (.inl f)))) (hi : i = nI j) (hj : j < n) (hn : n < 2 ^ 31) (hw : ws.set q0 (a, .inl (G.2 1, n, .inr (.inl (vp_updL f j x)))) = ws') (k : Wv p l e R s m args below meth c G A nL cells slots Q ws' (pc + 1) lv st) : Wv p l e R s m args below meth c G A nL cells slots Q ws pc lv (.long x :: .int i :: .ref a :: st) := by
  subst hi
  intro H locs ls hP hD hS hl
  refine va_last h.1.1 h.1.2.1 h.2.1 hP hD hS q0 1 ha rfl (vp_in_nI hj hn) d ?_
  rw [nI_clamp (Nat.lt_trans hj hn), hw]
  exact fun H1 locs1 hP1 hD1 hS1 => k H1 locs1 ls hP1 hD1 hS1 hl
theorem r_iastore (h : Fx p m c s args meth own cc nL Ts G A) (q0 : Nat) {a n : Nat} {f : Nat → Int32} {i : Int32} {x : Int32} (j : Nat) (d : decode cc pc = .ok (.iastore, 1)) (ha : ws[q0]? = some (a, .inl (G.2 0, n, .inl f))) (hi : i = nI j) (hj : j < n) (hn : n < 2 ^ 31) (hw : ws.set q0 (a, .inl (G.2 0, n, .inl (upd f j x))) = ws') (k : Wv p l e R s m args below meth c G A nL cells slots Q ws' (pc + 1) lv st) : Wv p l e R s m args below meth c G A nL cells slots Q ws pc lv (.int x :: .int i :: .ref a :: st) := by
  subst hi
  intro H locs ls hP hD hS hl
  refine va_iast h.1.1 h.1.2.1 h.2.1 hP hD hS q0 0 ha rfl (vp_in_nI hj hn) d ?_
  rw [nI_clamp (Nat.lt_trans hj hn), hw]
  exact fun H1 locs1 hP1 hD1 hS1 => k H1 locs1 ls hP1 hD1 hS1 hl
theorem r_bastore (h : Fx p m c s args meth own cc nL Ts G A) (q0 : Nat) {a n : Nat} {f : Nat → Int32} {i : Int32} {x : Int32} (j : Nat) (d : decode cc pc = .ok (.bastore, 1)) (ha : ws[q0]? = some (a, .inl (G.2 2, n, .inl f))) (hi : i = nI j) (hj : j < n) (hn : n < 2 ^ 31) (hx : vp_nar .boolean x = x) (hw : ws.set q0 (a, .inl (G.2 2, n, .inl (upd f j x))) = ws') (k : Wv p l e R s m args below meth c G A nL cells slots Q ws' (pc + 1) lv st) : Wv p l e R s m args below meth c G A nL cells slots Q ws pc lv (.int x :: .int i :: .ref a :: st) := by
  subst hi
  intro H locs ls hP hD hS hl
  refine va_zast h.1.1 h.1.2.1 h.2.1 hP hD hS q0 2 ha rfl (vp_in_nI hj hn) d ?_
  rw [nI_clamp (Nat.lt_trans hj hn), hx, hw]
  exact fun H1 locs1 hP1 hD1 hS1 => k H1 locs1 ls hP1 hD1 hS1 hl
-- fields
theorem r_get (h : Fx p m c s args meth own cc nL Ts G A) (q0 k0 : Nat) {a ci N idx : Nat} {fs : List Value} {C : String} {T : u_T} {v : Value} (d : decode cc pc = .ok (.getfield idx, 3)) (he : ws[q0]? = some (a, .inr (ci, fs))) (hc : cls[ci]? = some (C, T, N)) (hk : k0 < N) (hin : ∀ w ∈ u_ws C T N, w ∈ Ts) (hlink : Cond.fieldLink own idx (T k0).1 (T k0).2.1 (T k0).2.2.1 ∈ Ts) (hv : fs[k0]? = some v) (k : Wv p l e R s m args below meth c G A nL cells slots Q ws (pc + 3) lv (v :: st)) : Wv p l e R s m args below meth c G A nL cells slots Q ws pc lv (.ref a :: st) :=
  fun H locs ls hP hD hS hl => va_get (D := G.1) (C := C) (T := T) (N := N) h.1.1 h.1.2.1 h.1.2.2.2.2 hin h.1.2.2.2.1 h.2.1 hP q0 he hc k0 hk (h.1.2.2.2.2 _ hlink) (fun _ h9 => h9) hv d (k H locs ls hP hD hS hl)
theorem r_getN (h : Fx p m c s args meth own cc nL Ts G A) (q0 k0 : Nat) {a ci N idx : Nat} {host : String} {fs : List Value} {C : String} {T : u_T} {v : Value} (d : decode cc pc = .ok (.getfield idx, 3)) (he : ws[q0]? = some (a, .inr (ci, fs))) (hc : cls[ci]? = some (C, T, N)) (hk : k0 < N) (hin : ∀ w ∈ u_ws C T N, w ∈ Ts) (hlink : Cond.fieldLinkNest own idx (T k0).1 (T k0).2.1 (T k0).2.2.1 host ∈ Ts) (hv : fs[k0]? = some v) (k : Wv p l e R s m args below meth c G A nL cells slots Q ws (pc + 3) lv (v :: st)) : Wv p l e R s m args below meth c G A nL cells slots Q ws pc lv (.ref a :: st) :=
  fun H locs ls hP hD hS hl => va_getN (D := G.1) (C := C) (T := T) (N := N) h.1.1 h.1.2.1 h.1.2.2.2.2 hin h.1.2.2.2.1 h.2.1 hP q0 he hc k0 hk (h.1.2.2.2.2 _ hlink) (fun _ h9 => h9) hv d (k H locs ls hP hD hS hl)
theorem r_put (h : Fx p m c s args meth own cc nL Ts G A) (q0 k0 : Nat) {a ci N idx : Nat} {fs : List Value} {C : String} {T : u_T} {ty : FieldType} {v : Value} (ty0 : Nat → FieldType) (hty : ∀ k, k < N → parseFieldDescriptor (T k).2.2.1 = some (ty0 k)) (hnm : ∀ a, a < N → ∀ b, b < N → a ≠ b → (T a).2.1 ≠ (T b).2.1) (d : decode cc pc = .ok (.putfield idx, 3)) (he : ws[q0]? = some (a, .inr (ci, fs))) (hc : cls[ci]? = some (C, T, N)) (hk : k0 < N) (hin : ∀ w ∈ u_ws C T N, w ∈ Ts) (hlink : Cond.fieldLink own idx (T k0).1 (T k0).2.1 (T k0).2.2.1 ∈ Ts) (hfin : (T k0).2.2.2 = false) (ht : parseFieldDescriptor (T k0).2.2.1 = some ty) (hn : narrow ty v = v) (hfit : fits ty v = true) (hlen : k0 < fs.length) (hw : ws.set q0 (a, .inr (ci, fs.set k0 v)) = ws') (k : Wv p l e R s m args below meth c G A nL cells slots Q ws' (pc + 3) lv st) : Wv p l e R s m args below meth c G A nL cells slots Q ws pc lv (v :: .ref a :: st) := by
  intro H locs ls hP hD hS hl
  refine va_put (D := G.1) (C := C) (T := T) (N := N) h.1.1 h.1.2.1 h.1.2.2.2.2 hin ty0 hty hnm h.1.2.2.2.1 h.2.1 hP hD hS q0 he hc k0 hk (h.1.2.2.2.2 _ hlink) (fun _ h9 => h9) hfin ht hn hfit hlen d ?_
  rw [hw]
  exact fun H1 locs1 hP1 hD1 hS1 => k H1 locs1 ls hP1 hD1 hS1 hl
-- the table of places
theorem r_gets (h : Fx p m c s args meth own cc nL Ts G A) {idx : Nat} (d : decode cc pc = .ok (.getstatic idx, 3)) (hlink : Cond.fieldLink own idx "DiagramBench" "TRUE_PLACES" "[J" ∈ Ts) (k : ∀ t : Nat, va_T .long t 6 tpV A s s.heap → Wv p l e R s m args below meth c G A nL cells slots Q ws (pc + 3) lv (.ref t :: st)) : Wv p l e R s m args below meth c G A nL cells slots Q ws pc lv st := by
  intro H locs ls hP hD hS hl
  obtain ⟨t, hZ, hT⟩ := h.2.2.1.1
  exact va_gets h.1.1 h.1.2.1 hZ hS h.1.2.2.2.1 (h.1.2.2.2.2 _ hlink) (fun _ h9 => h9) d (k t hT H locs ls hP hD hS hl)
theorem r_tl (h : Fx p m c s args meth own cc nL Ts G A) {t : Nat} (hT : va_T .long t 6 tpV A s s.heap) {i : Int32} {v : Value} (j : Nat) (d : decode cc pc = .ok (.laload, 1)) (hi : i = nI j) (hj : j < 6) (hv : tpV j = v) (k : Wv p l e R s m args below meth c G A nL cells slots Q ws (pc + 1) lv (v :: st)) : Wv p l e R s m args below meth c G A nL cells slots Q ws pc lv (.int i :: .ref t :: st) := by
  subst hi
  intro H locs ls hP hD hS hl
  exact va_tl h.1.1 h.1.2.1 hT hS (vp_in_nI hj (by decide)) (by rw [nI_clamp (Nat.lt_trans hj (by decide))]; exact hv) d (k H locs ls hP hD hS hl)
-- arraycopy
theorem r_copyl (h : Fx p m c s args meth own cc nL Ts G A) (q0 q1 : Nat) {a a0 n0 n1 : Nat} {f g : Nat → Int64} {sp dp n : Int32} (N : Nat) {idx : Nat} (d : decode cc pc = .ok (.invokestatic idx, 3)) (hlink : Cond.methodLink own idx arraycopyName ∈ Ts) (hnat : Cond.native arraycopyName ∈ Ts) (hstat : Cond.static arraycopyName ∈ Ts) (hini : Cond.initialized "java/lang/System" ∈ Ts) (ha0 : ws[q0]? = some (a0, .inl (G.2 1, n0, .inr (.inl f)))) (ha1 : ws[q1]? = some (a, .inl (G.2 1, n1, .inr (.inl g)))) (hsp : sp = 0) (hdp : dp = 0) (hN : n = nI N) (hN31 : N < 2 ^ 31) (h4 : N ≤ n0) (h5 : N ≤ n1) (hframes : 1 ≤ R.frames) (hlocals : (st.map fun v => v.category).sum + (nativeFrameWords "java/lang/System" "arraycopy" 5 + 11) ≤ R.locals) (hw : ws.set q1 (a, .inl (G.2 1, n1, .inr (.inl (va_cpy f g 0 0 N)))) = ws') (k : Wv p l e R s m args below meth c G A nL cells slots Q ws' (pc + 3) lv st) : Wv p l e R s m args below meth c G A nL cells slots Q ws pc lv (.int n :: .int dp :: .ref a :: .int sp :: .ref a0 :: st) := by
  subst hsp; subst hdp; subst hN
  intro H locs ls hP hD hS hl
  have z0 : (0 : Int32).toNatClampNeg = 0 := by decide
  have hcl := nI_clamp hN31
  refine va_copyl h.1.1 h.1.2.1 (h.1.2.2.1.trans hl.1.symm) h.1.2.2.2.1 (h.1.2.2.2.2 _ hlink) (h.1.2.2.2.2 _ hnat) (h.1.2.2.2.2 _ hstat) (h.1.2.2.2.2 _ hini) h.2.1 hP hD hS q0 q1 1 1 ha0 ha1 rfl rfl rfl (by decide) (by decide) (nI_pos hN31) (by rw [z0, hcl]; omega) (by rw [z0, hcl]; omega) (fun i hi => rfl) hframes hlocals d ?_
  rw [z0, hcl, hw]
  exact fun H1 locs1 hP1 hD1 hS1 => k H1 locs1 ls hP1 hD1 hS1 hl
theorem r_copyz (h : Fx p m c s args meth own cc nL Ts G A) (q0 q1 : Nat) {a a0 n0 n1 : Nat} {f g : Nat → Int32} {sp dp n : Int32} (N : Nat) {idx : Nat} (d : decode cc pc = .ok (.invokestatic idx, 3)) (hlink : Cond.methodLink own idx arraycopyName ∈ Ts) (hnat : Cond.native arraycopyName ∈ Ts) (hstat : Cond.static arraycopyName ∈ Ts) (hini : Cond.initialized "java/lang/System" ∈ Ts) (ha0 : ws[q0]? = some (a0, .inl (G.2 2, n0, .inl f))) (ha1 : ws[q1]? = some (a, .inl (G.2 2, n1, .inl g))) (hsp : sp = 0) (hdp : dp = 0) (hN : n = nI N) (hN31 : N < 2 ^ 31) (h4 : N ≤ n0) (h5 : N ≤ n1) (hfit : ∀ i, i < N → fits .boolean (.int (f i)) = true) (hframes : 1 ≤ R.frames) (hlocals : (st.map fun v => v.category).sum + (nativeFrameWords "java/lang/System" "arraycopy" 5 + 11) ≤ R.locals) (hw : ws.set q1 (a, .inl (G.2 2, n1, .inl (va_cpy f g 0 0 N))) = ws') (k : Wv p l e R s m args below meth c G A nL cells slots Q ws' (pc + 3) lv st) : Wv p l e R s m args below meth c G A nL cells slots Q ws pc lv (.int n :: .int dp :: .ref a :: .int sp :: .ref a0 :: st) := by
  subst hsp; subst hdp; subst hN
  intro H locs ls hP hD hS hl
  have z0 : (0 : Int32).toNatClampNeg = 0 := by decide
  have hcl := nI_clamp hN31
  refine va_copyi h.1.1 h.1.2.1 (h.1.2.2.1.trans hl.1.symm) h.1.2.2.2.1 (h.1.2.2.2.2 _ hlink) (h.1.2.2.2.2 _ hnat) (h.1.2.2.2.2 _ hstat) (h.1.2.2.2.2 _ hini) h.2.1 hP hD hS q0 q1 2 2 ha0 ha1 rfl rfl rfl (by decide) (by decide) (nI_pos hN31) (by rw [z0, hcl]; omega) (by rw [z0, hcl]; omega) (fun i hi => by rw [z0, Nat.zero_add]; exact hfit i (by rw [hcl] at hi; exact hi)) hframes hlocals d ?_
  rw [z0, hcl, hw]
  exact fun H1 locs1 hP1 hD1 hS1 => k H1 locs1 ls hP1 hD1 hS1 hl
-- calls that return
theorem r_core {mc ms : Nat} {H : Heap} {locs : List Loc} {ls : Array Slot} {st0 : List Value} {v : Option Value} {a : Array Value} {A1 : Nat → Prop} (hr : va_Run p l e R s m args below meth c H locs cells slots mc ms (F0 m pc ls st0) st (QC G A1 v ws' a) A1) (hS : va_S A s.heap H locs) (hA : ∀ q, A1 q → A q)
    (kk : ∀ (H1 : Heap) (locs1 : List Loc), va_P G.1 cls ws' H1 → va_S A s.heap H1 locs1 → W p l e R s m args below meth c H1 locs1 (cells + mc) (slots + ms) Q (F0 m (pc + 3) ls (v.toList ++ st))) : W p l e R s m args below meth c H locs cells slots Q (F0 m pc ls st0) := by
  intro T hT X
  obtain ⟨w, st₀, t, T', L, h0, X', hL, e1, e2, ⟨hv, hp, hz, hk⟩, hst⟩ := hr T hT X
  cases hv
  rw [h0] at hz hk
  obtain ⟨t2, a1, b1⟩ := kk T'.heap (locs ++ L) (by rw [e1]; exact hp)
    ⟨Nat.le_trans hS.1 (by rw [e1]; exact hz), fun q h1 h2 => by rw [e1, hk q (Nat.lt_of_lt_of_le h1 hS.1) (fun z => h2 (hA q z))]; exact hS.2.1 q h1 h2, fun q hq => by
      rcases List.mem_append.mp hq with h | h
      · exact hS.2.2 q h
      · exact hA _ (hL q h)⟩ T' rfl X'
  exact ⟨t2, hst t2 a1, b1⟩
theorem Fx.adr (h : Fx p m c s args meth own cc nL Ts G A) {H : Heap} {locs : List Loc} (hD : va_D A ws) (hS : va_S A s.heap H locs) : ∀ q, va_A ws H.size q → A q :=
  fun q hq => hq.elim (fun ⟨k, e, hk⟩ => hD.2 k _ hk) (fun hq => h.2.2.2.1 q (Nat.le_trans hS.1 hq))
theorem Fx.pre (h : Fx p m c s args meth own cc nL Ts G A) {As : List Value} {H : Heap} {locs : List Loc} (hP : va_P G.1 cls ws H) (hD : va_D A ws) (hS : va_S A s.heap H locs) : ∀ U : State, U.heap = H → s.WarmedH U.vm → va_Pc As (Pu G (va_A ws H.size) ws H.size) As.toArray U :=
  fun U hU hW => ⟨rfl, by rw [hU], by rw [hU]; exact hP, va_K.moved hW.alike h.2.1, hD.self, by rw [hU]; exact ((h.2.2.1.kept hS.2.1).narrow (h.adr hD hS)).warm hW⟩
theorem r_invS (h : Fx p m c s args meth own cc nL Ts G A) {y : MethodName} {w : List Cond} {rm : Room} {As st0 : List Value} {v : Option Value} {idx maxL n : Nat} {bytes : ByteArray} {ret : Option FieldType} (d : decode cc pc = .ok (.invokestatic idx, 3)) (hC : Ct l y w rm G As ws v ws') (cw : CallB R s args own idx y bytes maxL ret w rm 0 0 n ∧ (Cond.static y).before args s = true) (hn : As.length = n) (hst : st0 = As.reverse ++ st) (hcat : (st.map fun v => v.category).sum ≤ 8) (hcs : cells + 0 ≤ R.cells ∧ slots + 0 ≤ R.slots) (hadr : ws'.map Prod.fst = ws.map Prod.fst) (k : Wv p l e R s m args below meth c G A nL cells slots Q ws' (pc + 3) lv (v.toList ++ st)) : Wv p l e R s m args below meth c G A nL cells slots Q ws pc lv st0 := by
  intro H locs ls hP hD hS hl
  exact r_core (va_runS (As := As) (rest := st) h.1 (hC H.size) cw ⟨Pu.blind, h.pre hP hD hS⟩ rfl hn hl.1 hst (lv_room hcat) d hcs) hS (h.adr hD hS) (fun H1 locs1 hP1 hS1 => k H1 locs1 ls hP1 (va_Dsame hadr hD) hS1 hl)
theorem Fx.recv (h : Fx p m c s args meth own cc nL Ts G A) {H : Heap} {q0 a ci : Nat} {q : vw_C} {fs : List Value} (hP : va_P G.1 cls ws H) (hc : cls[ci]? = some q) (he : ws[q0]? = some (a, .inr (ci, fs))) : ∃ cell : Cell, H[a]? = some cell ∧ cell.vm.isStatics = false ∧ s.vm.findClass q.1 = some cell.cls := va_recv h.2.1 hP hc he
theorem r_invV (h : Fx p m c s args meth own cc nL Ts G A) (q0 : Nat) {b ci : Nat} {fs : List Value} {q : vw_C} {y : MethodName} {w : List Cond} {rm : Room} {As st0 : List Value} {v : Option Value} {idx maxL n : Nat} {bytes : ByteArray} {ret : Option FieldType} (d : decode cc pc = .ok (.invokevirtual idx, 3)) (hC : Ct l y w rm G (.ref b :: As) ws v ws') (cw : CallW R s args own q.1 idx y bytes maxL ret w rm 0 0 n) (he : ws[q0]? = some (b, .inr (ci, fs))) (hc : cls[ci]? = some q) (hn : As.length = n) (hst : st0 = As.reverse ++ .ref b :: st) (hcat : (st.map fun v => v.category).sum ≤ 8) (hcs : cells + 0 ≤ R.cells ∧ slots + 0 ≤ R.slots) (hadr : ws'.map Prod.fst = ws.map Prod.fst) (k : Wv p l e R s m args below meth c G A nL cells slots Q ws' (pc + 3) lv (v.toList ++ st)) : Wv p l e R s m args below meth c G A nL cells slots Q ws pc lv st0 := by
  intro H locs ls hP hD hS hl
  exact r_core (va_runV (As := As) (rest := st) h.1 (hC H.size) cw ⟨Pu.blind, h.recv hP hc he, h.pre hP hD hS⟩ rfl hn hl.1 hst (lv_room hcat) d hcs) hS (h.adr hD hS) (fun H1 locs1 hP1 hS1 => k H1 locs1 ls hP1 (va_Dsame hadr hD) hS1 hl)
theorem r_invVN (h : Fx p m c s args meth own cc nL Ts G A) (q0 : Nat) {b ci : Nat} {fs : List Value} {host : String} {q : vw_C} {y : MethodName} {w : List Cond} {rm : Room} {As st0 : List Value} {v : Option Value} {idx maxL n : Nat} {bytes : ByteArray} {ret : Option FieldType} (d : decode cc pc = .ok (.invokevirtual idx, 3)) (hC : Ct l y w rm G (.ref b :: As) ws v ws') (cw : va_CN R s args own idx y host bytes maxL ret w rm 0 0 n ∧ (Cond.instanceMethod y).before args s = true ∧ (Cond.selects q.1 y y).before args s = true) (he : ws[q0]? = some (b, .inr (ci, fs))) (hc : cls[ci]? = some q) (hn : As.length = n) (hst : st0 = As.reverse ++ .ref b :: st) (hcat : (st.map fun v => v.category).sum ≤ 8) (hcs : cells + 0 ≤ R.cells ∧ slots + 0 ≤ R.slots) (hadr : ws'.map Prod.fst = ws.map Prod.fst) (k : Wv p l e R s m args below meth c G A nL cells slots Q ws' (pc + 3) lv (v.toList ++ st)) : Wv p l e R s m args below meth c G A nL cells slots Q ws pc lv st0 := by
  intro H locs ls hP hD hS hl
  exact r_core (va_runVN (As := As) (rest := st) h.1 (hC H.size) cw ⟨Pu.blind, h.recv hP hc he, h.pre hP hD hS⟩ rfl hn hl.1 hst (lv_room hcat) d hcs) hS (h.adr hD hS) (fun H1 locs1 hP1 hS1 => k H1 locs1 ls hP1 (va_Dsame hadr hD) hS1 hl)
theorem r_invSN (h : Fx p m c s args meth own cc nL Ts G A) {host : String} {y : MethodName} {w : List Cond} {rm : Room} {As st0 : List Value} {v : Option Value} {idx maxL n : Nat} {bytes : ByteArray} {ret : Option FieldType} (d : decode cc pc = .ok (.invokestatic idx, 3)) (hC : Ct l y w rm G As ws v ws') (cw : va_CN R s args own idx y host bytes maxL ret w rm 0 0 n ∧ (Cond.static y).before args s = true ∧ True) (hn : As.length = n) (hst : st0 = As.reverse ++ st) (hcat : (st.map fun v => v.category).sum ≤ 8) (hcs : cells + 0 ≤ R.cells ∧ slots + 0 ≤ R.slots) (hadr : ws'.map Prod.fst = ws.map Prod.fst) (k : Wv p l e R s m args below meth c G A nL cells slots Q ws' (pc + 3) lv (v.toList ++ st)) : Wv p l e R s m args below meth c G A nL cells slots Q ws pc lv st0 := by
  intro H locs ls hP hD hS hl
  exact r_core (va_runSN (As := As) (rest := st) h.1 (hC H.size) cw ⟨Pu.blind, h.pre hP hD hS⟩ rfl hn hl.1 hst (lv_room hcat) d hcs) hS (h.adr hD hS) (fun H1 locs1 hP1 hS1 => k H1 locs1 ls hP1 (va_Dsame hadr hD) hS1 hl)
-- ends
theorem r_iret (h : Fx p m c s args meth own cc nL Ts G A) {x : Int32} (hr : meth.sig.returnType = some .int) (d : decode cc pc = .ok (.ireturn, 1)) : Wv p l e R s m args below meth c G A nL cells slots (MQ below (QC G A (some (.int x)) ws) args s cells slots A) ws pc lv [.int x] :=
  fun H locs ls hP hD hS hl => W.iret (v := x) h.1.1 h.1.2.1 hr (fun t ht hW => ⟨rfl, by rw [ht]; exact hP, hS.F ht⟩) hS.2.2 d h.2.2.2.2
theorem r_zret (h : Fx p m c s args meth own cc nL Ts G A) {x : Int32} {ty : FieldType} (hr : meth.sig.returnType = some ty) (hn : narrow ty (.int x) = .int x) (d : decode cc pc = .ok (.ireturn, 1)) : Wv p l e R s m args below meth c G A nL cells slots (MQ below (QC G A (some (.int x)) ws) args s cells slots A) ws pc lv [.int x] :=
  fun H locs ls hP hD hS hl => W.zret (v := x) h.1.1 h.1.2.1 hr hn (fun t ht hW => ⟨rfl, by rw [ht]; exact hP, hS.F ht⟩) hS.2.2 d h.2.2.2.2
theorem r_lret (h : Fx p m c s args meth own cc nL Ts G A) {x : Int64} (hr : meth.sig.returnType = some .long) (d : decode cc pc = .ok (.lreturn, 1)) : Wv p l e R s m args below meth c G A nL cells slots (MQ below (QC G A (some (.long x)) ws) args s cells slots A) ws pc lv [.long x] :=
  fun H locs ls hP hD hS hl => W.lret (v := x) h.1.1 h.1.2.1 hr (fun t ht hW => ⟨rfl, by rw [ht]; exact hP, hS.F ht⟩) hS.2.2 d h.2.2.2.2
theorem r_vret (h : Fx p m c s args meth own cc nL Ts G A) (hr : meth.sig.returnType = none) (d : decode cc pc = .ok (.return_, 1)) : Wv p l e R s m args below meth c G A nL cells slots (MQ below (QC G A none ws) args s cells slots A) ws pc lv [] :=
  fun H locs ls hP hD hS hl => W.vret h.1.1 h.1.2.1 hr (fun t ht hW => ⟨rfl, by rw [ht]; exact hP, hS.F ht⟩) hS.2.2 d h.2.2.2.2
/-- a contract out of its body's walk -/
theorem ct_intro {y : MethodName} {rm : Room} {As : List Value} {v : Option Value} {ret : Option FieldType} {w' : List Cond} (hy : plainName y.cls = true) (lv0 : List (Nat × Value)) (hlv : lv_args 0 As = lv0) (hlen : (lg_sl As).length ≤ nL)
    (body : ∀ (p : Program) (e : Env) (s : State) (m : MethodId) (below : List Frame) (meth : Method) (c : Code) (A : Nat → Prop), Fx p m c s As.toArray meth y.cls cc nL (.code y cc nL ret :: w') G A → meth.sig.returnType = ret → Wv p l e rm s m As.toArray below meth c G A nL 0 0 (MQ below (QC G A v ws') As.toArray s 0 0 A) ws 0 lv0 []) : Ct l y (.code y cc nL ret :: w') rm G As ws v ws' := by
  intro sz
  refine Met.ofW (cc := cc) (maxL := nL) (ret := ret) hy rfl ?_
  intro p e s m args below meth c s₁ B hml hv
  obtain ⟨rfl, rfl, hP, hK, hD, hSt⟩ := hv
  rw [lg_entry_eq]
  exact body p e s m below meth c _ ⟨⟨B.exec, B.bytes, hml, findClass_of_methodNamed B.named, atoms_spec (ws := .code y cc nL ret :: w') B.pre⟩, hK, hSt, fun q hq => Or.inr hq, B.notSynchronized⟩ B.returns s.heap [] _ hP hD va_S.rf (hlv ▸ lv_entry As hlen)
-- throws
theorem tt_intro {y : MethodName} {rm : Room} {As : List Value} {E : String} {ret : Option FieldType} {w' : List Cond} (hy : plainName y.cls = true) (lv0 : List (Nat × Value)) (hlv : lv_args 0 As = lv0) (hlen : (lg_sl As).length ≤ nL)
    (body : ∀ (p : Program) (e : Env) (s : State) (m : MethodId) (below : List Frame) (meth : Method) (c : Code) (A : Nat → Prop), Fx p m c s As.toArray meth y.cls cc nL (.code y cc nL ret :: w') G A → meth.sig.returnType = ret → (∀ x ∈ c.exceptionTable.toList, False) → Wv p l e rm s m As.toArray below meth c G A nL 0 0 (vx_MQ below QN (XE G A E ws) As.toArray s 1 6 A) ws 0 lv0 []) : Tt l y (.code y cc nL ret :: w') rm G As ws E := by
  intro sz
  refine vx_ofW (cc := cc) (maxL := nL) (ret := ret) hy rfl ?_
  intro p e s m args below meth c s₁ B hml hex hv
  obtain ⟨rfl, rfl, hP, hK, hD, hSt⟩ := hv
  rw [lg_entry_eq]
  exact body p e s m below meth c _ ⟨⟨B.exec, B.bytes, hml, findClass_of_methodNamed B.named, atoms_spec (ws := .code y cc nL ret :: w') B.pre⟩, hK, hSt, fun q hq => Or.inr hq, B.notSynchronized⟩ B.returns hex s.heap [] _ hP hD va_S.rf (hlv ▸ lv_entry As hlen)
/-- a static call that throws, not caught here -/
theorem r_outS (h : Fx p m c s args meth own cc nL Ts G A) {y : MethodName} {w : List Cond} {rm : Room} {As st0 : List Value} {E : String} {idx maxL n : Nat} {bytes : ByteArray} {ret : Option FieldType} {Qc : Array Value → State → Outcome → State → Prop} (hex : ∀ x ∈ c.exceptionTable.toList, False) (d : decode cc pc = .ok (.invokestatic idx, 3)) (hC : Tt l y w rm G As ws E) (cw : CallB R s args own idx y bytes maxL ret w rm 1 6 n ∧ (Cond.static y).before args s = true) (hn : As.length = n) (hst : st0 = As.reverse ++ st) (hcat : (st.map fun v => v.category).sum ≤ 8) (hcs : 0 + 1 ≤ R.cells ∧ 0 + 6 ≤ R.slots) : Wv p l e R s m args below meth c G A nL 0 0 (vx_MQ below Qc (XE G A E ws) args s 1 6 A) ws pc lv st0 := by
  intro H locs ls hP hD hS hl T hT X
  have hA := h.adr hD hS
  rcases vx_runS (As := As) (rest := st) (g := F0 m pc ls st0) h.1 (hC H.size) cw ⟨Pu.blind, h.pre hP hD hS⟩ rfl hn hl.1 hst (lv_room hcat) d hcs T hT X with ⟨v, st₀, t, T', L, h0, X', hL, e1, e2, hq, hst9⟩ | ⟨q, st₀, t, T', L, E', ce, h0, X', hL, e1, e2, ⟨hE, hp, hz, hk⟩, hce, hcv, hcl, hst9⟩
  · exact hq.elim
  · subst hE
    rw [h0] at hz hk
    obtain ⟨t2, a1, b1⟩ := vx_out (H := T'.heap) (locs := locs ++ L) (cells := 0 + 1) (slots := 0 + 6) (XC := XE G A E' ws) (Qc := Qc) (mc := 1) (ms := 6) (free := A) (ls := ls) (rest := st) (pc := pc) (fun x hx => (hex x hx).elim) h.2.2.2.2 (by rw [e1]; exact hce) hcv hcl
      (fun t9 ht9 _ => ⟨rfl, by rw [ht9, e1]; exact hp, by rw [ht9, e1]; exact Nat.le_trans hS.1 hz, fun q h1 h2 => by rw [ht9, e1, hk q (Nat.lt_of_lt_of_le h1 hS.1) (fun z => h2 (hA q z))]; exact hS.2.1 q h1 h2⟩)
      (fun z hz9 => by
        rcases List.mem_append.mp hz9 with h9 | h9
        · exact hS.2.2 z h9
        · exact hA _ (hL z h9)) (Nat.le_refl _) (Nat.le_refl _) T' rfl X'
    exact ⟨t2, hst9.trans a1, b1⟩
end RW
-- words: one list for all methods
theorem gi_TT {wd x : Cond} (hx : x ∈ TT) : GoodIn (wd :: TT) (x :: TT) := fun w hw => by
  have h9 : w ∈ TT := by
    rcases List.mem_cons.mp hw with e | e
    · rw [e]; exact hx
    · exact e
  exact ⟨List.mem_cons_of_mem _ h9, good_of_word (TT_good w h9)⟩
section RC
variable {p : Program} {l : Launch} {R : Room} {s : State} {m : MethodId} {args : Array Value} {meth : Method} {c : Code} {G : gG} {A : Nat → Prop} {nL : Nat} {cc : ByteArray} {own : String} {wd : Cond}
theorem r_cb (h : Fx p m c s args meth own cc nL (wd :: TT) G A) {y : MethodName} {bytes : ByteArray} {maxL idx n mc ms : Nat} {ret : Option FieldType} {rm : Room} (hcode : Cond.code y bytes maxL ret ∈ TT) (hlink : Cond.methodLink own idx y ∈ TT) (hini : Cond.initialized y.cls ∈ TT) (hd : y.cls ≠ "java/lang/invoke/MethodHandle" ∧ y.cls ≠ "java/lang/invoke/VarHandle" ∧ (parseMethodDescriptor y.desc).map (fun d => d.parameters.length) = some n) (hR : rm.frames + 1 ≤ R.frames ∧ 8 + (maxL + 11) + rm.locals ≤ R.locals) (hrc : rm.cells = mc) (hrs : rm.slots = ms) : CallB R s args own idx y bytes maxL ret (.code y bytes maxL ret :: TT) rm mc ms n :=
  callB_of n h.1.2.2.2.2 (gi_TT hcode) rfl hrc hrs (h.1.2.2.2.2 _ (List.mem_cons_of_mem _ hini)) (h.1.2.2.2.2 _ (List.mem_cons_of_mem _ hlink)) hd hR
theorem r_cS (h : Fx p m c s args meth own cc nL (wd :: TT) G A) {y : MethodName} {bytes : ByteArray} {maxL idx n mc ms : Nat} {ret : Option FieldType} {rm : Room} (hcode : Cond.code y bytes maxL ret ∈ TT) (hlink : Cond.methodLink own idx y ∈ TT) (hini : Cond.initialized y.cls ∈ TT) (hst : Cond.static y ∈ TT) (hd : y.cls ≠ "java/lang/invoke/MethodHandle" ∧ y.cls ≠ "java/lang/invoke/VarHandle" ∧ (parseMethodDescriptor y.desc).map (fun d => d.parameters.length) = some n) (hR : rm.frames + 1 ≤ R.frames ∧ 8 + (maxL + 11) + rm.locals ≤ R.locals) (hrc : rm.cells = mc) (hrs : rm.slots = ms) : CallB R s args own idx y bytes maxL ret (.code y bytes maxL ret :: TT) rm mc ms n ∧ (Cond.static y).before args s = true :=
  ⟨r_cb h hcode hlink hini hd hR hrc hrs, h.1.2.2.2.2 _ (List.mem_cons_of_mem _ hst)⟩
theorem r_cV (h : Fx p m c s args meth own cc nL (wd :: TT) G A) {y : MethodName} {C : String} {bytes : ByteArray} {maxL idx n mc ms : Nat} {ret : Option FieldType} {rm : Room} (hcode : Cond.code y bytes maxL ret ∈ TT) (hlink : Cond.methodLink own idx y ∈ TT) (hini : Cond.initialized y.cls ∈ TT) (hin : Cond.instanceMethod y ∈ TT) (hse : Cond.selects C y y ∈ TT) (hd : y.cls ≠ "java/lang/invoke/MethodHandle" ∧ y.cls ≠ "java/lang/invoke/VarHandle" ∧ (parseMethodDescriptor y.desc).map (fun d => d.parameters.length) = some n) (hR : rm.frames + 1 ≤ R.frames ∧ 8 + (maxL + 11) + rm.locals ≤ R.locals) (hrc : rm.cells = mc) (hrs : rm.slots = ms) : CallW R s args own C idx y bytes maxL ret (.code y bytes maxL ret :: TT) rm mc ms n :=
  ⟨r_cb h hcode hlink hini hd hR hrc hrs, h.1.2.2.2.2 _ (List.mem_cons_of_mem _ hin), h.1.2.2.2.2 _ (List.mem_cons_of_mem _ hse)⟩
end RC
-- contracts whose end is told by a property of the answer and of the world
def QP (G : gG) (A : Nat → Prop) (Post : Option Value → va_W → Prop) : Array Value → State → Outcome → State → Prop := fun _ st o t =>
  ∃ (v : Option Value) (ws : va_W), o = .returned v ∧ Post v ws ∧ va_P G.1 cls ws t.heap ∧ va_F A st t
def Cp (l : Launch) (y : MethodName) (w : List Cond) (rm : Room) (G : gG) (As : List Value) (ws : va_W) (Post : Option Value → va_W → Prop) : Prop :=
  ∀ sz : Nat, Met l y w rm (va_Pc As (Pu G (va_A ws sz) ws sz)) (QP G (va_A ws sz) Post) 0 0 (va_A ws sz)
section RP
variable {p : Program} {l : Launch} {e : Env} {R : Room} {s : State} {m : MethodId} {args : Array Value} {below : List Frame} {meth : Method} {c : Code} {cells slots : Nat} {Q : State → Prop} {G : gG} {A : Nat → Prop} {nL : Nat} {cc : ByteArray} {own : String} {Ts : List Cond} {ws ws' : va_W} {pc : Nat} {lv : List (Nat × Value)} {st : List Value} {Post : Option Value → va_W → Prop}
theorem r_coreP {mc ms : Nat} {H : Heap} {locs : List Loc} {ls : Array Slot} {st0 : List Value} {a : Array Value} {A1 : Nat → Prop} (hr : va_Run p l e R s m args below meth c H locs cells slots mc ms (F0 m pc ls st0) st (QP G A1 Post a) A1) (hS : va_S A s.heap H locs) (hA : ∀ q, A1 q → A q)
    (kk : ∀ (v : Option Value) (ws' : va_W) (H1 : Heap) (locs1 : List Loc), Post v ws' → va_P G.1 cls ws' H1 → va_S A s.heap H1 locs1 → W p l e R s m args below meth c H1 locs1 (cells + mc) (slots + ms) Q (F0 m (pc + 3) ls (v.toList ++ st))) : W p l e R s m args below meth c H locs cells slots Q (F0 m pc ls st0) := by
  intro T hT X
  obtain ⟨w, st₀, t, T', L, h0, X', hL, e1, e2, ⟨v, ws1, hv, hpo, hp, hz, hk⟩, hst⟩ := hr T hT X
  cases hv
  rw [h0] at hz hk
  obtain ⟨t2, a1, b1⟩ := kk w ws1 T'.heap (locs ++ L) hpo (by rw [e1]; exact hp)
    ⟨Nat.le_trans hS.1 (by rw [e1]; exact hz), fun q h1 h2 => by rw [e1, hk q (Nat.lt_of_lt_of_le h1 hS.1) (fun z => h2 (hA q z))]; exact hS.2.1 q h1 h2, fun q hq => by
      rcases List.mem_append.mp hq with h | h
      · exact hS.2.2 q h
      · exact hA _ (hL q h)⟩ T' rfl X'
  exact ⟨t2, hst t2 a1, b1⟩
theorem r_invVP (h : Fx p m c s args meth own cc nL Ts G A) (q0 : Nat) {b ci : Nat} {fs : List Value} {q : vw_C} {y : MethodName} {w : List Cond} {rm : Room} {As st0 : List Value} {idx maxL n : Nat} {bytes : ByteArray} {ret : Option FieldType} (d : decode cc pc = .ok (.invokevirtual idx, 3)) (hC : Cp l y w rm G (.ref b :: As) ws Post) (cw : CallW R s args own q.1 idx y bytes maxL ret w rm 0 0 n) (he : ws[q0]? = some (b, .inr (ci, fs))) (hc : cls[ci]? = some q) (hn : As.length = n) (hst : st0 = As.reverse ++ .ref b :: st) (hcat : (st.map fun v => v.category).sum ≤ 8) (hcs : cells + 0 ≤ R.cells ∧ slots + 0 ≤ R.slots) (k : ∀ (v : Option Value) (ws' : va_W), Post v ws' → ws'.map Prod.fst = ws.map Prod.fst ∧ Wv p l e R s m args below meth c G A nL cells slots Q ws' (pc + 3) lv (v.toList ++ st)) : Wv p l e R s m args below meth c G A nL cells slots Q ws pc lv st0 := by
  intro H locs ls hP hD hS hl
  exact r_coreP (va_runV (As := As) (rest := st) h.1 (hC H.size) cw ⟨Pu.blind, h.recv hP hc he, h.pre hP hD hS⟩ rfl hn hl.1 hst (lv_room hcat) d hcs) hS (h.adr hD hS) (fun v ws1 H1 locs1 hpo hP1 hS1 => (k v ws1 hpo).2 H1 locs1 ls hP1 (va_Dsame (k v ws1 hpo).1 hD) hS1 hl)
theorem r_invVNP (h : Fx p m c s args meth own cc nL Ts G A) (q0 : Nat) {b ci : Nat} {fs : List Value} {host : String} {q : vw_C} {y : MethodName} {w : List Cond} {rm : Room} {As st0 : List Value} {idx maxL n : Nat} {bytes : ByteArray} {ret : Option FieldType} (d : decode cc pc = .ok (.invokevirtual idx, 3)) (hC : Cp l y w rm G (.ref b :: As) ws Post) (cw : va_CN R s args own idx y host bytes maxL ret w rm 0 0 n ∧ (Cond.instanceMethod y).before args s = true ∧ (Cond.selects q.1 y y).before args s = true) (he : ws[q0]? = some (b, .inr (ci, fs))) (hc : cls[ci]? = some q) (hn : As.length = n) (hst : st0 = As.reverse ++ .ref b :: st) (hcat : (st.map fun v => v.category).sum ≤ 8) (hcs : cells + 0 ≤ R.cells ∧ slots + 0 ≤ R.slots) (k : ∀ (v : Option Value) (ws' : va_W), Post v ws' → ws'.map Prod.fst = ws.map Prod.fst ∧ Wv p l e R s m args below meth c G A nL cells slots Q ws' (pc + 3) lv (v.toList ++ st)) : Wv p l e R s m args below meth c G A nL cells slots Q ws pc lv st0 := by
  intro H locs ls hP hD hS hl
  exact r_coreP (va_runVN (As := As) (rest := st) h.1 (hC H.size) cw ⟨Pu.blind, h.recv hP hc he, h.pre hP hD hS⟩ rfl hn hl.1 hst (lv_room hcat) d hcs) hS (h.adr hD hS) (fun v ws1 H1 locs1 hpo hP1 hS1 => (k v ws1 hpo).2 H1 locs1 ls hP1 (va_Dsame (k v ws1 hpo).1 hD) hS1 hl)
theorem r_iretP (h : Fx p m c s args meth own cc nL Ts G A) {x : Int32} (hr : meth.sig.returnType = some .int) (hp : Post (some (.int x)) ws) (d : decode cc pc = .ok (.ireturn, 1)) : Wv p l e R s m args below meth c G A nL cells slots (MQ below (QP G A Post) args s cells slots A) ws pc lv [.int x] :=
  fun H locs ls hP hD hS hl => W.iret (v := x) h.1.1 h.1.2.1 hr (fun t ht hW => ⟨_, ws, rfl, hp, by rw [ht]; exact hP, hS.F ht⟩) hS.2.2 d h.2.2.2.2
theorem r_vretP (h : Fx p m c s args meth own cc nL Ts G A) (hr : meth.sig.returnType = none) (hp : Post none ws) (d : decode cc pc = .ok (.return_, 1)) : Wv p l e R s m args below meth c G A nL cells slots (MQ below (QP G A Post) args s cells slots A) ws pc lv [] :=
  fun H locs ls hP hD hS hl => W.vret h.1.1 h.1.2.1 hr (fun t ht hW => ⟨_, ws, rfl, hp, by rw [ht]; exact hP, hS.F ht⟩) hS.2.2 d h.2.2.2.2
theorem cp_intro {y : MethodName} {rm : Room} {As : List Value} {ret : Option FieldType} {w' : List Cond} (hy : plainName y.cls = true) (lv0 : List (Nat × Value)) (hlv : lv_args 0 As = lv0) (hlen : (lg_sl As).length ≤ nL)
    (body : ∀ (p : Program) (e : Env) (s : State) (m : MethodId) (below : List Frame) (meth : Method) (c : Code) (A : Nat → Prop), Fx p m c s As.toArray meth y.cls cc nL (.code y cc nL ret :: w') G A → meth.sig.returnType = ret → Wv p l e rm s m As.toArray below meth c G A nL 0 0 (MQ below (QP G A Post) As.toArray s 0 0 A) ws 0 lv0 []) : Cp l y (.code y cc nL ret :: w') rm G As ws Post := by
  intro sz
  refine Met.ofW (cc := cc) (maxL := nL) (ret := ret) hy rfl ?_
  intro p e s m args below meth c s₁ B hml hv
  obtain ⟨rfl, rfl, hP, hK, hD, hSt⟩ := hv
  rw [lg_entry_eq]
  exact body p e s m below meth c _ ⟨⟨B.exec, B.bytes, hml, findClass_of_methodNamed B.named, atoms_spec (ws := .code y cc nL ret :: w') B.pre⟩, hK, hSt, fun q hq => Or.inr hq, B.notSynchronized⟩ B.returns s.heap [] _ hP hD va_S.rf (hlv ▸ lv_entry As hlen)
end RP
end
section
-- calls by the kind of their answer; switches; rooms
abbrev rmF (f n : Nat) : Room := { frames := f, cells := 0, slots := 0, locals := n }
abbrev rmX (f n : Nat) : Room := { frames := f, cells := 1, slots := 6, locals := n }
section RQ
variable {p : Program} {l : Launch} {e : Env} {R : Room} {s : State} {m : MethodId} {args : Array Value} {below : List Frame} {meth : Method} {c : Code} {cells slots : Nat} {Q : State → Prop} {G : gG} {A : Nat → Prop} {nL : Nat} {cc : ByteArray} {own : String} {Ts : List Cond} {ws ws' : va_W} {pc : Nat} {lv : List (Nat × Value)} {st : List Value}
theorem r_invSa (h : Fx p m c s args meth own cc nL Ts G A) {y : MethodName} {w : List Cond} {rm : Room} {As st0 : List Value} {x : Value} {idx maxL n : Nat} {bytes : ByteArray} {ret : Option FieldType} (d : decode cc pc = .ok (.invokestatic idx, 3)) (hC : Ct l y w rm G As ws (some x) ws') (cw : CallB R s args own idx y bytes maxL ret w rm 0 0 n ∧ (Cond.static y).before args s = true) (hn : As.length = n) (hst : st0 = As.reverse ++ st) (hcat : (st.map fun v => v.category).sum ≤ 8) (hcs : cells + 0 ≤ R.cells ∧ slots + 0 ≤ R.slots) (hadr : ws'.map Prod.fst = ws.map Prod.fst) (k : Wv p l e R s m args below meth c G A nL cells slots Q ws' (pc + 3) lv (x :: st)) : Wv p l e R s m args below meth c G A nL cells slots Q ws pc lv st0 :=
  r_invS h d hC cw hn hst hcat hcs hadr k
theorem r_invSv (h : Fx p m c s args meth own cc nL Ts G A) {y : MethodName} {w : List Cond} {rm : Room} {As st0 : List Value} {idx maxL n : Nat} {bytes : ByteArray} {ret : Option FieldType} (d : decode cc pc = .ok (.invokestatic idx, 3)) (hC : Ct l y w rm G As ws none ws') (cw : CallB R s args own idx y bytes maxL ret w rm 0 0 n ∧ (Cond.static y).before args s = true) (hn : As.length = n) (hst : st0 = As.reverse ++ st) (hcat : (st.map fun v => v.category).sum ≤ 8) (hcs : cells + 0 ≤ R.cells ∧ slots + 0 ≤ R.slots) (hadr : ws'.map Prod.fst = ws.map Prod.fst) (k : Wv p l e R s m args below meth c G A nL cells slots Q ws' (pc + 3) lv (st)) : Wv p l e R s m args below meth c G A nL cells slots Q ws pc lv st0 :=
  r_invS h d hC cw hn hst hcat hcs hadr k
theorem r_invVa (h : Fx p m c s args meth own cc nL Ts G A) (q0 : Nat) {b ci : Nat} {fs : List Value} {q : vw_C} {y : MethodName} {w : List Cond} {rm : Room} {As st0 : List Value} {x : Value} {idx maxL n : Nat} {bytes : ByteArray} {ret : Option FieldType} (d : decode cc pc = .ok (.invokevirtual idx, 3)) (hC : Ct l y w rm G (.ref b :: As) ws (some x) ws') (cw : CallW R s args own q.1 idx y bytes maxL ret w rm 0 0 n) (he : ws[q0]? = some (b, .inr (ci, fs))) (hc : cls[ci]? = some q) (hn : As.length = n) (hst : st0 = As.reverse ++ .ref b :: st) (hcat : (st.map fun v => v.category).sum ≤ 8) (hcs : cells + 0 ≤ R.cells ∧ slots + 0 ≤ R.slots) (hadr : ws'.map Prod.fst = ws.map Prod.fst) (k : Wv p l e R s m args below meth c G A nL cells slots Q ws' (pc + 3) lv (x :: st)) : Wv p l e R s m args below meth c G A nL cells slots Q ws pc lv st0 :=
  r_invV h q0 d hC cw he hc hn hst hcat hcs hadr k
theorem r_invVv (h : Fx p m c s args meth own cc nL Ts G A) (q0 : Nat) {b ci : Nat} {fs : List Value} {q : vw_C} {y : MethodName} {w : List Cond} {rm : Room} {As st0 : List Value} {idx maxL n : Nat} {bytes : ByteArray} {ret : Option FieldType} (d : decode cc pc = .ok (.invokevirtual idx, 3)) (hC : Ct l y w rm G (.ref b :: As) ws none ws') (cw : CallW R s args own q.1 idx y bytes maxL ret w rm 0 0 n) (he : ws[q0]? = some (b, .inr (ci, fs))) (hc : cls[ci]? = some q) (hn : As.length = n) (hst : st0 = As.reverse ++ .ref b :: st) (hcat : (st.map fun v => v.category).sum ≤ 8) (hcs : cells + 0 ≤ R.cells ∧ slots + 0 ≤ R.slots) (hadr : ws'.map Prod.fst = ws.map Prod.fst) (k : Wv p l e R s m args below meth c G A nL cells slots Q ws' (pc + 3) lv (st)) : Wv p l e R s m args below meth c G A nL cells slots Q ws pc lv st0 :=
  r_invV h q0 d hC cw he hc hn hst hcat hcs hadr k
theorem r_invVNa (h : Fx p m c s args meth own cc nL Ts G A) (q0 : Nat) {b ci : Nat} {fs : List Value} {host : String} {q : vw_C} {y : MethodName} {w : List Cond} {rm : Room} {As st0 : List Value} {x : Value} {idx maxL n : Nat} {bytes : ByteArray} {ret : Option FieldType} (d : decode cc pc = .ok (.invokevirtual idx, 3)) (hC : Ct l y w rm G (.ref b :: As) ws (some x) ws') (cw : va_CN R s args own idx y host bytes maxL ret w rm 0 0 n ∧ (Cond.instanceMethod y).before args s = true ∧ (Cond.selects q.1 y y).before args s = true) (he : ws[q0]? = some (b, .inr (ci, fs))) (hc : cls[ci]? = some q) (hn : As.length = n) (hst : st0 = As.reverse ++ .ref b :: st) (hcat : (st.map fun v => v.category).sum ≤ 8) (hcs : cells + 0 ≤ R.cells ∧ slots + 0 ≤ R.slots) (hadr : ws'.map Prod.fst = ws.map Prod.fst) (k : Wv p l e R s m args below meth c G A nL cells slots Q ws' (pc + 3) lv (x :: st)) : Wv p l e R s m args below meth c G A nL cells slots Q ws pc lv st0 :=
  r_invVN h q0 d hC cw he hc hn hst hcat hcs hadr k
theorem r_invVNv (h : Fx p m c s args meth own cc nL Ts G A) (q0 : Nat) {b ci : Nat} {fs : List Value} {host : String} {q : vw_C} {y : MethodName} {w : List Cond} {rm : Room} {As st0 : List Value} {idx maxL n : Nat} {bytes : ByteArray} {ret : Option FieldType} (d : decode cc pc = .ok (.invokevirtual idx, 3)) (hC : Ct l y w rm G (.ref b :: As) ws none ws') (cw : va_CN R s args own idx y host bytes maxL ret w rm 0 0 n ∧ (Cond.instanceMethod y).before args s = true ∧ (Cond.selects q.1 y y).before args s = true) (he : ws[q0]? = some (b, .inr (ci, fs))) (hc : cls[ci]? = some q) (hn : As.length = n) (hst : st0 = As.reverse ++ .ref b :: st) (hcat : (st.map fun v => v.category).sum ≤ 8) (hcs : cells + 0 ≤ R.cells ∧ slots + 0 ≤ R.slots) (hadr : ws'.map Prod.fst = ws.map Prod.fst) (k : Wv p l e R s m args below meth c G A nL cells slots Q ws' (pc + 3) lv (st)) : Wv p l e R s m args below meth c G A nL cells slots Q ws pc lv st0 :=
  r_invVN h q0 d hC cw he hc hn hst hcat hcs hadr k
theorem r_invSNa (h : Fx p m c s args meth own cc nL Ts G A) {host : String} {y : MethodName} {w : List Cond} {rm : Room} {As st0 : List Value} {x : Value} {idx maxL n : Nat} {bytes : ByteArray} {ret : Option FieldType} (d : decode cc pc = .ok (.invokestatic idx, 3)) (hC : Ct l y w rm G As ws (some x) ws') (cw : va_CN R s args own idx y host bytes maxL ret w rm 0 0 n ∧ (Cond.static y).before args s = true ∧ True) (hn : As.length = n) (hst : st0 = As.reverse ++ st) (hcat : (st.map fun v => v.category).sum ≤ 8) (hcs : cells + 0 ≤ R.cells ∧ slots + 0 ≤ R.slots) (hadr : ws'.map Prod.fst = ws.map Prod.fst) (k : Wv p l e R s m args below meth c G A nL cells slots Q ws' (pc + 3) lv (x :: st)) : Wv p l e R s m args below meth c G A nL cells slots Q ws pc lv st0 :=
  r_invSN h d hC cw hn hst hcat hcs hadr k
theorem r_invSNv (h : Fx p m c s args meth own cc nL Ts G A) {host : String} {y : MethodName} {w : List Cond} {rm : Room} {As st0 : List Value} {idx maxL n : Nat} {bytes : ByteArray} {ret : Option FieldType} (d : decode cc pc = .ok (.invokestatic idx, 3)) (hC : Ct l y w rm G As ws none ws') (cw : va_CN R s args own idx y host bytes maxL ret w rm 0 0 n ∧ (Cond.static y).before args s = true ∧ True) (hn : As.length = n) (hst : st0 = As.reverse ++ st) (hcat : (st.map fun v => v.category).sum ≤ 8) (hcs : cells + 0 ≤ R.cells ∧ slots + 0 ≤ R.slots) (hadr : ws'.map Prod.fst = ws.map Prod.fst) (k : Wv p l e R s m args below meth c G A nL cells slots Q ws' (pc + 3) lv (st)) : Wv p l e R s m args below meth c G A nL cells slots Q ws pc lv st0 :=
  r_invSN h d hC cw hn hst hcat hcs hadr k
theorem r_tIn (h : Fx p m c s args meth own cc nL Ts G A) {dflt lo hi off : Int} {offs : Array Int} {len tgt : Nat} {x : Int32} (d : decode cc pc = .ok (.tableswitch dflt lo hi offs, len)) (h1 : ¬ x.toInt < lo) (h2 : ¬ hi < x.toInt) (ho : offs[(x.toInt - lo).toNat]? = some off) (ht : (pc : Int) + off = (tgt : Int)) (k : Wv p l e R s m args below meth c G A nL cells slots Q ws tgt lv st) : Wv p l e R s m args below meth c G A nL cells slots Q ws pc lv (.int x :: st) :=
  fun H locs ls hP hD hS hl => lv_tableIn h.1.1 h.1.2.1 d h1 h2 ho ht (k H locs ls hP hD hS hl)
theorem r_tOut (h : Fx p m c s args meth own cc nL Ts G A) {dflt lo hi : Int} {offs : Array Int} {len tgt : Nat} {x : Int32} (d : decode cc pc = .ok (.tableswitch dflt lo hi offs, len)) (h1 : x.toInt < lo ∨ hi < x.toInt) (ht : (pc : Int) + dflt = (tgt : Int)) (k : Wv p l e R s m args below meth c G A nL cells slots Q ws tgt lv st) : Wv p l e R s m args below meth c G A nL cells slots Q ws pc lv (.int x :: st) :=
  fun H locs ls hP hD hS hl => lv_tableOut h.1.1 h.1.2.1 d h1 ht (k H locs ls hP hD hS hl)
end RQ
section RC2
variable {p : Program} {l : Launch} {R : Room} {s : State} {m : MethodId} {args : Array Value} {meth : Method} {c : Code} {G : gG} {A : Nat → Prop} {nL : Nat} {cc : ByteArray} {own : String} {wd : Cond}
theorem Fx.nw (h : Fx p m c s args meth own cc nL (wd :: TT) G A) {w : Cond} (hw : w ∈ nws) : va_Nw w s := h.2.2.1.2.2.2.2.1 w hw
theorem r_cn (h : Fx p m c s args meth own cc nL (wd :: TT) G A) {y : MethodName} {host : String} {bytes : ByteArray} {maxL idx n mc ms : Nat} {ret : Option FieldType} {rm : Room} (hcode : Cond.code y bytes maxL ret ∈ TT) (hlink : Cond.methodLinkNest own idx y host ∈ nws) (hini : Cond.initialized y.cls ∈ TT) (hd : y.cls ≠ "java/lang/invoke/MethodHandle" ∧ y.cls ≠ "java/lang/invoke/VarHandle" ∧ (parseMethodDescriptor y.desc).map (fun d => d.parameters.length) = some n) (hR : rm.frames + 1 ≤ R.frames ∧ 8 + (maxL + 11) + rm.locals ≤ R.locals) (hrc : rm.cells = mc) (hrs : rm.slots = ms) : va_CN R s args own idx y host bytes maxL ret (.code y bytes maxL ret :: TT) rm mc ms n :=
  va_cnB n h.1.2.2.2.2 (gi_TT hcode) rfl hrc hrs (h.nw hlink) (h.1.2.2.2.2 _ (List.mem_cons_of_mem _ hini)) hd hR
theorem r_cVN (h : Fx p m c s args meth own cc nL (wd :: TT) G A) {y : MethodName} {C host : String} {bytes : ByteArray} {maxL idx n mc ms : Nat} {ret : Option FieldType} {rm : Room} (hcode : Cond.code y bytes maxL ret ∈ TT) (hlink : Cond.methodLinkNest own idx y host ∈ nws) (hini : Cond.initialized y.cls ∈ TT) (hin : Cond.instanceMethod y ∈ TT) (hse : Cond.selects C y y ∈ TT) (hd : y.cls ≠ "java/lang/invoke/MethodHandle" ∧ y.cls ≠ "java/lang/invoke/VarHandle" ∧ (parseMethodDescriptor y.desc).map (fun d => d.parameters.length) = some n) (hR : rm.frames + 1 ≤ R.frames ∧ 8 + (maxL + 11) + rm.locals ≤ R.locals) (hrc : rm.cells = mc) (hrs : rm.slots = ms) : va_CN R s args own idx y host bytes maxL ret (.code y bytes maxL ret :: TT) rm mc ms n ∧ (Cond.instanceMethod y).before args s = true ∧ (Cond.selects C y y).before args s = true :=
  ⟨r_cn h hcode hlink hini hd hR hrc hrs, h.1.2.2.2.2 _ (List.mem_cons_of_mem _ hin), h.1.2.2.2.2 _ (List.mem_cons_of_mem _ hse)⟩
theorem r_cSN (h : Fx p m c s args meth own cc nL (wd :: TT) G A) {y : MethodName} {host : String} {bytes : ByteArray} {maxL idx n mc ms : Nat} {ret : Option FieldType} {rm : Room} (hcode : Cond.code y bytes maxL ret ∈ TT) (hlink : Cond.methodLinkNest own idx y host ∈ nws) (hini : Cond.initialized y.cls ∈ TT) (hst : Cond.static y ∈ TT) (hd : y.cls ≠ "java/lang/invoke/MethodHandle" ∧ y.cls ≠ "java/lang/invoke/VarHandle" ∧ (parseMethodDescriptor y.desc).map (fun d => d.parameters.length) = some n) (hR : rm.frames + 1 ≤ R.frames ∧ 8 + (maxL + 11) + rm.locals ≤ R.locals) (hrc : rm.cells = mc) (hrs : rm.slots = ms) : va_CN R s args own idx y host bytes maxL ret (.code y bytes maxL ret :: TT) rm mc ms n ∧ (Cond.static y).before args s = true ∧ True :=
  ⟨r_cn h hcode hlink hini hd hR hrc hrs, h.1.2.2.2.2 _ (List.mem_cons_of_mem _ hst), trivial⟩
end RC2
end
section
-- the worlds: the class's (cw) and the reference's (mw)
def bI (b : Bool) : Int32 := if b = true then 1 else 0
theorem bI_nar (b : Bool) : vp_nar .boolean (bI b) = bI b := by cases b <;> rfl
theorem bI_nrw (b : Bool) : narrow .boolean (.int (bI b)) = .int (bI b) := by cases b <;> rfl
theorem bI_fit (b : Bool) : fits .boolean (.int (bI b)) = true := by cases b <;> rfl
theorem bI_0 (b : Bool) : bI b = 0 ↔ b = false := by cases b <;> decide
theorem bI_inj {a b : Bool} : bI a = bI b ↔ a = b := by cases a <;> cases b <;> decide
abbrev rwL (G : gG) (f : Nat → Int64) : va_E := .inl (G.2 1, 16, .inr (.inl f))
abbrev rwZ (G : gG) (f : Nat → Bool) : va_E := .inl (G.2 2, 1024, .inl (fun x => bI (f x)))
def cw (G : gG) (a : Nat → Nat) (hd : Nat → Nat → Int64) (wk sp : Nat → Int64) (ct : Int32) (ky nm : Nat → Int32) : va_W :=
  (a 0, .inr (0, [.ref (a 1), .ref (a 2), .ref (a 3), .ref (a 4)])) :: (a 1, .inl (G.2 3, 16, .inr (.inr (.inr (.inr (fun i => if i < 16 then some (a (7 + i)) else none)))))) ::
  (a 2, rwL G wk) :: (a 3, rwL G sp) :: (a 4, .inr (1, [.ref (a 5), .ref (a 6), .int ct])) :: (a 5, .inl (G.2 0, 4096, .inl ky)) :: (a 6, .inl (G.2 0, 1024, .inl nm)) ::
  (List.range 16).map (fun i => (a (7 + i), rwL G (hd i)))
def mw (G : gG) (b : Nat → Nat) (th : Int32) (rg : Nat → Nat → Bool) (wk : Nat → Bool) (fi fa : Nat → Int32) : va_W :=
  (b 0, .inr (2, [.int th, .ref (b 1), .ref (b 2), .ref (b 3), .ref (b 4)])) :: (b 1, .inl (G.2 4, 16, .inr (.inr (.inr (.inr (fun i => if i < 16 then some (b (5 + i)) else none)))))) ::
  (b 2, rwZ G wk) :: (b 3, .inl (G.2 0, 16384, .inl fi)) :: (b 4, .inl (G.2 0, 16384, .inl fa)) ::
  (List.range 16).map (fun i => (b (5 + i), rwZ G (rg i)))
theorem rg_get {α : Type} (f : Nat → α) {r n : Nat} (hr : r < n) : ((List.range n).map f)[r]? = some (f r) := by
  rw [List.getElem?_map, List.getElem?_range hr]; rfl
theorem rg_set {α : Type} (f g : Nat → α) {r n : Nat} (hg : ∀ i, i ≠ r → g i = f i) : ((List.range n).map f).set r (g r) = (List.range n).map g := by
  apply List.ext_getElem?
  intro i
  rw [List.getElem?_set, List.length_map, List.length_range]
  by_cases h : r = i
  · subst h
    rw [if_pos rfl]
    by_cases h2 : r < n
    · rw [if_pos h2, rg_get g h2]
    · rw [if_neg h2]
      symm
      exact List.getElem?_eq_none (by simp; omega)
  · rw [if_neg h]
    by_cases h2 : i < n
    · rw [rg_get f h2, rg_get g h2, hg i (fun q => h q.symm)]
    · rw [List.getElem?_eq_none (by simp; omega), List.getElem?_eq_none (by simp; omega)]
section CW
variable {G : gG} {a : Nat → Nat} {hd : Nat → Nat → Int64} {wk sp : Nat → Int64} {ct : Int32} {ky nm : Nat → Int32}
theorem cw_0 : (cw G a hd wk sp ct ky nm)[0]? = some (a 0, .inr (0, [.ref (a 1), .ref (a 2), .ref (a 3), .ref (a 4)])) := rfl
theorem cw_1 : (cw G a hd wk sp ct ky nm)[1]? = some (a 1, .inl (G.2 3, 16, .inr (.inr (.inr (.inr (fun i => if i < 16 then some (a (7 + i)) else none)))))) := rfl
theorem cw_2 : (cw G a hd wk sp ct ky nm)[2]? = some (a 2, rwL G wk) := rfl
theorem cw_3 : (cw G a hd wk sp ct ky nm)[3]? = some (a 3, rwL G sp) := rfl
theorem cw_4 : (cw G a hd wk sp ct ky nm)[4]? = some (a 4, .inr (1, [.ref (a 5), .ref (a 6), .int ct])) := rfl
theorem cw_5 : (cw G a hd wk sp ct ky nm)[5]? = some (a 5, .inl (G.2 0, 4096, .inl ky)) := rfl
theorem cw_6 : (cw G a hd wk sp ct ky nm)[6]? = some (a 6, .inl (G.2 0, 1024, .inl nm)) := rfl
theorem cw_r {r : Nat} (hr : r < 16) : (cw G a hd wk sp ct ky nm)[7 + r]? = some (a (7 + r), rwL G (hd r)) := by
  rw [Nat.add_comm 7 r]
  exact rg_get (fun i => (a (7 + i), rwL G (hd i))) hr |>.trans (by rw [Nat.add_comm r 7])
theorem cw_s2 {f : Nat → Int64} : (cw G a hd wk sp ct ky nm).set 2 (a 2, rwL G f) = cw G a hd f sp ct ky nm := rfl
theorem cw_s3 {f : Nat → Int64} : (cw G a hd wk sp ct ky nm).set 3 (a 3, rwL G f) = cw G a hd wk f ct ky nm := rfl
theorem cw_s4 {z : Int32} : (cw G a hd wk sp ct ky nm).set 4 (a 4, .inr (1, [.ref (a 5), .ref (a 6), .int z])) = cw G a hd wk sp z ky nm := rfl
theorem cw_s5 {f : Nat → Int32} : (cw G a hd wk sp ct ky nm).set 5 (a 5, .inl (G.2 0, 4096, .inl f)) = cw G a hd wk sp ct f nm := rfl
theorem cw_s6 {f : Nat → Int32} : (cw G a hd wk sp ct ky nm).set 6 (a 6, .inl (G.2 0, 1024, .inl f)) = cw G a hd wk sp ct ky f := rfl
theorem cw_sr {r : Nat} {f : Nat → Int64} : (cw G a hd wk sp ct ky nm).set (7 + r) (a (7 + r), rwL G f) = cw G a (va_up hd r f) wk sp ct ky nm := by
  rw [Nat.add_comm 7 r]
  show _ :: _ :: _ :: _ :: _ :: _ :: _ :: ((List.range 16).map (fun i => (a (7 + i), rwL G (hd i)))).set r (a (r + 7), rwL G f) = _
  have h := rg_set (n := 16) (r := r) (fun i => (a (7 + i), rwL G (hd i))) (fun i => (a (7 + i), rwL G (va_up hd r f i))) (fun i hi => by simp [va_up, hi])
  have h2 : va_up hd r f r = f := by simp [va_up]
  simp only [h2] at h
  rw [Nat.add_comm r 7, h]
  rfl
theorem cw_adr {hd' : Nat → Nat → Int64} {wk' sp' : Nat → Int64} {ct' : Int32} {ky' nm' : Nat → Int32} : (cw G a hd' wk' sp' ct' ky' nm').map Prod.fst = (cw G a hd wk sp ct ky nm).map Prod.fst := rfl
theorem cw_o {r : Nat} (hr : r < 16) : (fun i => if i < 16 then some (a (7 + i)) else none) r = some (a (7 + r)) := if_pos hr
end CW
section MW
variable {G : gG} {b : Nat → Nat} {th : Int32} {rg : Nat → Nat → Bool} {wk : Nat → Bool} {fi fa : Nat → Int32}
theorem mw_0 : (mw G b th rg wk fi fa)[0]? = some (b 0, .inr (2, [.int th, .ref (b 1), .ref (b 2), .ref (b 3), .ref (b 4)])) := rfl
theorem mw_1 : (mw G b th rg wk fi fa)[1]? = some (b 1, .inl (G.2 4, 16, .inr (.inr (.inr (.inr (fun i => if i < 16 then some (b (5 + i)) else none)))))) := rfl
theorem mw_2 : (mw G b th rg wk fi fa)[2]? = some (b 2, rwZ G wk) := rfl
theorem mw_3 : (mw G b th rg wk fi fa)[3]? = some (b 3, .inl (G.2 0, 16384, .inl fi)) := rfl
theorem mw_4 : (mw G b th rg wk fi fa)[4]? = some (b 4, .inl (G.2 0, 16384, .inl fa)) := rfl
theorem mw_r {r : Nat} (hr : r < 16) : (mw G b th rg wk fi fa)[5 + r]? = some (b (5 + r), rwZ G (rg r)) := by
  rw [Nat.add_comm 5 r]
  exact rg_get (fun i => (b (5 + i), rwZ G (rg i))) hr |>.trans (by rw [Nat.add_comm r 5])
theorem mw_s0 {z : Int32} : (mw G b th rg wk fi fa).set 0 (b 0, .inr (2, [.int z, .ref (b 1), .ref (b 2), .ref (b 3), .ref (b 4)])) = mw G b z rg wk fi fa := rfl
theorem mw_s2 {f : Nat → Bool} : (mw G b th rg wk fi fa).set 2 (b 2, rwZ G f) = mw G b th rg f fi fa := rfl
theorem mw_s3 {f : Nat → Int32} : (mw G b th rg wk fi fa).set 3 (b 3, .inl (G.2 0, 16384, .inl f)) = mw G b th rg wk f fa := rfl
theorem mw_s4 {f : Nat → Int32} : (mw G b th rg wk fi fa).set 4 (b 4, .inl (G.2 0, 16384, .inl f)) = mw G b th rg wk fi f := rfl
theorem mw_sr {r : Nat} {f : Nat → Bool} : (mw G b th rg wk fi fa).set (5 + r) (b (5 + r), rwZ G f) = mw G b th (va_up rg r f) wk fi fa := by
  rw [Nat.add_comm 5 r]
  show _ :: _ :: _ :: _ :: _ :: ((List.range 16).map (fun i => (b (5 + i), rwZ G (rg i)))).set r (b (r + 5), rwZ G f) = _
  have h := rg_set (n := 16) (r := r) (fun i => (b (5 + i), rwZ G (rg i))) (fun i => (b (5 + i), rwZ G (va_up rg r f i))) (fun i hi => by simp [va_up, hi])
  have h2 : va_up rg r f r = f := by simp [va_up]
  simp only [h2] at h
  rw [Nat.add_comm r 5, h]
  rfl
theorem mw_adr {th' : Int32} {rg' : Nat → Nat → Bool} {wk' : Nat → Bool} {fi' fa' : Nat → Int32} : (mw G b th' rg' wk' fi' fa').map Prod.fst = (mw G b th rg wk fi fa).map Prod.fst := rfl
theorem mw_o {r : Nat} (hr : r < 16) : (fun i => if i < 16 then some (b (5 + i)) else none) r = some (b (5 + r)) := if_pos hr
theorem upd_b {f : Nat → Bool} {j : Nat} {v : Bool} : upd (fun x => bI (f x)) j (bI v) = fun x => bI (va_up f j v x) := by
  funext x
  unfold upd va_up
  by_cases h : x = j <;> simp [h]
end MW
/-- a row that is written from the front -/
def mix {α : Type} (i : Nat) (g f : Nat → α) : Nat → α := fun j => if j < i then g j else f j
theorem mix_0 {α : Type} (g f : Nat → α) : mix 0 g f = f := by funext j; simp [mix]
theorem mix_up {α : Type} (i : Nat) (g f : Nat → α) : va_up (mix i g f) i (g i) = mix (i + 1) g f := by
  funext j
  unfold va_up mix
  by_cases h : j = i
  · subst h; simp
  · by_cases h2 : j < i
    · simp [h, h2, Nat.lt_succ_of_lt h2]
    · simp [h, h2, show ¬ j < i + 1 by omega]
theorem mix_updL (i : Nat) (g f : Nat → Int64) : vp_updL (mix i g f) i (g i) = mix (i + 1) g f := mix_up i g f
theorem mix_upd (i : Nat) (g f : Nat → Int32) : upd (mix i g f) i (g i) = mix (i + 1) g f := mix_up i g f
theorem va_up2 {α : Type} (f : Nat → α) (k : Nat) (x y : α) : va_up (va_up f k x) k y = va_up f k y := by
  funext j
  unfold va_up
  by_cases h : j = k <;> simp [h]
theorem va_up_s {α : Type} (f : Nat → α) (k : Nat) (x : α) : va_up f k x k = x := by simp [va_up]
theorem va_up_n {α : Type} (f : Nat → α) {k j : Nat} (x : α) (h : j ≠ k) : va_up f k x j = f j := by simp [va_up, h]
theorem va_up_id {α : Type} (f : Nat → α) (k : Nat) : va_up f k (f k) = f := by
  funext j
  unfold va_up
  by_cases h : j = k
  · rw [if_pos h, h]
  · rw [if_neg h]
/-- a loop that counts up to n -/
theorem up_to (n : Nat) {P : Nat → Prop} (hn : P n) (hs : ∀ i, i < n → P (i + 1) → P i) : P 0 := by
  have h : ∀ d, d ≤ n → P (n - d) := by
    intro d
    induction d with
    | zero => intro _; exact hn
    | succ d ih =>
      intro hd
      refine hs (n - (d + 1)) (by omega) ?_
      rw [show n - (d + 1) + 1 = n - d by omega]
      exact ih (by omega)
  have h0 := h n (Nat.le_refl _)
  rwa [Nat.sub_self] at h0
end
section
-- bits of a long, and what the words of a row say of its function
def lb (w : Int64) (i : Nat) : Bool := w.toBitVec.getLsbD i
theorem lb_ext {x y : Int64} (h : ∀ i, i < 64 → lb x i = lb y i) : x = y := Int64.toBitVec_inj.mp (BitVec.eq_of_getLsbD_eq (fun i hi => h i hi))
theorem lb_and (x y : Int64) (i : Nat) : lb (x &&& y) i = (lb x i && lb y i) := by unfold lb; rw [Int64.toBitVec_and, BitVec.getLsbD_and]
theorem lb_or (x y : Int64) (i : Nat) : lb (x ||| y) i = (lb x i || lb y i) := by unfold lb; rw [Int64.toBitVec_or, BitVec.getLsbD_or]
theorem lb_xor (x y : Int64) (i : Nat) : lb (x ^^^ y) i = (lb x i ^^ lb y i) := by unfold lb; rw [Int64.toBitVec_xor, BitVec.getLsbD_xor]
theorem lb_big (x : Int64) {i : Nat} (h : 64 ≤ i) : lb x i = false := BitVec.getLsbD_of_ge _ _ h
theorem lb_m1 : ∀ i, i < 64 → lb (-1) i = true := by decide +kernel
theorem lb_0 (i : Nat) : lb 0 i = false := BitVec.getLsbD_zero
theorem lb_not (x : Int64) {i : Nat} (hi : i < 64) : lb (x ^^^ (-1)) i = !lb x i := by rw [lb_xor, lb_m1 i hi]; cases lb x i <;> rfl
theorem sl64 : ∀ n, n < 64 → (((nI n).toInt64 &&& 63).toBitVec.smod 64).toNat = n := by decide +kernel
theorem su64 : ∀ n, n < 64 → (((nI n).toInt64.toUInt64 &&& Int64.toUInt64 63).toBitVec % 64).toNat = n := by decide +kernel
theorem lb_shl (n : Nat) (hn : n < 64) (x : Int64) {i : Nat} (hi : i < 64) : lb (x <<< ((nI n).toInt64 &&& 63)) i = (decide (n ≤ i) && lb x (i - n)) := by
  unfold lb
  rw [Int64.toBitVec_shiftLeft]
  show (x.toBitVec <<< (((nI n).toInt64 &&& 63).toBitVec.smod 64).toNat).getLsbD i = _
  rw [sl64 n hn, BitVec.getLsbD_shiftLeft]
  rcases Nat.lt_or_ge i n with h | h
  · simp [h, Nat.not_le.mpr h]
  · simp [hi, h, Nat.not_lt.mpr h]
theorem lb_shr (n : Nat) (hn : n < 64) (x : Int64) (i : Nat) : lb ((x.toUInt64 >>> ((nI n).toInt64.toUInt64 &&& Int64.toUInt64 63)).toInt64) i = lb x (n + i) := by
  show (x.toUInt64 >>> ((nI n).toInt64.toUInt64 &&& Int64.toUInt64 63)).toBitVec.getLsbD i = x.toUInt64.toBitVec.getLsbD (n + i)
  rw [UInt64.toBitVec_shiftRight]
  show (x.toUInt64.toBitVec >>> (((nI n).toInt64.toUInt64 &&& Int64.toUInt64 63).toBitVec % 64).toNat).getLsbD i = _
  rw [su64 n hn, BitVec.getLsbD_ushiftRight]
/-- what a row says at x -/
def sv (r : Nat → Int64) (x : Nat) : Bool := lb (r (x / 64)) (x % 64)
theorem lb_tp : ∀ v, v < 6 → ∀ i, i < 64 → lb (tp v) i = i.testBit v := by decide +kernel
/-- word j of variable v -/
def vW (v j : Nat) : Int64 := if v < 6 then tp v else if j.testBit (v - 6) = true then -1 else 0
/-- word j of the row with v turned -/
def tW (r : Nat → Int64) (v j : Nat) : Int64 :=
  if v < 6 then ((r j &&& tp v).toUInt64 >>> ((nI (2 ^ v)).toInt64.toUInt64 &&& Int64.toUInt64 63)).toInt64 ||| ((r j &&& (tp v ^^^ (-1))) <<< ((nI (2 ^ v)).toInt64 &&& 63)) else r (j ^^^ 2 ^ (v - 6))
/-- chosen bit by bit -/
def cW (w t f : Int64) : Int64 := (w &&& t) ||| ((w ^^^ (-1)) &&& f)
/-- word j of the row with v fixed -/
def fW (r : Nat → Int64) (v : Nat) (b : Bool) (j : Nat) : Int64 := cW (if b = true then vW v j else vW v j ^^^ (-1)) (r j) (tW r v j)
def jW (k : Nat) (a b : Int64) : Int64 := match k with
  | 0 => a &&& b
  | 1 => a ||| b
  | 2 => a ^^^ b
  | 3 => (a ^^^ (-1)) ||| b
  | _ => a ^^^ (-1)
def jB (k : Nat) (a b : Bool) : Bool := match k with
  | 0 => a && b
  | 1 => a || b
  | 2 => a ^^ b
  | 3 => !a || b
  | _ => !a
theorem sv_vW {v x : Nat} (hv : v < 10) (hx : x < 1024) : sv (vW v) x = x.testBit v := by
  unfold sv vW
  have hm : x % 64 < 64 := Nat.mod_lt _ (by decide)
  by_cases h : v < 6
  · rw [if_pos h, lb_tp v h _ hm, show (64 : Nat) = 2 ^ 6 from rfl, Nat.testBit_mod_two_pow]
    simp [h]
  · rw [if_neg h, show x / 64 = x / 2 ^ 6 from rfl, Nat.testBit_div_two_pow, show v - 6 + 6 = v by omega]
    by_cases hb : x.testBit v = true
    · rw [if_pos hb, hb, lb_m1 _ hm]
    · rw [if_neg hb, lb_0]
      cases h9 : x.testBit v
      · rfl
      · exact absurd h9 hb
theorem tw_0 : ∀ v, v < 6 → ∀ i, i < 64 → i.testBit v = false → 2 ^ v < 64 ∧ 2 ^ v + i < 64 ∧ (2 ^ v + i).testBit v = true ∧ i ^^^ 2 ^ v = 2 ^ v + i ∧ (2 ^ v ≤ i → (i - 2 ^ v).testBit v = true) := by decide +kernel
theorem tw_1 : ∀ v, v < 6 → ∀ i, i < 64 → i.testBit v = true → 2 ^ v < 64 ∧ 2 ^ v ≤ i ∧ (i - 2 ^ v).testBit v = false ∧ i ^^^ 2 ^ v = i - 2 ^ v ∧ (2 ^ v + i < 64 → (2 ^ v + i).testBit v = false) := by decide +kernel
theorem pw64 : ∀ v, v < 6 → 2 ^ v % 64 = 2 ^ v ∧ 2 ^ v / 64 = 0 := by decide +kernel
theorem pw64' : ∀ v, v < 10 → 6 ≤ v → 2 ^ v % 64 = 0 ∧ 2 ^ v / 64 = 2 ^ (v - 6) := by decide +kernel
theorem lb_tW {r : Nat → Int64} {v j i : Nat} (hv : v < 6) (hi : i < 64) : lb (tW r v j) i = lb (r j) (i ^^^ 2 ^ v) := by
  unfold tW
  rw [if_pos hv, lb_or]
  have hsub : i - 2 ^ v < 64 := Nat.lt_of_le_of_lt (Nat.sub_le _ _) hi
  cases hb : i.testBit v
  · obtain ⟨h1, h2, h3, h4, h5⟩ := tw_0 v hv i hi hb
    rw [lb_shr _ h1, lb_shl _ h1 _ hi, lb_and, lb_tp v hv _ h2, h3, h4, Bool.and_true]
    by_cases hle : 2 ^ v ≤ i
    · rw [lb_and, lb_not _ hsub, lb_tp v hv _ hsub, h5 hle]
      simp
    · simp [hle]
  · obtain ⟨h1, h2, h3, h4, h5⟩ := tw_1 v hv i hi hb
    rw [lb_shr _ h1, lb_shl _ h1 _ hi, lb_and, lb_and, lb_not _ hsub, lb_tp v hv (i - 2 ^ v) hsub, h3, h4]
    by_cases h6 : 2 ^ v + i < 64
    · rw [lb_tp v hv _ h6, h5 h6]
      simp [h2]
    · rw [lb_big _ (Nat.le_of_not_lt h6)]
      simp [h2]
theorem sv_tW {r : Nat → Int64} {v x : Nat} (hv : v < 10) : sv (tW r v) x = sv r (x ^^^ 2 ^ v) := by
  have hm : x % 64 < 64 := Nat.mod_lt _ (by decide)
  have hd : (x ^^^ 2 ^ v) / 64 = x / 64 ^^^ 2 ^ v / 64 := Nat.xor_div_two_pow (n := 6)
  have hr : (x ^^^ 2 ^ v) % 64 = x % 64 ^^^ 2 ^ v % 64 := Nat.xor_mod_two_pow (n := 6)
  unfold sv
  rw [hd, hr]
  by_cases h : v < 6
  · rw [lb_tW h hm, (pw64 v h).1, (pw64 v h).2, Nat.xor_zero]
  · rw [(pw64' v hv (by omega)).1, (pw64' v hv (by omega)).2, Nat.xor_zero]
    unfold tW
    rw [if_neg h]
theorem lb_cW (w t f : Int64) {i : Nat} (hi : i < 64) : lb (cW w t f) i = if lb w i = true then lb t i else lb f i := by
  unfold cW
  rw [lb_or, lb_and, lb_and, lb_not _ hi]
  cases lb w i <;> simp
theorem sv_cW (w t f : Nat → Int64) (x : Nat) : sv (fun j => cW (w j) (t j) (f j)) x = if sv w x = true then sv t x else sv f x :=
  lb_cW _ _ _ (Nat.mod_lt _ (by decide))
theorem lb_jW (k : Nat) (a b : Int64) {i : Nat} (hi : i < 64) : lb (jW k a b) i = jB k (lb a i) (lb b i) := by
  rcases k with _ | _ | _ | _ | k
  · exact lb_and _ _ _
  · exact lb_or _ _ _
  · exact lb_xor _ _ _
  · show lb ((a ^^^ (-1)) ||| b) i = _
    rw [lb_or, lb_not _ hi]
    rfl
  · show lb (a ^^^ (-1)) i = _
    rw [lb_not _ hi]
    rfl
theorem sv_jW (k : Nat) (a b : Nat → Int64) (x : Nat) : sv (fun j => jW k (a j) (b j)) x = jB k (sv a x) (sv b x) :=
  lb_jW _ _ _ (Nat.mod_lt _ (by decide))
theorem sv_fW {r : Nat → Int64} {v x : Nat} {b : Bool} (hv : v < 10) (hx : x < 1024) : sv (fW r v b) x = if x.testBit v = b then sv r x else sv r (x ^^^ 2 ^ v) := by
  have hm : x % 64 < 64 := Nat.mod_lt _ (by decide)
  have h1 := sv_vW hv hx
  have h2 := sv_tW (r := r) (x := x) hv
  unfold sv at h1 h2 ⊢
  unfold fW
  rw [lb_cW _ _ _ hm, h2]
  cases b
  · rw [if_neg (by decide : ¬ (false = true)), lb_not _ hm, h1]
    cases x.testBit v <;> simp
  · rw [if_pos rfl, h1]
end
section
-- ints as naturals: and, or, xor, shifts, one bit (s_l, nx_and, nx_xor: laws/BITS.to-paste)
theorem nI_inc (i : Nat) : nI i + Int32.ofInt 1 = nI (i + 1) := nI_1 i
theorem s_l : ∀ n, n < 32 → ((nI n &&& 31).toBitVec.smod 32).toNat = n := by decide +kernel
theorem s_u : ∀ n, n < 32 → (((nI n).toUInt32 &&& Int32.toUInt32 31).toBitVec % 32).toNat = n := by decide +kernel
theorem nx_and (a b : Nat) : nI a &&& nI b = nI (a &&& b) := by
  apply Int32.toBitVec_inj.1
  show BitVec.ofNat 32 a &&& BitVec.ofNat 32 b = BitVec.ofNat 32 (a &&& b)
  apply BitVec.eq_of_getLsbD_eq
  intro i hi
  simp [hi]
theorem nx_xor (a b : Nat) : nI a ^^^ nI b = nI (a ^^^ b) := by
  apply Int32.toBitVec_inj.1
  show BitVec.ofNat 32 a ^^^ BitVec.ofNat 32 b = BitVec.ofNat 32 (a ^^^ b)
  apply BitVec.eq_of_getLsbD_eq
  intro i hi
  simp [hi]
theorem nx_or (a b : Nat) : nI a ||| nI b = nI (a ||| b) := by
  apply Int32.toBitVec_inj.1
  show BitVec.ofNat 32 a ||| BitVec.ofNat 32 b = BitVec.ofNat 32 (a ||| b)
  apply BitVec.eq_of_getLsbD_eq
  intro i hi
  simp [hi]
theorem nx_m1 : (-1 : Int32) = nI 4294967295 := by decide
theorem nx_shr {x v : Nat} (hx : x < 2 ^ 31) (hv : v < 32) : nI x >>> (nI v &&& 31) = nI (x / 2 ^ v) := pk_shrN hx _ v (s_l v hv)
theorem nx_shl {x v : Nat} (hv : v < 32) (hx : x * 2 ^ v < 2 ^ 32) : nI x <<< (nI v &&& 31) = nI (x * 2 ^ v) := pk_shlN _ v (s_l v hv) hx
theorem nx_ushr {x v : Nat} (hx : x < 2 ^ 32) (hv : v < 32) : ((nI x).toUInt32 >>> ((nI v).toUInt32 &&& Int32.toUInt32 31)).toInt32 = nI (x / 2 ^ v) := pk_ushrN hx _ v (s_u v hv)
theorem nx_b1 {x : Nat} (hx : x < 2 ^ 32) : nI x &&& nI 1 = nI (x % 2) := pk_andN hx 1 (by decide)
theorem nx_63 {x : Nat} (hx : x < 2 ^ 32) : nI x &&& nI 63 = nI (x % 64) := pk_andN hx 6 (by decide)
theorem bI_nI (b : Bool) : bI b = nI (if b = true then 1 else 0) := by cases b <;> decide
theorem nI_bit (x v : Nat) : nI (x / 2 ^ v % 2) = bI (x.testBit v) := by
  rw [Nat.testBit_eq_decide_div_mod_eq]
  rcases Nat.mod_two_eq_zero_or_one (x / 2 ^ v) with h | h
  · rw [h]; decide
  · rw [h]; decide
/-- bit v of x, as both sides reckon it -/
theorem nx_bit {x v : Nat} (hx : x < 2 ^ 31) (hv : v < 32) : (nI x >>> (nI v &&& 31)) &&& nI 1 = bI (x.testBit v) := by
  rw [nx_shr hx hv, nx_b1 (Nat.lt_of_le_of_lt (Nat.div_le_self _ _) (Nat.lt_trans hx (by decide))), nI_bit]
theorem pw10 : ∀ v, v < 10 → 2 ^ v < 1024 := by decide
theorem pw31 : ∀ v, v < 31 → 2 ^ v < 2147483648 := by decide
theorem nx_pw {v : Nat} (hv : v < 31) : nI 1 <<< (nI v &&& 31) = nI (2 ^ v) := by
  rw [nx_shl (by omega) (by have := pw31 v hv; omega), Nat.one_mul]
/-- x with bit v set to b -/
def sb (x v : Nat) (b : Bool) : Nat := if x.testBit v = b then x else x ^^^ 2 ^ v
theorem sb_lt {x v : Nat} {b : Bool} (hx : x < 1024) (hv : v < 10) : sb x v b < 1024 := by
  unfold sb
  split
  · exact hx
  · exact Nat.xor_lt_two_pow (n := 10) hx (pw10 v hv)
theorem sb_or (x v : Nat) : x ||| 2 ^ v = sb x v true := by
  unfold sb
  apply Nat.eq_of_testBit_eq
  intro i
  by_cases h : x.testBit v = true
  · rw [if_pos h, Nat.testBit_or, Nat.testBit_two_pow]
    by_cases e : v = i
    · subst e; simp [h]
    · simp [e]
  · rw [if_neg h, Nat.testBit_or, Nat.testBit_xor, Nat.testBit_two_pow]
    by_cases e : v = i
    · subst e; simp [h]
    · simp [e]
theorem sb_and {x v : Nat} (hx : x < 2 ^ 32) : x &&& (2 ^ v ^^^ 4294967295) = sb x v false := by
  unfold sb
  apply Nat.eq_of_testBit_eq
  intro i
  have h32 : (4294967295 : Nat).testBit i = decide (i < 32) := by
    rw [show (4294967295 : Nat) = 2 ^ 32 - 1 from rfl, Nat.testBit_two_pow_sub_one]
  by_cases hi : i < 32
  · by_cases h : x.testBit v = false
    · rw [if_pos h, Nat.testBit_and, Nat.testBit_xor, Nat.testBit_two_pow, h32]
      by_cases e : v = i
      · subst e; simp [h]
      · simp [e, hi]
    · rw [if_neg h, Nat.testBit_and, Nat.testBit_xor, Nat.testBit_xor, Nat.testBit_two_pow, h32]
      by_cases e : v = i
      · subst e; simp [hi] at h ⊢; simp [h]
      · simp [e, hi]
  · have hx0 : x.testBit i = false := Nat.testBit_lt_two_pow (Nat.lt_of_lt_of_le hx (Nat.pow_le_pow_right (by decide) (by omega)))
    rw [Nat.testBit_and, hx0]
    split
    · simp [hx0]
    · rename_i h
      rw [Bool.false_and, Nat.testBit_xor, hx0, Nat.testBit_two_pow]
      by_cases e : v = i
      · subst e; exact absurd hx0 h
      · simp [e]
theorem sv_sb {r : Nat → Int64} {v x : Nat} {b : Bool} (hv : v < 10) (hx : x < 1024) : sv (fW r v b) x = sv r (sb x v b) := by
  rw [sv_fW hv hx]
  unfold sb
  split <;> rfl
end
section
-- counting the bits of a long as Long.bitCount does
theorem and256 {x c : Nat} (y M : Nat) (hx : x < 256) (hc : c < 256) : (x + 256 * y) &&& (c + 256 * M) = (x &&& c) + 256 * (y &&& M) := by
  have hxc : x &&& c < 2 ^ 8 := Nat.and_lt_two_pow _ hc
  rw [Nat.add_comm x, Nat.add_comm c, Nat.add_comm (x &&& c)]
  apply Nat.eq_of_testBit_eq
  intro j
  rw [Nat.testBit_and, show (256 : Nat) = 2 ^ 8 from rfl, Nat.testBit_two_pow_mul_add y hx, Nat.testBit_two_pow_mul_add M hc, Nat.testBit_two_pow_mul_add (y &&& M) hxc]
  split
  · rw [Nat.testBit_and]
  · rw [Nat.testBit_and]
/-- the byte c, k times -/
def mk (c : Nat) : Nat → Nat
  | 0 => 0
  | k + 1 => c + 256 * mk c k
/-- f on each of k bytes -/
def byt (f : Nat → Nat) : Nat → Nat → Nat
  | 0, _ => 0
  | k + 1, n => f (n % 256) + 256 * byt f k (n / 256)
/-- the sum of f over k bytes -/
def bys (f : Nat → Nat) : Nat → Nat → Nat
  | 0, _ => 0
  | k + 1, n => f (n % 256) + bys f k (n / 256)
theorem pc_d1 : ∀ t, t < 2 → ∀ b, b < 256 → (b / 2 + 128 * t) &&& 85 = (b / 2) &&& 85 := by decide +kernel
theorem pc_l1 : ∀ b, b < 256 → (b / 2) &&& 85 ≤ b := by decide +kernel
theorem pc_d2 : ∀ t, t < 4 → ∀ b, b < 256 → (b / 4 + 64 * t) &&& 51 = (b / 4) &&& 51 := by decide +kernel
def pcf1 (b : Nat) : Nat := b - ((b / 2) &&& 85)
def pcf2 (b : Nat) : Nat := (b &&& 51) + ((b / 4) &&& 51)
def pcf3 (b : Nat) : Nat := (b + b / 16) &&& 15
theorem pc_1 (k : Nat) : ∀ n, n < 256 ^ k → (n / 2) &&& mk 85 k ≤ n ∧ n - ((n / 2) &&& mk 85 k) = byt pcf1 k n := by
  induction k with
  | zero =>
    intro n hn
    have : n = 0 := by simpa using hn
    subst this
    exact ⟨Nat.le_refl _, rfl⟩
  | succ k ih =>
    intro n hn
    have hm : n / 256 < 256 ^ k := by
      rw [Nat.div_lt_iff_lt_mul (by decide)]
      rw [Nat.pow_succ] at hn
      exact hn
    obtain ⟨i1, i2⟩ := ih (n / 256) hm
    have hb : n % 256 < 256 := Nat.mod_lt _ (by decide)
    have e1 : n / 2 = (n % 256 / 2 + 128 * (n / 256 % 2)) + 256 * (n / 256 / 2) := by omega
    have ht : n / 256 % 2 < 2 := Nat.mod_lt _ (by decide)
    have e2 : (n / 2) &&& mk 85 (k + 1) = ((n % 256 / 2) &&& 85) + 256 * ((n / 256 / 2) &&& mk 85 k) := by
      rw [e1]
      show _ &&& (85 + 256 * mk 85 k) = _
      rw [and256 _ _ (by omega) (by decide), pc_d1 _ ht _ hb]
    have h1 := pc_l1 _ hb
    rw [e2]
    show _ ∧ _ = pcf1 (n % 256) + 256 * byt pcf1 k (n / 256)
    rw [← i2]
    unfold pcf1
    generalize (n % 256 / 2) &&& 85 = u at *
    generalize (n / 256 / 2) &&& mk 85 k = w at *
    omega
theorem pc_2 (k : Nat) : ∀ n, n < 256 ^ k → (n &&& mk 51 k) + ((n / 4) &&& mk 51 k) = byt pcf2 k n := by
  induction k with
  | zero =>
    intro n hn
    have : n = 0 := by simpa using hn
    subst this
    rfl
  | succ k ih =>
    intro n hn
    have hm : n / 256 < 256 ^ k := by
      rw [Nat.div_lt_iff_lt_mul (by decide)]
      rw [Nat.pow_succ] at hn
      exact hn
    have i2 := ih (n / 256) hm
    have hb : n % 256 < 256 := Nat.mod_lt _ (by decide)
    have e1 : n / 4 = (n % 256 / 4 + 64 * (n / 256 % 4)) + 256 * (n / 256 / 4) := by omega
    have ht : n / 256 % 4 < 4 := Nat.mod_lt _ (by decide)
    have e2 : (n / 4) &&& mk 51 (k + 1) = ((n % 256 / 4) &&& 51) + 256 * ((n / 256 / 4) &&& mk 51 k) := by
      rw [e1]
      show _ &&& (51 + 256 * mk 51 k) = _
      rw [and256 _ _ (by omega) (by decide), pc_d2 _ ht _ hb]
    have e3 : n &&& mk 51 (k + 1) = ((n % 256) &&& 51) + 256 * ((n / 256) &&& mk 51 k) := by
      have e4 : n = n % 256 + 256 * (n / 256) := by omega
      conv => lhs; lhs; rw [e4]
      show _ &&& (51 + 256 * mk 51 k) = _
      rw [and256 _ _ hb (by decide)]
    rw [e2, e3]
    show _ = pcf2 (n % 256) + 256 * byt pcf2 k (n / 256)
    rw [← i2]
    unfold pcf2
    omega
/-- both halves of each byte are at most 4 -/
def nib4 : Nat → Nat → Prop
  | 0, _ => True
  | k + 1, n => n % 256 % 16 ≤ 4 ∧ n % 256 / 16 ≤ 4 ∧ nib4 k (n / 256)
theorem pc_15 (x y : Nat) : (x + 16 * y) &&& 15 = x &&& 15 := by
  rw [show (15 : Nat) = 2 ^ 4 - 1 from rfl, Nat.and_two_pow_sub_one_eq_mod, Nat.and_two_pow_sub_one_eq_mod]
  omega
theorem pc_3 (k : Nat) : ∀ n, n < 256 ^ k → nib4 k n → (n + n / 16) &&& mk 15 k = byt pcf3 k n := by
  induction k with
  | zero =>
    intro n hn _
    have : n = 0 := by simpa using hn
    subst this
    rfl
  | succ k ih =>
    intro n hn hnb
    obtain ⟨h1, h2, h3⟩ := hnb
    have hm : n / 256 < 256 ^ k := by
      rw [Nat.div_lt_iff_lt_mul (by decide)]
      rw [Nat.pow_succ] at hn
      exact hn
    have i2 := ih (n / 256) hm h3
    have h5 : n / 256 % 16 ≤ 4 := by
      cases k with
      | zero =>
        have : n / 256 = 0 := by simpa using hm
        rw [this]; decide
      | succ k =>
        have := h3.1
        omega
    have e1 : n + n / 16 = (n % 256 + n % 256 / 16 + 16 * (n / 256 % 16)) + 256 * (n / 256 + n / 256 / 16) := by omega
    rw [e1]
    show _ &&& (15 + 256 * mk 15 k) = pcf3 (n % 256) + 256 * byt pcf3 k (n / 256)
    rw [and256 _ _ (by omega) (by decide), i2, pc_15]
    rfl
theorem byt_lt {f : Nat → Nat} (hf : ∀ b, b < 256 → f b < 256) (k : Nat) : ∀ n, byt f k n < 256 ^ k := by
  induction k with
  | zero => intro n; exact Nat.one_pos
  | succ k ih =>
    intro n
    show f (n % 256) + 256 * byt f k (n / 256) < 256 ^ (k + 1)
    have h1 := hf _ (Nat.mod_lt n (by decide : 256 > 0))
    have h2 := ih (n / 256)
    rw [Nat.pow_succ]
    omega
theorem byt_byt {f g : Nat → Nat} (hf : ∀ b, b < 256 → f b < 256) (k : Nat) : ∀ n, byt g k (byt f k n) = byt (fun b => g (f b)) k n := by
  induction k with
  | zero => intro n; rfl
  | succ k ih =>
    intro n
    show g ((f (n % 256) + 256 * byt f k (n / 256)) % 256) + 256 * byt g k ((f (n % 256) + 256 * byt f k (n / 256)) / 256) = g (f (n % 256)) + 256 * byt (fun b => g (f b)) k (n / 256)
    have h1 := hf _ (Nat.mod_lt n (by decide : 256 > 0))
    rw [show (f (n % 256) + 256 * byt f k (n / 256)) % 256 = f (n % 256) by omega, show (f (n % 256) + 256 * byt f k (n / 256)) / 256 = byt f k (n / 256) by omega, ih]
theorem nib_byt {f : Nat → Nat} (hf : ∀ b, b < 256 → f b < 256 ∧ f b % 16 ≤ 4 ∧ f b / 16 ≤ 4) (k : Nat) : ∀ n, nib4 k (byt f k n) := by
  induction k with
  | zero => intro n; trivial
  | succ k ih =>
    intro n
    have h1 := hf _ (Nat.mod_lt n (by decide : 256 > 0))
    show (f (n % 256) + 256 * byt f k (n / 256)) % 256 % 16 ≤ 4 ∧ (f (n % 256) + 256 * byt f k (n / 256)) % 256 / 16 ≤ 4 ∧ nib4 k ((f (n % 256) + 256 * byt f k (n / 256)) / 256)
    rw [show (f (n % 256) + 256 * byt f k (n / 256)) % 256 = f (n % 256) by omega, show (f (n % 256) + 256 * byt f k (n / 256)) / 256 = byt f k (n / 256) by omega]
    exact ⟨h1.2.1, h1.2.2, ih _⟩
/-- how many bits of a byte are set -/
def pc8 (b : Nat) : Nat := b % 2 + b / 2 % 2 + b / 4 % 2 + b / 8 % 2 + b / 16 % 2 + b / 32 % 2 + b / 64 % 2 + b / 128 % 2
theorem pc_f1 : ∀ b, b < 256 → pcf1 b < 256 := by decide +kernel
theorem pc_f2 : ∀ b, b < 256 → pcf2 (pcf1 b) < 256 ∧ pcf2 (pcf1 b) % 16 ≤ 4 ∧ pcf2 (pcf1 b) / 16 ≤ 4 := by decide +kernel
theorem pc_f2' : ∀ b, b < 256 → pcf2 b < 256 := by decide +kernel
theorem pc_f3 : ∀ b, b < 256 → pcf3 (pcf2 (pcf1 b)) = pc8 b := by decide +kernel
theorem byt_eq {f g : Nat → Nat} (h : ∀ b, b < 256 → f b = g b) (k : Nat) : ∀ n, byt f k n = byt g k n := by
  induction k with
  | zero => intro n; rfl
  | succ k ih =>
    intro n
    show f (n % 256) + 256 * byt f k (n / 256) = g (n % 256) + 256 * byt g k (n / 256)
    rw [h _ (Nat.mod_lt n (by decide : 256 > 0)), ih]
/-- the first three steps, over n < 2 ^ 64 -/
theorem pc_123 {n a b : Nat} (hn : n < 256 ^ 8) (ha : a = n - ((n / 2) &&& mk 85 8)) (hb : b = (a &&& mk 51 8) + ((a / 4) &&& mk 51 8)) : (b + b / 16) &&& mk 15 8 = byt pc8 8 n := by
  rw [(pc_1 8 n hn).2] at ha
  rw [pc_2 8 a (by rw [ha]; exact byt_lt pc_f1 8 n), ha, byt_byt pc_f1] at hb
  rw [pc_3 8 b (by rw [hb]; exact byt_lt (fun b hb => (pc_f2 b hb).1) 8 n) (by rw [hb]; exact nib_byt pc_f2 8 n), hb, byt_byt (fun b hb => (pc_f2 b hb).1)]
  exact byt_eq pc_f3 8 n
theorem pc8_le : ∀ b, b < 256 → pc8 b ≤ 8 := by decide +kernel
theorem dv_k {x k : Nat} (y : Nat) (hx : x < k) : (x + k * y) / k = y := by
  rw [Nat.add_mul_div_left _ _ (by omega), Nat.div_eq_of_lt hx, Nat.zero_add]
theorem md_k {x k : Nat} (y : Nat) (hx : x < k) : (x + k * y) % k = x := by
  rw [Nat.add_mul_mod_self_left, Nat.mod_eq_of_lt hx]
theorem pc_i1 (p0 p1 p2 p3 p4 p5 p6 p7 : Nat) : p0 + 256 * (p1 + 256 * (p2 + 256 * (p3 + 256 * (p4 + 256 * (p5 + 256 * (p6 + 256 * p7)))))) + (p1 + 256 * (p2 + 256 * (p3 + 256 * (p4 + 256 * (p5 + 256 * (p6 + 256 * p7)))))) = ((p0 + p1) + 256 * (p1 + p2)) + 65536 * ((p2 + p3) + 256 * (p3 + p4) + 65536 * (p4 + p5) + 16777216 * (p5 + p6) + 4294967296 * (p6 + p7) + 1099511627776 * p7) := by omega
theorem pc_i2 (p0 p1 p2 p3 p4 p5 p6 p7 : Nat) : ((p0 + p1) + 256 * (p1 + p2)) + 65536 * ((p2 + p3) + 256 * (p3 + p4) + 65536 * (p4 + p5) + 16777216 * (p5 + p6) + 4294967296 * (p6 + p7) + 1099511627776 * p7) + ((p2 + p3) + 256 * (p3 + p4) + 65536 * (p4 + p5) + 16777216 * (p5 + p6) + 4294967296 * (p6 + p7) + 1099511627776 * p7) = ((p0 + p1 + p2 + p3) + 256 * (p1 + p2 + p3 + p4) + 65536 * (p2 + p3 + p4 + p5) + 16777216 * (p3 + p4 + p5 + p6)) + 4294967296 * ((p4 + p5 + p6 + p7) + 256 * (p5 + p6 + p7) + 65536 * (p6 + p7) + 16777216 * p7) := by omega
theorem pc_i3 (p0 p1 p2 p3 p4 p5 p6 p7 : Nat) : ((p0 + p1 + p2 + p3) + 256 * (p1 + p2 + p3 + p4) + 65536 * (p2 + p3 + p4 + p5) + 16777216 * (p3 + p4 + p5 + p6)) + 4294967296 * ((p4 + p5 + p6 + p7) + 256 * (p5 + p6 + p7) + 65536 * (p6 + p7) + 16777216 * p7) + ((p4 + p5 + p6 + p7) + 256 * (p5 + p6 + p7) + 65536 * (p6 + p7) + 16777216 * p7) = (p0 + p1 + p2 + p3 + p4 + p5 + p6 + p7) + 128 * (2 * ((p1 + p2 + p3 + p4) + (p5 + p6 + p7)) + 512 * ((p2 + p3 + p4 + p5) + (p6 + p7)) + 131072 * ((p3 + p4 + p5 + p6) + p7) + 33554432 * ((p4 + p5 + p6 + p7) + 256 * (p5 + p6 + p7) + 65536 * (p6 + p7) + 16777216 * p7)) := by omega
theorem pc_b3 {p0 p1 p2 p3 p4 p5 p6 p7 : Nat} (h0 : p0 ≤ 8) (h1 : p1 ≤ 8) (h2 : p2 ≤ 8) (h3 : p3 ≤ 8) (h4 : p4 ≤ 8) (h5 : p5 ≤ 8) (h6 : p6 ≤ 8) (h7 : p7 ≤ 8) : (p0 + p1 + p2 + p3 + p4 + p5 + p6 + p7) + 128 * (2 * ((p1 + p2 + p3 + p4) + (p5 + p6 + p7)) + 512 * ((p2 + p3 + p4 + p5) + (p6 + p7)) + 131072 * ((p3 + p4 + p5 + p6) + p7) + 33554432 * ((p4 + p5 + p6 + p7) + 256 * (p5 + p6 + p7) + 65536 * (p6 + p7) + 16777216 * p7)) < 9223372036854775808 := by omega
theorem pc_lin {p0 p1 p2 p3 p4 p5 p6 p7 q a b c : Nat} (h0 : p0 ≤ 8) (h1 : p1 ≤ 8) (h2 : p2 ≤ 8) (h3 : p3 ≤ 8) (h4 : p4 ≤ 8) (h5 : p5 ≤ 8) (h6 : p6 ≤ 8) (h7 : p7 ≤ 8)
    (hq : q = p0 + 256 * (p1 + 256 * (p2 + 256 * (p3 + 256 * (p4 + 256 * (p5 + 256 * (p6 + 256 * p7))))))) (ha : a = q + q / 256) (hb : b = a + a / 65536) (hc : c = b + b / 4294967296) : c % 128 = p0 + p1 + p2 + p3 + p4 + p5 + p6 + p7 ∧ c < 9223372036854775808 := by
  have l1 : p0 < 256 := Nat.lt_of_le_of_lt h0 (by decide)
  have l2 : (p0 + p1) + 256 * (p1 + p2) < 65536 := by clear hq ha hb hc; omega
  have l3 : (p0 + p1 + p2 + p3) + 256 * (p1 + p2 + p3 + p4) + 65536 * (p2 + p3 + p4 + p5) + 16777216 * (p3 + p4 + p5 + p6) < 4294967296 := by clear hq ha hb hc; omega
  have l4 : p0 + p1 + p2 + p3 + p4 + p5 + p6 + p7 < 128 := by clear hq ha hb hc; omega
  rw [hq, dv_k _ l1, pc_i1] at ha
  rw [ha, dv_k _ l2, pc_i2] at hb
  rw [hb, dv_k _ l3, pc_i3] at hc
  rw [hc]
  exact ⟨md_k _ l4, pc_b3 h0 h1 h2 h3 h4 h5 h6 h7⟩
/-- the last steps: the bytes' sum -/
theorem pc_sum {n q a b c : Nat} (hq : q = byt pc8 8 n) (ha : a = q + q / 256) (hb : b = a + a / 65536) (hc : c = b + b / 4294967296) : c % 128 = bys pc8 8 n ∧ c < 9223372036854775808 := by
  have m8 : ∀ k, pc8 (k % 256) ≤ 8 := fun k => pc8_le _ (Nat.mod_lt k (by decide : 256 > 0))
  simp only [byt, Nat.mul_zero, Nat.add_zero] at hq
  have h := pc_lin (m8 _) (m8 _) (m8 _) (m8 _) (m8 _) (m8 _) (m8 _) (m8 _) hq ha hb hc
  refine ⟨?_, h.2⟩
  rw [h.1]
  simp only [bys, Nat.add_zero, Nat.add_assoc]
end
section
-- the first assignment: the order of first
def tn : Nat → Nat → Nat
  | 0, _ => 0
  | k + 1, x => 2 * tn k x + if x.testBit k = true then 1 else 0
theorem tn_eq {x y : Nat} : ∀ v, (∀ j, j < v → x.testBit j = y.testBit j) → tn v x = tn v y
  | 0, _ => rfl
  | v + 1, h => by
    show 2 * tn v x + (if x.testBit v = true then 1 else 0) = 2 * tn v y + if y.testBit v = true then 1 else 0
    rw [tn_eq v (fun j hj => h j (by omega)), h v (by omega)]
theorem tn_lt {x y v : Nat} (hag : ∀ j, j < v → x.testBit j = y.testBit j) (hx : x.testBit v = false) (hy : y.testBit v = true) : ∀ k, v < k → tn k x < tn k y
  | 0, h => absurd h (by omega)
  | k + 1, h => by
    show 2 * tn k x + (if x.testBit k = true then 1 else 0) < 2 * tn k y + if y.testBit k = true then 1 else 0
    by_cases e : v = k
    · subst e
      rw [tn_eq v hag, hx, hy]
      simp
    · have ih := tn_lt hag hx hy k (by omega)
      split <;> split <;> omega
theorem tn_bd (x : Nat) : ∀ k, tn k x < 2 ^ k
  | 0 => Nat.one_pos
  | k + 1 => by
    have ih := tn_bd x k
    show 2 * tn k x + (if x.testBit k = true then 1 else 0) < 2 ^ (k + 1)
    rw [Nat.pow_succ]
    split <;> omega
/-- the lowest bit where two differ -/
theorem bit_ne {x y : Nat} (hx : x < 1024) (hy : y < 1024) (h : x ≠ y) : ∃ v, v < 10 ∧ (∀ j, j < v → x.testBit j = y.testBit j) ∧ x.testBit v ≠ y.testBit v := by
  have hex : ∃ v, x.testBit v ≠ y.testBit v := by
    apply Classical.byContradiction
    intro hno
    exact h (Nat.eq_of_testBit_eq (fun i => Classical.byContradiction (fun q => hno ⟨i, q⟩)))
  obtain ⟨v, h1, h2⟩ := pk_least _ hex
  refine ⟨v, ?_, fun j hj => Classical.byContradiction (fun q => h2 j hj q), h1⟩
  apply Classical.byContradiction
  intro hge
  have b : 2 ^ 10 ≤ 2 ^ v := Nat.pow_le_pow_right (by decide) (by omega)
  rw [Nat.testBit_lt_two_pow (by omega), Nat.testBit_lt_two_pow (by omega)] at h1
  exact h1 rfl
theorem tn_ne {x y : Nat} (hx : x < 1024) (hy : y < 1024) (h : x ≠ y) : tn 10 x ≠ tn 10 y := by
  obtain ⟨v, hv, h1, h2⟩ := bit_ne hx hy h
  cases hxv : x.testBit v
  · have hyv : y.testBit v = true := by
      cases hyv : y.testBit v
      · rw [hxv, hyv] at h2; exact absurd rfl h2
      · rfl
    exact Nat.ne_of_lt (tn_lt h1 hxv hyv 10 hv)
  · have hyv : y.testBit v = false := by
      cases hyv : y.testBit v
      · rfl
      · rw [hxv, hyv] at h2; exact absurd rfl h2
    exact Nat.ne_of_gt (tn_lt (fun j hj => (h1 j hj).symm) hyv hxv 10 hv)
/-- a is the first true assignment of S -/
def isF (S : Nat → Bool) (a : Nat) : Prop := a < 1024 ∧ S a = true ∧ ∀ y, y < 1024 → S y = true → y ≠ a → tn 10 a < tn 10 y
theorem isF_or (S : Nat → Bool) : (∀ y, y < 1024 → S y = false) ∨ ∃ a, isF S a := by
  by_cases h : ∃ k y, y < 1024 ∧ S y = true ∧ tn 10 y = k
  · right
    obtain ⟨k, ⟨a, ha, hs, ht⟩, hmin⟩ := pk_least _ h
    refine ⟨a, ha, hs, fun y hy hys hne => ?_⟩
    have h1 := tn_ne hy ha hne
    have h2 : ¬ tn 10 y < k := fun q => hmin _ q ⟨y, hy, hys, rfl⟩
    omega
  · left
    intro y hy
    cases hs : S y
    · rfl
    · exact absurd ⟨_, y, hy, hs, rfl⟩ h
theorem isF_one {S : Nat → Bool} {a b : Nat} (ha : isF S a) (hb : b < 1024) (hs : S b = true) (hm : ∀ y, y < 1024 → S y = true → tn 10 b ≤ tn 10 y) : b = a := by
  apply Classical.byContradiction
  intro h
  have h1 := ha.2.2 b hb hs h
  have h2 := hm a ha.1 ha.2.1
  omega
/-- those that agree with the first one below v: one with bit v false is left just if the first has it false -/
theorem isF_step {S : Nat → Bool} {a v : Nat} (ha : isF S a) (hv : v < 10) : (∃ y, y < 1024 ∧ (S y = true ∧ y % 2 ^ v = a % 2 ^ v) ∧ y.testBit v = false) ↔ a.testBit v = false := by
  constructor
  · rintro ⟨y, hy, ⟨hs, he⟩, hb⟩
    cases hav : a.testBit v
    · rfl
    · exfalso
      have hag : ∀ j, j < v → y.testBit j = a.testBit j := fun j hj => by
        have h1 := Nat.testBit_mod_two_pow y v j
        have h2 := Nat.testBit_mod_two_pow a v j
        rw [he, h2] at h1
        simpa [hj] using h1.symm
      have h3 := tn_lt hag hb hav 10 hv
      have hne : y ≠ a := fun e => by rw [e, hav] at hb; cases hb
      have h4 := ha.2.2 y hy hs hne
      omega
  · intro h
    exact ⟨a, ha.1, ⟨ha.2.1, rfl⟩, h⟩
theorem mod_succ {y a v : Nat} : y % 2 ^ (v + 1) = a % 2 ^ (v + 1) ↔ y % 2 ^ v = a % 2 ^ v ∧ y.testBit v = a.testBit v := by
  constructor
  · intro h
    have key : ∀ j, j < v + 1 → y.testBit j = a.testBit j := fun j hj => by
      have h1 := Nat.testBit_mod_two_pow y (v + 1) j
      have h2 := Nat.testBit_mod_two_pow a (v + 1) j
      rw [h, h2] at h1
      simpa [hj] using h1.symm
    refine ⟨?_, key v (by omega)⟩
    apply Nat.eq_of_testBit_eq
    intro j
    rw [Nat.testBit_mod_two_pow, Nat.testBit_mod_two_pow]
    by_cases hj : j < v
    · rw [key j (by omega)]
    · simp [hj]
  · rintro ⟨h, hb⟩
    apply Nat.eq_of_testBit_eq
    intro j
    rw [Nat.testBit_mod_two_pow, Nat.testBit_mod_two_pow]
    by_cases hj : j < v + 1
    · by_cases e : j = v
      · subst e; rw [hb]
      · have h1 := Nat.testBit_mod_two_pow y v j
        have h2 := Nat.testBit_mod_two_pow a v j
        rw [h, h2] at h1
        have hjv : j < v := by omega
        simp [hjv] at h1
        rw [h1]
    · simp [hj]
theorem mod_bit (a v : Nat) : (a % 2 ^ v) ||| (if a.testBit v = true then 2 ^ v else 0) = a % 2 ^ (v + 1) := by
  apply Nat.eq_of_testBit_eq
  intro j
  rw [Nat.testBit_or, Nat.testBit_mod_two_pow, Nat.testBit_mod_two_pow]
  by_cases e : j = v
  · subst e
    cases h : a.testBit j <;> simp [h, Nat.testBit_two_pow_self]
  · have h1 : (if a.testBit v = true then 2 ^ v else 0).testBit j = false := by
      split
      · rw [Nat.testBit_two_pow]; simp; omega
      · exact Nat.zero_testBit j
    rw [h1]
    by_cases hj : j < v
    · simp [hj, Nat.lt_succ_of_lt hj]
    · simp [hj, show ¬ j < v + 1 by omega]
end
section
-- bound: all, or some, of those that differ in the set alone
def bd (S : Nat → Bool) (set : Nat) (every : Bool) : Nat → Nat → Bool
  | 0, x => S x
  | v + 1, x => if set.testBit v = true then (if every = true then bd S set every v x && bd S set every v (x ^^^ 2 ^ v) else bd S set every v x || bd S set every v (x ^^^ 2 ^ v)) else bd S set every v x
/-- x and y differ in members of the set below v alone -/
def dfr (set v x y : Nat) : Prop := ∀ j, x.testBit j ≠ y.testBit j → j < v ∧ set.testBit j = true
theorem dfr_0 {set x y : Nat} : dfr set 0 x y ↔ x = y := by
  constructor
  · intro h
    apply Nat.eq_of_testBit_eq
    intro i
    apply Classical.byContradiction
    intro q
    have := (h i q).1
    omega
  · rintro rfl j hj
    exact absurd rfl hj
theorem dfr_s1 {set v x y : Nat} (hs : set.testBit v = true) : dfr set (v + 1) x y ↔ dfr set v x y ∨ dfr set v (x ^^^ 2 ^ v) y := by
  constructor
  · intro h
    by_cases hv : x.testBit v = y.testBit v
    · left
      intro j hj
      have h1 := h j hj
      refine ⟨?_, h1.2⟩
      have : j ≠ v := fun e => hj (by rw [e]; exact hv)
      omega
    · right
      intro j hj
      rw [Nat.testBit_xor, Nat.testBit_two_pow] at hj
      by_cases e : v = j
      · subst e
        exfalso
        apply hj
        cases hx : x.testBit v <;> cases hy : y.testBit v <;> simp_all
      · simp only [e, decide_false, Bool.xor_false] at hj
        have h1 := h j hj
        exact ⟨by omega, h1.2⟩
  · rintro (h | h)
    · intro j hj
      have h1 := h j hj
      exact ⟨by omega, h1.2⟩
    · intro j hj
      by_cases e : v = j
      · subst e
        exact ⟨by omega, hs⟩
      · have h1 := h j (by rw [Nat.testBit_xor, Nat.testBit_two_pow]; simp only [e, decide_false, Bool.xor_false]; exact hj)
        exact ⟨by omega, h1.2⟩
theorem dfr_s0 {set v x y : Nat} (hs : ¬ set.testBit v = true) : dfr set (v + 1) x y ↔ dfr set v x y := by
  constructor
  · intro h j hj
    have h1 := h j hj
    refine ⟨?_, h1.2⟩
    have : j ≠ v := fun e => hs (by rw [← e]; exact h1.2)
    omega
  · intro h j hj
    have h1 := h j hj
    exact ⟨by omega, h1.2⟩
theorem bd_all {S : Nat → Bool} {set : Nat} : ∀ v x, bd S set true v x = true ↔ ∀ y, dfr set v x y → S y = true
  | 0, x => by
    show S x = true ↔ _
    constructor
    · intro h y hy
      rw [← dfr_0.mp hy]
      exact h
    · intro h
      exact h x (dfr_0.mpr rfl)
  | v + 1, x => by
    show (if set.testBit v = true then (if true = true then bd S set true v x && bd S set true v (x ^^^ 2 ^ v) else _) else bd S set true v x) = true ↔ _
    by_cases hs : set.testBit v = true
    · rw [if_pos hs, if_pos rfl, Bool.and_eq_true, bd_all v x, bd_all v (x ^^^ 2 ^ v)]
      constructor
      · rintro ⟨h1, h2⟩ y hy
        rcases (dfr_s1 hs).mp hy with h | h
        · exact h1 y h
        · exact h2 y h
      · intro h
        exact ⟨fun y hy => h y ((dfr_s1 hs).mpr (Or.inl hy)), fun y hy => h y ((dfr_s1 hs).mpr (Or.inr hy))⟩
    · rw [if_neg hs, bd_all v x]
      constructor
      · intro h y hy
        exact h y ((dfr_s0 hs).mp hy)
      · intro h y hy
        exact h y ((dfr_s0 hs).mpr hy)
theorem bd_some {S : Nat → Bool} {set : Nat} : ∀ v x, bd S set false v x = true ↔ ∃ y, dfr set v x y ∧ S y = true
  | 0, x => by
    show S x = true ↔ _
    constructor
    · intro h
      exact ⟨x, dfr_0.mpr rfl, h⟩
    · rintro ⟨y, hy, h⟩
      rw [dfr_0.mp hy]
      exact h
  | v + 1, x => by
    show (if set.testBit v = true then (if false = true then _ else bd S set false v x || bd S set false v (x ^^^ 2 ^ v)) else bd S set false v x) = true ↔ _
    by_cases hs : set.testBit v = true
    · rw [if_pos hs, if_neg (by decide), Bool.or_eq_true, bd_some v x, bd_some v (x ^^^ 2 ^ v)]
      constructor
      · rintro (⟨y, h1, h2⟩ | ⟨y, h1, h2⟩)
        · exact ⟨y, (dfr_s1 hs).mpr (Or.inl h1), h2⟩
        · exact ⟨y, (dfr_s1 hs).mpr (Or.inr h1), h2⟩
      · rintro ⟨y, h1, h2⟩
        rcases (dfr_s1 hs).mp h1 with h | h
        · exact Or.inl ⟨y, h, h2⟩
        · exact Or.inr ⟨y, h, h2⟩
    · rw [if_neg hs, bd_some v x]
      constructor
      · rintro ⟨y, h1, h2⟩
        exact ⟨y, (dfr_s0 hs).mpr h1, h2⟩
      · rintro ⟨y, h1, h2⟩
        exact ⟨y, (dfr_s0 hs).mp h1, h2⟩
/-- the reference's condition -/
theorem dfr_ref {set x y : Nat} (hx : x < 1024) (hy : y < 1024) : (x ^^^ y) &&& (set ^^^ 4294967295) = 0 ↔ dfr set 10 x y := by
  have h32 : ∀ i, (4294967295 : Nat).testBit i = decide (i < 32) := fun i => by
    rw [show (4294967295 : Nat) = 2 ^ 32 - 1 from rfl, Nat.testBit_two_pow_sub_one]
  have hlt : ∀ z j : Nat, z < 1024 → 10 ≤ j → z.testBit j = false := fun z j hz hj => Nat.testBit_lt_two_pow (Nat.lt_of_lt_of_le hz (Nat.pow_le_pow_right (n := 2) (by decide) hj))
  constructor
  · intro h j hj
    have h10 : j < 10 := by
      apply Classical.byContradiction
      intro q
      rw [hlt x j hx (by omega), hlt y j hy (by omega)] at hj
      exact hj rfl
    refine ⟨h10, ?_⟩
    have h1 : ((x ^^^ y) &&& (set ^^^ 4294967295)).testBit j = false := by rw [h]; exact Nat.zero_testBit j
    rw [Nat.testBit_and, Nat.testBit_xor, Nat.testBit_xor, h32, decide_eq_true (by omega : j < 32)] at h1
    cases hx9 : x.testBit j <;> cases hy9 : y.testBit j <;> cases hs9 : set.testBit j <;> simp_all
  · intro h
    apply Nat.eq_of_testBit_eq
    intro j
    rw [Nat.zero_testBit, Nat.testBit_and, Nat.testBit_xor, Nat.testBit_xor, h32]
    by_cases q : x.testBit j = y.testBit j
    · simp [q]
    · have h1 := h j q
      rw [h1.2, decide_eq_true (by omega : j < 32)]
      simp
-- swap
/-- the place from which swap reads -/
def swp (x v w : Nat) : Nat := if x.testBit v = x.testBit w then x else (x ^^^ 2 ^ v) ^^^ 2 ^ w
theorem swp_lt {x v w : Nat} (hx : x < 1024) (hv : v < 10) (hw : w < 10) : swp x v w < 1024 := by
  unfold swp
  split
  · exact hx
  · exact Nat.xor_lt_two_pow (n := 10) (Nat.xor_lt_two_pow (n := 10) hx (pw10 v hv)) (pw10 w hw)
theorem swp_ref {x v w : Nat} (hx : x < 1024) (hv : v < 10) (hw : w < 10) : (((x &&& (2 ^ v ^^^ 4294967295)) &&& (2 ^ w ^^^ 4294967295)) ||| (if x.testBit v = true then 2 ^ w else 0)) ||| (if x.testBit w = true then 2 ^ v else 0) = swp x v w := by
  have h32 : ∀ i, (4294967295 : Nat).testBit i = decide (i < 32) := fun i => by
    rw [show (4294967295 : Nat) = 2 ^ 32 - 1 from rfl, Nat.testBit_two_pow_sub_one]
  have hlt : ∀ j : Nat, 10 ≤ j → x.testBit j = false := fun j hj => Nat.testBit_lt_two_pow (Nat.lt_of_lt_of_le hx (Nat.pow_le_pow_right (n := 2) (by decide) hj))
  have hif : ∀ (c : Bool) (k i : Nat), (if c = true then 2 ^ k else 0).testBit i = (c && decide (k = i)) := fun c k i => by
    cases c
    · simp
    · simp [Nat.testBit_two_pow]
  apply Nat.eq_of_testBit_eq
  intro i
  rw [Nat.testBit_or, Nat.testBit_or, Nat.testBit_and, Nat.testBit_and, Nat.testBit_xor, Nat.testBit_xor, Nat.testBit_two_pow, Nat.testBit_two_pow, h32, hif, hif]
  unfold swp
  by_cases hi : i < 32
  · by_cases e1 : v = i
    · subst e1
      by_cases e2 : w = v
      · subst e2
        simp [hi]
      · have e2' : ¬ v = w := fun q => e2 q.symm
        cases hxv : x.testBit v <;> cases hxw : x.testBit w <;> simp [hxv, hxw, e2, e2', hi, Nat.testBit_xor, Nat.testBit_two_pow]
    · by_cases e2 : w = i
      · subst e2
        cases hxv : x.testBit v <;> cases hxw : x.testBit w <;> simp [hxv, hxw, e1, hi, Nat.testBit_xor, Nat.testBit_two_pow]
      · cases hxv : x.testBit v <;> cases hxw : x.testBit w <;> simp [e1, e2, hi, Nat.testBit_xor, Nat.testBit_two_pow]
  · have e1 : ¬ v = i := by omega
    have e2 : ¬ w = i := by omega
    have h0 := hlt i (by omega)
    split <;> simp [h0, e1, e2, Nat.testBit_xor, Nat.testBit_two_pow]
theorem sv_swp {r : Nat → Int64} {v w x : Nat} (hv : v < 10) (hw : w < 10) (hx : x < 1024) : sv (fun j => cW (vW v j ^^^ vW w j) (tW (tW r v) w j) (r j)) x = sv r (swp x v w) := by
  have hx2 : x ^^^ 2 ^ w < 1024 := Nat.xor_lt_two_pow (n := 10) hx (pw10 w hw)
  rw [sv_cW (fun j => vW v j ^^^ vW w j) (tW (tW r v) w) r x, sv_tW hw, sv_tW hv]
  have h1 : sv (fun j => vW v j ^^^ vW w j) x = (x.testBit v ^^ x.testBit w) := by
    rw [← sv_vW hv hx, ← sv_vW hw hx]
    exact lb_xor _ _ _
  rw [h1]
  unfold swp
  rw [Nat.xor_assoc, Nat.xor_comm (2 ^ w) (2 ^ v), ← Nat.xor_assoc]
  cases x.testBit v <;> cases x.testBit w <;> simp
end
section
-- shared diagrams: names, keys, parts
def KEY (v a b : Nat) : Nat := v * 67108864 + a * 8192 + b
theorem KEY_inj {v a b v' a' b' : Nat} (ha : a < 8192) (hb : b < 8192) (ha' : a' < 8192) (hb' : b' < 8192) (h : KEY v a b = KEY v' a' b') : v = v' ∧ a = a' ∧ b = b' := by
  unfold KEY at h
  omega
/-- name n stands for the function f of d variables, in the table kt -/
def ND (kt : Nat → Nat) : Nat → Nat → (Nat → Bool) → Prop
  | 0, n, f => n = if f 0 = true then 1 else 0
  | d + 1, n, f => ∃ n0 n1 : Nat, ND kt d n0 (fun m => f (2 * m)) ∧ ND kt d n1 (fun m => f (2 * m + 1)) ∧ ((n0 = n1 ∧ n = n0) ∨ (n0 ≠ n1 ∧ ∃ s : Nat, s < 4096 ∧ n = s + 2 ∧ kt s = KEY (9 - d) n0 n1))
theorem ND_lt {kt : Nat → Nat} : ∀ {d n : Nat} {f : Nat → Bool}, ND kt d n f → n < 4098
  | 0, n, f, h => by
    have h : n = if f 0 = true then 1 else 0 := h
    split at h <;> omega
  | d + 1, n, f, h => by
    obtain ⟨n0, n1, h0, h1, h2⟩ := h
    rcases h2 with ⟨-, e⟩ | ⟨-, s, hs, e, -⟩
    · rw [e]; exact ND_lt h0
    · omega
theorem ND_ext {kt : Nat → Nat} : ∀ {d n : Nat} {f g : Nat → Bool}, (∀ m, m < 2 ^ d → f m = g m) → ND kt d n f → ND kt d n g
  | 0, n, f, g, he, h => by
    have h : n = if f 0 = true then 1 else 0 := h
    show n = if g 0 = true then 1 else 0
    rw [← he 0 (by decide)]
    exact h
  | d + 1, n, f, g, he, h => by
    obtain ⟨n0, n1, h0, h1, h2⟩ := h
    have hp : 2 ^ (d + 1) = 2 * 2 ^ d := by rw [Nat.pow_succ, Nat.mul_comm]
    exact ⟨n0, n1, ND_ext (fun m hm => he (2 * m) (by omega)) h0, ND_ext (fun m hm => he (2 * m + 1) (by omega)) h1, h2⟩
theorem KEY_0 {v a b : Nat} (h : a ≠ b) : KEY v a b ≠ 0 := by
  unfold KEY
  omega
theorem ND_mono {kt kt' : Nat → Nat} (hk : ∀ s, s < 4096 → kt s ≠ 0 → kt' s = kt s) : ∀ {d n : Nat} {f : Nat → Bool}, ND kt d n f → ND kt' d n f
  | 0, n, f, h => h
  | d + 1, n, f, h => by
    obtain ⟨n0, n1, h0, h1, h2⟩ := h
    refine ⟨n0, n1, ND_mono hk h0, ND_mono hk h1, ?_⟩
    rcases h2 with h2 | ⟨hne, s, hs, e, hkey⟩
    · exact Or.inl h2
    · exact Or.inr ⟨hne, s, hs, e, by rw [hk s hs (by rw [hkey]; exact KEY_0 hne)]; exact hkey⟩
/-- no key stands twice -/
def TI (kt : Nat → Nat) : Prop := ∀ s s' : Nat, s < 4096 → s' < 4096 → kt s ≠ 0 → kt s = kt s' → s = s'
theorem ND_fun {kt : Nat → Nat} (hT : TI kt) : ∀ {d n n' : Nat} {f : Nat → Bool}, ND kt d n f → ND kt d n' f → n = n'
  | 0, n, n', f, h, h' => by
    have h : n = if f 0 = true then 1 else 0 := h
    have h' : n' = if f 0 = true then 1 else 0 := h'
    rw [h, h']
  | d + 1, n, n', f, h, h' => by
    obtain ⟨a0, a1, ha0, ha1, ha⟩ := h
    obtain ⟨b0, b1, hb0, hb1, hb⟩ := h'
    have e0 := ND_fun hT ha0 hb0
    have e1 := ND_fun hT ha1 hb1
    subst e0; subst e1
    rcases ha with ⟨q, e⟩ | ⟨q, s, hs, e, hk⟩
    · rcases hb with ⟨-, e'⟩ | ⟨q', -⟩
      · rw [e, e']
      · exact absurd q q'
    · rcases hb with ⟨q', -⟩ | ⟨-, s', hs', e', hk'⟩
      · exact absurd q' q
      · have := hT s s' hs hs' (by rw [hk]; exact KEY_0 q) (by rw [hk, hk'])
        omega
theorem ND_lev {kt : Nat → Nat} : ∀ {d n : Nat} {f : Nat → Bool}, d ≤ 10 → ND kt d n f → n < 2 ∨ ∃ s : Nat, s < 4096 ∧ n = s + 2 ∧ (10 - d) * 67108864 ≤ kt s
  | 0, n, f, _, h => by
    have h : n = if f 0 = true then 1 else 0 := h
    left
    split at h <;> omega
  | d + 1, n, f, hd, h => by
    obtain ⟨n0, n1, h0, h1, h2⟩ := h
    rcases h2 with ⟨-, e⟩ | ⟨-, s, hs, e, hk⟩
    · rcases ND_lev (by omega) h0 with h3 | ⟨s, hs, e3, hk⟩
      · left; omega
      · right; exact ⟨s, hs, by omega, Nat.le_trans (Nat.mul_le_mul_right _ (by omega)) hk⟩
    · right
      refine ⟨s, hs, e, ?_⟩
      rw [hk]
      unfold KEY
      have : 10 - (d + 1) = 9 - d := by omega
      rw [this]
      omega
theorem ND_inj {kt : Nat → Nat} : ∀ {d n : Nat} {f g : Nat → Bool}, d ≤ 10 → ND kt d n f → ND kt d n g → ∀ m, m < 2 ^ d → f m = g m
  | 0, n, f, g, _, h, h' => by
    have h : n = if f 0 = true then 1 else 0 := h
    have h' : n = if g 0 = true then 1 else 0 := h'
    intro m hm
    have hm0 : m = 0 := by simpa using hm
    subst hm0
    rw [h] at h'
    cases hf : f 0 <;> cases hg : g 0 <;> simp_all
  | d + 1, n, f, g, hd, h, h' => by
    obtain ⟨a0, a1, ha0, ha1, ha⟩ := h
    obtain ⟨b0, b1, hb0, hb1, hb⟩ := h'
    have la0 := ND_lt ha0
    have la1 := ND_lt ha1
    have lb0 := ND_lt hb0
    have lb1 := ND_lt hb1
    have hab : a0 = b0 ∧ a1 = b1 := by
      rcases ha with ⟨q, e⟩ | ⟨q, s, hs, e, hk⟩
      · rcases hb with ⟨q', e'⟩ | ⟨q', s', hs', e', hk'⟩
        · omega
        · exfalso
          rcases ND_lev (by omega) ha0 with h3 | ⟨s3, hs3, e3, hk3⟩
          · omega
          · have e4 : s3 = s' := by omega
            subst e4
            rw [hk'] at hk3
            unfold KEY at hk3
            omega
      · rcases hb with ⟨q', e'⟩ | ⟨q', s', hs', e', hk'⟩
        · exfalso
          rcases ND_lev (by omega) hb0 with h3 | ⟨s3, hs3, e3, hk3⟩
          · omega
          · have e4 : s3 = s := by omega
            subst e4
            rw [hk] at hk3
            unfold KEY at hk3
            omega
        · have e4 : s = s' := by omega
          subst e4
          rw [hk] at hk'
          obtain ⟨-, h5, h6⟩ := KEY_inj (by omega) (by omega) (by omega) (by omega) hk'
          exact ⟨h5, h6⟩
    obtain ⟨e0, e1⟩ := hab
    subst e0; subst e1
    intro m hm
    have hp : 2 ^ (d + 1) = 2 * 2 ^ d := by rw [Nat.pow_succ, Nat.mul_comm]
    rcases Nat.mod_two_eq_zero_or_one m with h2 | h2
    · have h3 := ND_inj (by omega) ha0 hb0 (m / 2) (by omega)
      have e : 2 * (m / 2) = m := by omega
      rw [e] at h3
      exact h3
    · have h3 := ND_inj (by omega) ha1 hb1 (m / 2) (by omega)
      have e : 2 * (m / 2) + 1 = m := by omega
      rw [e] at h3
      exact h3
/-- a part: how many variables lie below its own, and its values -/
def pcode (d : Nat) (f : Nat → Bool) : Nat × List Bool := (d, (List.range (2 ^ (d + 1))).map f)
theorem pcode_eq {d d' : Nat} {f g : Nat → Bool} : pcode d f = pcode d' g ↔ d = d' ∧ ∀ m, m < 2 ^ (d + 1) → f m = g m := by
  constructor
  · intro h
    have h1 : d = d' := congrArg Prod.fst h
    subst h1
    refine ⟨rfl, fun m hm => ?_⟩
    have h2 : ((List.range (2 ^ (d + 1))).map f)[m]? = ((List.range (2 ^ (d + 1))).map g)[m]? := by rw [show (List.range (2 ^ (d + 1))).map f = (List.range (2 ^ (d + 1))).map g from congrArg Prod.snd h]
    rw [rg_get f hm, rg_get g hm] at h2
    exact Option.some.inj h2
  · rintro ⟨rfl, h⟩
    show (d, _) = (d, _)
    congr 1
    exact List.map_congr_left (fun m hm => h m (List.mem_range.mp hm))
/-- two lists without doubles and with the same members are of one length -/
theorem nd_le {α : Type} [DecidableEq α] : ∀ {l l' : List α}, l.Nodup → (∀ a, a ∈ l → a ∈ l') → l.length ≤ l'.length
  | [], l', _, _ => Nat.zero_le _
  | a :: l, l', hn, hs => by
    have hn' := List.nodup_cons.mp hn
    have ha : a ∈ l' := hs a List.mem_cons_self
    have h1 : l.length ≤ (l'.erase a).length := nd_le hn'.2 (fun b hb => by
      have hne : b ≠ a := fun e => hn'.1 (e ▸ hb)
      exact (List.mem_erase_of_ne hne).mpr (hs b (List.mem_cons_of_mem _ hb)))
    have h2 := List.length_erase_of_mem ha
    have h3 := List.length_pos_of_mem ha
    simp only [List.length_cons]
    omega
theorem nd_eq {l l' : List (Nat × List Bool)} (h : l.Nodup) (h' : l'.Nodup) (hs : ∀ a, a ∈ l ↔ a ∈ l') : l.length = l'.length :=
  Nat.le_antisymm (nd_le h (fun a ha => (hs a).mp ha)) (nd_le h' (fun a ha => (hs a).mpr ha))
end
section
-- the table of keys: probing, counting, inserting
def cntU (kt : Nat → Nat) : Nat → Nat
  | 0 => 0
  | n + 1 => cntU kt n + if kt n = 0 then 0 else 1
theorem cntU_up {kt : Nat → Nat} {p K : Nat} (h0 : kt p = 0) (hK : K ≠ 0) : ∀ n, cntU (va_up kt p K) n = cntU kt n + if p < n then 1 else 0
  | 0 => by simp [cntU]
  | n + 1 => by
    have ih := cntU_up h0 hK n
    show cntU (va_up kt p K) n + (if va_up kt p K n = 0 then 0 else 1) = cntU kt n + (if kt n = 0 then 0 else 1) + if p < n + 1 then 1 else 0
    rw [ih]
    by_cases h : n = p
    · subst h
      rw [va_up_s, if_neg hK, h0, if_pos rfl, if_neg (Nat.lt_irrefl _), if_pos (Nat.lt_succ_self _)]
    · rw [va_up_n kt K h]
      by_cases h2 : p < n
      · rw [if_pos h2, if_pos (Nat.lt_succ_of_lt h2)]
        omega
      · rw [if_neg h2, if_neg (show ¬ p < n + 1 by omega), Nat.add_zero, Nat.add_zero]
theorem cntU_all {kt : Nat → Nat} : ∀ n, (∀ s, s < n → kt s ≠ 0) → cntU kt n = n
  | 0, _ => rfl
  | n + 1, h => by
    show cntU kt n + (if kt n = 0 then 0 else 1) = n + 1
    rw [cntU_all n (fun s hs => h s (by omega)), if_neg (h n (by omega))]
theorem cntU_0 : ∀ n, cntU (fun _ => 0) n = 0
  | 0 => rfl
  | n + 1 => by
    show cntU (fun _ => 0) n + (if (0 : Nat) = 0 then 0 else 1) = 0
    rw [cntU_0 n, if_pos rfl]
/-- between a key's home and its slot all are used -/
def PI (hm : Nat → Nat) (kt : Nat → Nat) : Prop := ∀ s, s < 4096 → kt s ≠ 0 → ∃ u, u < 4096 ∧ s = (hm (kt s) + u) % 4096 ∧ ∀ t, t < u → kt ((hm (kt s) + t) % 4096) ≠ 0
/-- the probe for K has gone t slots far -/
def PB (hm : Nat → Nat) (kt : Nat → Nat) (K t : Nat) : Prop := ∀ t', t' < t → kt ((hm K + t') % 4096) ≠ 0 ∧ kt ((hm K + t') % 4096) ≠ K
theorem PB_absent {hm kt : Nat → Nat} {K t : Nat} (hP : PI hm kt) (hB : PB hm kt K t) (h0 : kt ((hm K + t) % 4096) = 0) (hK : K ≠ 0) : ∀ s, s < 4096 → kt s ≠ K := by
  intro s hs e
  obtain ⟨u, hu, e1, h1⟩ := hP s hs (by rw [e]; exact hK)
  rw [e] at e1 h1
  rcases Nat.lt_trichotomy u t with h | h | h
  · exact (hB u h).2 (by rw [← e1]; exact e)
  · subst h
    rw [← e1, e] at h0
    exact hK h0
  · exact h1 t h h0
theorem PI_up {hm kt : Nat → Nat} {K t : Nat} (hP : PI hm kt) (hB : PB hm kt K t) (ht : t < 4096) (h0 : kt ((hm K + t) % 4096) = 0) (hK : K ≠ 0) : PI hm (va_up kt ((hm K + t) % 4096) K) := by
  intro s hs hne
  by_cases h : s = (hm K + t) % 4096
  · refine ⟨t, ht, ?_, fun t' ht' => ?_⟩
    · rw [h, va_up_s]
    · rw [h, va_up_s]
      by_cases h2 : (hm K + t') % 4096 = (hm K + t) % 4096
      · rw [h2, va_up_s]; exact hK
      · rw [va_up_n _ _ h2]; exact (hB t' ht').1
  · rw [va_up_n _ _ h] at hne ⊢
    obtain ⟨u, hu, e1, h1⟩ := hP s hs hne
    refine ⟨u, hu, e1, fun t' ht' => ?_⟩
    by_cases h2 : (hm (kt s) + t') % 4096 = (hm K + t) % 4096
    · rw [h2, va_up_s]; exact hK
    · rw [va_up_n _ _ h2]; exact h1 t' ht'
theorem mod_all {h s : Nat} (hs : s < 4096) : ∃ t, t < 4096 ∧ (h + t) % 4096 = s := ⟨(s + 4096 - h % 4096) % 4096, Nat.mod_lt _ (by decide), by omega⟩
/-- where the probe ends -/
theorem PB_end {hm kt : Nat → Nat} {K : Nat} (hu : cntU kt 4096 < 4096) : ∃ t, t < 4096 ∧ PB hm kt K t ∧ (kt ((hm K + t) % 4096) = K ∨ kt ((hm K + t) % 4096) = 0) := by
  have hex : ∃ t, kt ((hm K + t) % 4096) = K ∨ kt ((hm K + t) % 4096) = 0 := by
    apply Classical.byContradiction
    intro hno
    have hall : ∀ s, s < 4096 → kt s ≠ 0 := fun s hs e => by
      obtain ⟨t, -, ht⟩ := mod_all (h := hm K) hs
      exact hno ⟨t, Or.inr (by rw [ht]; exact e)⟩
    have := cntU_all 4096 hall
    omega
  obtain ⟨t, h1, h2⟩ := pk_least _ hex
  refine ⟨t, ?_, fun t' ht' => ⟨fun e => h2 t' ht' (Or.inr e), fun e => h2 t' ht' (Or.inl e)⟩, h1⟩
  apply Classical.byContradiction
  intro hge
  have hall : ∀ s, s < 4096 → kt s ≠ 0 := fun s hs e => by
    obtain ⟨t', ht', e'⟩ := mod_all (h := hm K) hs
    exact h2 t' (by omega) (Or.inr (by rw [e']; exact e))
  have := cntU_all 4096 hall
  omega
theorem TI_up {kt : Nat → Nat} {p K : Nat} (hT : TI kt) (h0 : kt p = 0) (hK : K ≠ 0) (ha : ∀ s, s < 4096 → kt s ≠ K) : TI (va_up kt p K) := by
  intro s s' hs hs' hne he
  by_cases h : s = p
  · by_cases h' : s' = p
    · rw [h, h']
    · rw [h, va_up_s, va_up_n _ _ h'] at he
      exact absurd he.symm (ha s' hs')
  · by_cases h' : s' = p
    · rw [h', va_up_s, va_up_n _ _ h] at he
      exact absurd he (ha s hs)
    · rw [va_up_n _ _ h] at hne he
      rw [va_up_n _ _ h'] at he
      exact hT s s' hs hs' hne he
/-- slot s holds the part c -/
def SL (kt : Nat → Nat) (s : Nat) (c : Nat × List Bool) : Prop := ∃ (d n0 n1 : Nat) (f : Nat → Bool), d ≤ 9 ∧ ND kt d n0 (fun m => f (2 * m)) ∧ ND kt d n1 (fun m => f (2 * m + 1)) ∧ n0 ≠ n1 ∧ kt s = KEY (9 - d) n0 n1 ∧ c = pcode d f
theorem SL_mono {kt kt' : Nat → Nat} (hk : ∀ s, s < 4096 → kt s ≠ 0 → kt' s = kt s) {s : Nat} {c : Nat × List Bool} (hs : s < 4096) (h : SL kt s c) : SL kt' s c := by
  obtain ⟨d, n0, n1, f, h1, h2, h3, h4, h5, h6⟩ := h
  exact ⟨d, n0, n1, f, h1, ND_mono hk h2, ND_mono hk h3, h4, by rw [hk s hs (by rw [h5]; exact KEY_0 h4)]; exact h5, h6⟩
/-- the table, and the parts that it holds -/
def TS (hm kt : Nat → Nat) (GL : List (Nat × List Bool)) : Prop :=
  TI kt ∧ PI hm kt ∧ cntU kt 4096 = GL.length ∧ GL.Nodup ∧ (∀ s, s < 4096 → kt s ≠ 0 → ∃ c, c ∈ GL ∧ SL kt s c) ∧ (∀ c, c ∈ GL → ∃ s, s < 4096 ∧ SL kt s c) ∧ ∀ s, s < 4096 → kt s < 1073741824
theorem TS_0 (hm : Nat → Nat) : TS hm (fun _ => 0) [] :=
  ⟨fun s s' _ _ h _ => absurd rfl h, fun s _ h => absurd rfl h, cntU_0 4096, List.nodup_nil, fun s _ h => absurd rfl h, fun c hc => absurd hc (by simp), fun s _ => (by decide : 0 < 1073741824)⟩
/-- the key stands there already: so does the part -/
theorem TS_found {hm kt : Nat → Nat} {GL : List (Nat × List Bool)} {d n0 n1 s : Nat} {f : Nat → Bool} (h : TS hm kt GL) (hd : d ≤ 9) (h0 : ND kt d n0 (fun m => f (2 * m))) (h1 : ND kt d n1 (fun m => f (2 * m + 1))) (hne : n0 ≠ n1) (hs : s < 4096) (hk : kt s = KEY (9 - d) n0 n1) : pcode d f ∈ GL := by
  obtain ⟨-, -, -, -, hJ, -, -⟩ := h
  obtain ⟨c, hc, d', m0, m1, g, hd', g0, g1, hne', hk', e⟩ := hJ s hs (by rw [hk]; exact KEY_0 hne)
  rw [hk] at hk'
  have l0 := ND_lt h0
  have l1 := ND_lt h1
  have l2 := ND_lt g0
  have l3 := ND_lt g1
  obtain ⟨e1, e2, e3⟩ := KEY_inj (by omega) (by omega) (by omega) (by omega) hk'
  have ed : d = d' := by omega
  subst ed; subst e2; subst e3
  rw [e] at hc
  have hcode : pcode d f = pcode d g := by
    rw [pcode_eq]
    refine ⟨rfl, fun m hm => ?_⟩
    have hp : 2 ^ (d + 1) = 2 * 2 ^ d := by rw [Nat.pow_succ, Nat.mul_comm]
    rcases Nat.mod_two_eq_zero_or_one m with h2 | h2
    · have h3 := ND_inj (by omega) h0 g0 (m / 2) (by omega)
      have e9 : 2 * (m / 2) = m := by omega
      rw [e9] at h3
      exact h3
    · have h3 := ND_inj (by omega) h1 g1 (m / 2) (by omega)
      have e9 : 2 * (m / 2) + 1 = m := by omega
      rw [e9] at h3
      exact h3
  rw [hcode]
  exact hc
/-- the key is new: the part is, too -/
theorem TS_new {hm kt : Nat → Nat} {GL : List (Nat × List Bool)} {d n0 n1 t : Nat} {f : Nat → Bool} (h : TS hm kt GL) (hd : d ≤ 9) (h0 : ND kt d n0 (fun m => f (2 * m))) (h1 : ND kt d n1 (fun m => f (2 * m + 1))) (hne : n0 ≠ n1) (ht : t < 4096) (hB : PB hm kt (KEY (9 - d) n0 n1) t) (hf : kt ((hm (KEY (9 - d) n0 n1) + t) % 4096) = 0) : TS hm (va_up kt ((hm (KEY (9 - d) n0 n1) + t) % 4096) (KEY (9 - d) n0 n1)) (pcode d f :: GL) := by
  obtain ⟨hT, hP, hU, hN, hJ, hJ', hlt⟩ := h
  have hK := KEY_0 (v := 9 - d) hne
  have l0 := ND_lt h0
  have l1 := ND_lt h1
  have hKl : KEY (9 - d) n0 n1 < 1073741824 := by unfold KEY; omega
  generalize hKe : KEY (9 - d) n0 n1 = K at *
  have hp : (hm K + t) % 4096 < 4096 := Nat.mod_lt _ (by decide)
  have ha := PB_absent hP hB hf hK
  have hmono : ∀ s, s < 4096 → kt s ≠ 0 → va_up kt ((hm K + t) % 4096) K s = kt s := fun s _ hne9 => va_up_n _ _ (fun e => hne9 (by rw [e]; exact hf))
  have hSL : SL (va_up kt ((hm K + t) % 4096) K) ((hm K + t) % 4096) (pcode d f) := ⟨d, n0, n1, f, hd, ND_mono hmono h0, ND_mono hmono h1, hne, by rw [va_up_s, hKe], rfl⟩
  refine ⟨TI_up hT hf hK ha, PI_up hP hB ht hf hK, ?_, ?_, ?_, ?_, ?_⟩
  · rw [cntU_up hf hK, if_pos hp, hU]; rfl
  · refine List.nodup_cons.mpr ⟨fun hin => ?_, hN⟩
    obtain ⟨s, hs, d', m0, m1, g, hd', g0, g1, hne', hk', e⟩ := hJ' _ hin
    rw [pcode_eq] at e
    obtain ⟨e1, e2⟩ := e
    subst e1
    have hp2 : 2 ^ (d + 1) = 2 * 2 ^ d := by rw [Nat.pow_succ, Nat.mul_comm]
    have q0 := ND_fun hT h0 (ND_ext (fun m hm9 => (e2 (2 * m) (by omega)).symm) g0)
    have q1 := ND_fun hT h1 (ND_ext (fun m hm9 => (e2 (2 * m + 1) (by omega)).symm) g1)
    rw [← q0, ← q1, hKe] at hk'
    exact ha s hs hk'
  · intro s hs hne9
    by_cases h9 : s = (hm K + t) % 4096
    · rw [h9]; exact ⟨_, List.mem_cons_self, hSL⟩
    · rw [va_up_n _ _ h9] at hne9
      obtain ⟨c, hc, hsl⟩ := hJ s hs hne9
      exact ⟨c, List.mem_cons_of_mem _ hc, SL_mono hmono hs hsl⟩
  · intro c hc
    rcases List.mem_cons.mp hc with rfl | hc
    · exact ⟨_, hp, hSL⟩
    · obtain ⟨s, hs, hsl⟩ := hJ' c hc
      exact ⟨s, hs, SL_mono hmono hs hsl⟩
  · intro s hs
    by_cases h9 : s = (hm K + t) % 4096
    · rw [h9, va_up_s]; exact hKl
    · rw [va_up_n _ _ h9]; exact hlt s hs
end
section
-- leaves of the class: isIn, bitOf, joinedWord, chosenWord, variableWord, turnedWord, fixedWord, hangsOn
theorem lb_1 : ∀ i, i < 64 → lb 1 i = decide (i = 0) := by decide +kernel
theorem lb_l2i (w : Int64) {k : Nat} (hk : k < 64) : ((w.toUInt64 >>> ((nI k).toInt64.toUInt64 &&& Int64.toUInt64 63)).toInt64 &&& 1).toInt32 = bI (lb w k) := by
  have h : (w.toUInt64 >>> ((nI k).toInt64.toUInt64 &&& Int64.toUInt64 63)).toInt64 &&& 1 = if lb w k = true then 1 else 0 := by
    apply lb_ext
    intro i hi
    rw [lb_and, lb_shr k hk, lb_1 i hi]
    by_cases h0 : i = 0
    · subst h0
      cases h9 : lb w k
      · simp [h9, lb_0]
      · simp [h9, lb_1 0 (by decide)]
    · cases h9 : lb w k
      · simp [h0, lb_0]
      · simp [h0, lb_1 i hi]
  rw [h]
  cases lb w k <;> decide
section LF
variable {l : Launch} {G : gG} {ws : va_W}
theorem c_isIn (S v : Nat) (hS : S < 2 ^ 31) (hv : v < 32) : Ct l y_D_isIn (.code y_D_isIn b_D_isIn 2 (some .boolean) :: TT) (rmF 0 0) G [.int (nI S), .int (nI v)] ws (some (.int (bI (S.testBit v)))) ws := by
  refine ct_intro (cc := b_D_isIn) (nL := 2) (by decide) [(0, .int (nI S)), (1, .int (nI v))] rfl (Nat.le_of_ble_eq_true rfl) ?_
  intro p e s m below meth c A h hr
  refine r_iload_n (pc := 0) h 0 d_D_isIn_0 rfl rfl ?_
  refine r_iload_n (pc := 1) h 1 d_D_isIn_1 rfl rfl ?_
  refine r_ishr (pc := 2) h (z := (nI S) >>> ((nI v) &&& 31)) d_D_isIn_2 rfl ?_
  refine r_iconst (pc := 3) h (v := nI 1) d_D_isIn_3 (by decide) ?_
  refine r_iand (pc := 4) h (z := bI (S.testBit v)) d_D_isIn_4 (nx_bit hS hv) ?_
  refine r_if_eq (pc := 5) h (tgt := 12) d_D_isIn_5 (by decide) (fun q5 => ?_) (fun q5 => ?_)
  · refine r_iconst (pc := 12) h (v := bI (S.testBit v)) d_D_isIn_12 (by rw [(bI_0 _).mp q5]; decide) ?_
    exact r_zret (pc := 13) h hr (bI_nrw _) d_D_isIn_13
  · refine r_iconst (pc := 8) h (v := bI (S.testBit v)) d_D_isIn_8 (by cases h9 : S.testBit v; exact absurd ((bI_0 _).mpr h9) q5; decide) ?_
    refine r_goto (pc := 9) h (tgt := 13) d_D_isIn_9 (by decide) ?_
    exact r_zret (pc := 13) h hr (bI_nrw _) d_D_isIn_13
theorem c_bitOf (q0 a x : Nat) (f : Nat → Int64) (hq : ws[q0]? = some (a, rwL G f)) (hx : x < 1024) : Ct l y_D_bitOf (.code y_D_bitOf b_D_bitOf 4 (some .int) :: TT) (rmF 0 0) G [.ref a, .int (nI x)] ws (some (.int (bI (sv f x)))) ws := by
  refine ct_intro (cc := b_D_bitOf) (nL := 4) (by decide) [(0, .ref a), (1, .int (nI x))] rfl (Nat.le_of_ble_eq_true rfl) ?_
  intro p e s m below meth c A h hr
  refine r_aload_n (pc := 0) h 0 d_D_bitOf_0 rfl rfl ?_
  refine r_iload_n (pc := 1) h 1 d_D_bitOf_1 rfl rfl ?_
  refine r_bipush (pc := 2) h (v := nI 6) d_D_bitOf_2 (by decide) ?_
  refine r_ishr (pc := 4) h (z := nI (x / 64)) d_D_bitOf_4 (nx_shr (x := x) (v := 6) (by omega) (by decide)) ?_
  refine r_laload (pc := 5) h q0 (z := f (x / 64)) (x / 64) d_D_bitOf_5 hq rfl (by omega) (by decide) rfl ?_
  refine r_lstore_n (pc := 6) h (lv' := [(2, .long (f (x / 64))), (0, .ref a), (1, .int (nI x))]) d_D_bitOf_6 rfl (by decide) rfl ?_
  refine r_lload_n (pc := 7) h 0 d_D_bitOf_7 rfl rfl ?_
  refine r_iload_n (pc := 8) h 2 d_D_bitOf_8 rfl rfl ?_
  refine r_bipush (pc := 9) h (v := nI 63) d_D_bitOf_9 (by decide) ?_
  refine r_iand (pc := 11) h (z := nI (x % 64)) d_D_bitOf_11 (nx_63 (by omega)) ?_
  refine r_lushr (pc := 12) h (z := ((f (x / 64)).toUInt64 >>> ((nI (x % 64)).toInt64.toUInt64 &&& Int64.toUInt64 63)).toInt64) d_D_bitOf_12 rfl ?_
  refine r_lconst (pc := 13) h (v := 1) d_D_bitOf_13 (by decide) ?_
  refine r_land (pc := 14) h (z := (((f (x / 64)).toUInt64 >>> ((nI (x % 64)).toInt64.toUInt64 &&& Int64.toUInt64 63)).toInt64) &&& 1) d_D_bitOf_14 rfl ?_
  refine r_l2i (pc := 15) h (z := bI (sv f x)) d_D_bitOf_15 (lb_l2i _ (Nat.mod_lt _ (by decide))) ?_
  exact r_iret (pc := 16) h hr d_D_bitOf_16
theorem c_chosenWord (w t f : Int64) : Ct l y_D_chosenWord (.code y_D_chosenWord b_D_chosenWord 6 (some .long) :: TT) (rmF 0 0) G [.long w, .long t, .long f] ws (some (.long (cW w t f))) ws := by
  refine ct_intro (cc := b_D_chosenWord) (nL := 6) (by decide) [(0, .long w), (2, .long t), (4, .long f)] rfl (Nat.le_of_ble_eq_true rfl) ?_
  intro p e s m below meth c A h hr
  refine r_lload_n (pc := 0) h 0 d_D_chosenWord_0 rfl rfl ?_
  refine r_lload_n (pc := 1) h 1 d_D_chosenWord_1 rfl rfl ?_
  refine r_land (pc := 2) h (z := w &&& t) d_D_chosenWord_2 rfl ?_
  refine r_lload_n (pc := 3) h 0 d_D_chosenWord_3 rfl rfl ?_
  refine r_ldc2 (pc := 4) h (v := (-1)) d_D_chosenWord_4 (List.mem_cons_of_mem _ w_145) ?_
  refine r_lxor (pc := 7) h (z := w ^^^ (-1)) d_D_chosenWord_7 rfl ?_
  refine r_lload (pc := 8) h 2 d_D_chosenWord_8 rfl ?_
  refine r_land (pc := 10) h (z := (w ^^^ (-1)) &&& f) d_D_chosenWord_10 rfl ?_
  refine r_lor (pc := 11) h (z := (w &&& t) ||| ((w ^^^ (-1)) &&& f)) d_D_chosenWord_11 rfl ?_
  exact r_lret (pc := 12) h hr d_D_chosenWord_12
theorem c_joinedWord0 (a b : Int64) : Ct l y_D_joinedWord (.code y_D_joinedWord b_D_joinedWord 5 (some .long) :: TT) (rmF 0 0) G [.int (nI 0), .long a, .long b] ws (some (.long (jW 0 a b))) ws := by
  refine ct_intro (cc := b_D_joinedWord) (nL := 5) (by decide) [(0, .int (nI 0)), (1, .long a), (3, .long b)] rfl (Nat.le_of_ble_eq_true rfl) ?_
  intro p e s m below meth c A h hr
  refine r_iload_n (pc := 0) h 0 d_D_joinedWord_0 rfl rfl ?_
  refine r_tIn (pc := 1) h (tgt := 32) (off := 31) d_D_joinedWord_1 (by decide) (by decide) (by decide) (by decide) ?_
  refine r_lload_n (pc := 32) h 1 d_D_joinedWord_32 rfl rfl ?_
  refine r_lload_n (pc := 33) h 2 d_D_joinedWord_33 rfl rfl ?_
  refine r_land (pc := 34) h (z := a &&& b) d_D_joinedWord_34 rfl ?_
  exact r_lret (pc := 35) h hr d_D_joinedWord_35
theorem c_joinedWord1 (a b : Int64) : Ct l y_D_joinedWord (.code y_D_joinedWord b_D_joinedWord 5 (some .long) :: TT) (rmF 0 0) G [.int (nI 1), .long a, .long b] ws (some (.long (jW 1 a b))) ws := by
  refine ct_intro (cc := b_D_joinedWord) (nL := 5) (by decide) [(0, .int (nI 1)), (1, .long a), (3, .long b)] rfl (Nat.le_of_ble_eq_true rfl) ?_
  intro p e s m below meth c A h hr
  refine r_iload_n (pc := 0) h 0 d_D_joinedWord_0 rfl rfl ?_
  refine r_tIn (pc := 1) h (tgt := 36) (off := 35) d_D_joinedWord_1 (by decide) (by decide) (by decide) (by decide) ?_
  refine r_lload_n (pc := 36) h 1 d_D_joinedWord_36 rfl rfl ?_
  refine r_lload_n (pc := 37) h 2 d_D_joinedWord_37 rfl rfl ?_
  refine r_lor (pc := 38) h (z := a ||| b) d_D_joinedWord_38 rfl ?_
  exact r_lret (pc := 39) h hr d_D_joinedWord_39
theorem c_joinedWord2 (a b : Int64) : Ct l y_D_joinedWord (.code y_D_joinedWord b_D_joinedWord 5 (some .long) :: TT) (rmF 0 0) G [.int (nI 2), .long a, .long b] ws (some (.long (jW 2 a b))) ws := by
  refine ct_intro (cc := b_D_joinedWord) (nL := 5) (by decide) [(0, .int (nI 2)), (1, .long a), (3, .long b)] rfl (Nat.le_of_ble_eq_true rfl) ?_
  intro p e s m below meth c A h hr
  refine r_iload_n (pc := 0) h 0 d_D_joinedWord_0 rfl rfl ?_
  refine r_tIn (pc := 1) h (tgt := 40) (off := 39) d_D_joinedWord_1 (by decide) (by decide) (by decide) (by decide) ?_
  refine r_lload_n (pc := 40) h 1 d_D_joinedWord_40 rfl rfl ?_
  refine r_lload_n (pc := 41) h 2 d_D_joinedWord_41 rfl rfl ?_
  refine r_lxor (pc := 42) h (z := a ^^^ b) d_D_joinedWord_42 rfl ?_
  exact r_lret (pc := 43) h hr d_D_joinedWord_43
theorem c_joinedWord3 (a b : Int64) : Ct l y_D_joinedWord (.code y_D_joinedWord b_D_joinedWord 5 (some .long) :: TT) (rmF 0 0) G [.int (nI 3), .long a, .long b] ws (some (.long (jW 3 a b))) ws := by
  refine ct_intro (cc := b_D_joinedWord) (nL := 5) (by decide) [(0, .int (nI 3)), (1, .long a), (3, .long b)] rfl (Nat.le_of_ble_eq_true rfl) ?_
  intro p e s m below meth c A h hr
  refine r_iload_n (pc := 0) h 0 d_D_joinedWord_0 rfl rfl ?_
  refine r_tIn (pc := 1) h (tgt := 44) (off := 43) d_D_joinedWord_1 (by decide) (by decide) (by decide) (by decide) ?_
  refine r_lload_n (pc := 44) h 1 d_D_joinedWord_44 rfl rfl ?_
  refine r_ldc2 (pc := 45) h (v := (-1)) d_D_joinedWord_45 (List.mem_cons_of_mem _ w_145) ?_
  refine r_lxor (pc := 48) h (z := a ^^^ (-1)) d_D_joinedWord_48 rfl ?_
  refine r_lload_n (pc := 49) h 2 d_D_joinedWord_49 rfl rfl ?_
  refine r_lor (pc := 50) h (z := (a ^^^ (-1)) ||| b) d_D_joinedWord_50 rfl ?_
  exact r_lret (pc := 51) h hr d_D_joinedWord_51
theorem c_joinedWord4 (a b : Int64) : Ct l y_D_joinedWord (.code y_D_joinedWord b_D_joinedWord 5 (some .long) :: TT) (rmF 0 0) G [.int (nI 4), .long a, .long b] ws (some (.long (jW 4 a b))) ws := by
  refine ct_intro (cc := b_D_joinedWord) (nL := 5) (by decide) [(0, .int (nI 4)), (1, .long a), (3, .long b)] rfl (Nat.le_of_ble_eq_true rfl) ?_
  intro p e s m below meth c A h hr
  refine r_iload_n (pc := 0) h 0 d_D_joinedWord_0 rfl rfl ?_
  refine r_tOut (pc := 1) h (tgt := 52) d_D_joinedWord_1 (by decide) (by decide) ?_
  refine r_lload_n (pc := 52) h 1 d_D_joinedWord_52 rfl rfl ?_
  refine r_ldc2 (pc := 53) h (v := (-1)) d_D_joinedWord_53 (List.mem_cons_of_mem _ w_145) ?_
  refine r_lxor (pc := 56) h (z := a ^^^ (-1)) d_D_joinedWord_56 rfl ?_
  exact r_lret (pc := 57) h hr d_D_joinedWord_57
theorem c_joinedWord (k : Nat) (a b : Int64) (hk : k < 5) : Ct l y_D_joinedWord (.code y_D_joinedWord b_D_joinedWord 5 (some .long) :: TT) (rmF 0 0) G [.int (nI k), .long a, .long b] ws (some (.long (jW k a b))) ws := by
  rcases (show k = 0 ∨ k = 1 ∨ k = 2 ∨ k = 3 ∨ k = 4 by omega) with rfl | rfl | rfl | rfl | rfl
  · exact c_joinedWord0 a b
  · exact c_joinedWord1 a b
  · exact c_joinedWord2 a b
  · exact c_joinedWord3 a b
  · exact c_joinedWord4 a b
theorem c_variableWord (v j : Nat) (hv : v < 10) (hj : j < 16) : Ct l y_D_variableWord (.code y_D_variableWord b_D_variableWord 2 (some .long) :: TT) (rmF 1 21) G [.int (nI v), .int (nI j)] ws (some (.long (vW v j))) ws := by
  refine ct_intro (cc := b_D_variableWord) (nL := 2) (by decide) [(0, .int (nI v)), (1, .int (nI j))] rfl (Nat.le_of_ble_eq_true rfl) ?_
  intro p e s m below meth c A h hr
  refine r_iload_n (pc := 0) h 0 d_D_variableWord_0 rfl rfl ?_
  refine r_bipush (pc := 1) h (v := nI 6) d_D_variableWord_1 (by decide) ?_
  refine r_icmp_ge (pc := 3) h (tgt := 12) d_D_variableWord_3 (by decide) (fun q3 => ?_) (fun q3 => ?_)
  · have hv6 : ¬ v < 6 := fun z => nI_ge z (by decide) q3
    refine r_iload_n (pc := 12) h 1 d_D_variableWord_12 rfl rfl ?_
    refine r_iload_n (pc := 13) h 0 d_D_variableWord_13 rfl rfl ?_
    refine r_bipush (pc := 14) h (v := nI 6) d_D_variableWord_14 (by decide) ?_
    refine r_isub (pc := 16) h (z := nI (v - 6)) d_D_variableWord_16 (pk_sub (Nat.le_of_not_lt hv6)) ?_
    refine r_invSa (pc := 17) h (st := []) d_D_variableWord_17 (c_isIn j (v - 6) (by omega) (by omega)) (r_cS h wc_D_isIn w_142 w_1 w_143 hd_D_isIn ⟨(Nat.le_of_ble_eq_true rfl), (Nat.le_of_ble_eq_true rfl)⟩ rfl rfl) rfl rfl (Nat.le_of_ble_eq_true rfl) ⟨(Nat.le_of_ble_eq_true rfl), (Nat.le_of_ble_eq_true rfl)⟩ rfl ?_
    refine r_if_eq (pc := 20) h (tgt := 29) d_D_variableWord_20 (by decide) (fun q20 => ?_) (fun q20 => ?_)
    · have hb := (bI_0 _).mp q20
      refine r_lconst (pc := 29) h (v := 0) d_D_variableWord_29 (by decide) ?_
      refine Wv.top (show Value.long 0 = .long (vW v j) by rw [show vW v j = 0 from (if_neg hv6).trans (if_neg (by rw [hb]; decide))]) ?_
      exact r_lret (pc := 30) h hr d_D_variableWord_30
    · have hb : j.testBit (v - 6) = true := by cases h9 : j.testBit (v - 6); exact absurd ((bI_0 _).mpr h9) q20; rfl
      refine r_ldc2 (pc := 23) h (v := (-1)) d_D_variableWord_23 (List.mem_cons_of_mem _ w_145) ?_
      refine r_goto (pc := 26) h (tgt := 30) d_D_variableWord_26 (by decide) ?_
      refine Wv.top (show Value.long (-1) = .long (vW v j) by rw [show vW v j = -1 from (if_neg hv6).trans (if_pos hb)]) ?_
      exact r_lret (pc := 30) h hr d_D_variableWord_30
  · have hv6 : v < 6 := Classical.byContradiction (fun z => q3 (nI_le (Nat.le_of_not_lt z) (by omega)))
    refine r_gets (pc := 6) h d_D_variableWord_6 (List.mem_cons_of_mem _ w_140) (fun t hT => ?_)
    refine r_iload_n (pc := 9) h 0 d_D_variableWord_9 rfl rfl ?_
    refine r_tl (pc := 10) h hT (v := .long (tp v)) v d_D_variableWord_10 rfl hv6 rfl ?_
    refine Wv.top (show Value.long (tp v) = .long (vW v j) by rw [show vW v j = tp v from if_pos hv6]) ?_
    exact r_lret (pc := 11) h hr d_D_variableWord_11
theorem pw16 : ∀ v, v < 10 → 6 ≤ v → 2 ^ (v - 6) < 16 := by decide
theorem c_turnedWord (q0 a v j : Nat) (f : Nat → Int64) (hq : ws[q0]? = some (a, rwL G f)) (hv : v < 10) (hj : j < 16) : Ct l y_D_turnedWord (.code y_D_turnedWord b_D_turnedWord 6 (some .long) :: TT) (rmF 0 0) G [.ref a, .int (nI v), .int (nI j)] ws (some (.long (tW f v j))) ws := by
  refine ct_intro (cc := b_D_turnedWord) (nL := 6) (by decide) [(0, .ref a), (1, .int (nI v)), (2, .int (nI j))] rfl (Nat.le_of_ble_eq_true rfl) ?_
  intro p e s m below meth c A h hr
  refine r_iload_n (pc := 0) h 1 d_D_turnedWord_0 rfl rfl ?_
  refine r_bipush (pc := 1) h (v := nI 6) d_D_turnedWord_1 (by decide) ?_
  refine r_icmp_ge (pc := 3) h (tgt := 39) d_D_turnedWord_3 (by decide) (fun q3 => ?_) (fun q3 => ?_)
  · have hv6 : ¬ v < 6 := fun z => nI_ge z (by decide) q3
    refine r_aload_n (pc := 39) h 0 d_D_turnedWord_39 rfl rfl ?_
    refine r_iload_n (pc := 40) h 2 d_D_turnedWord_40 rfl rfl ?_
    refine r_iconst (pc := 41) h (v := nI 1) d_D_turnedWord_41 (by decide) ?_
    refine r_iload_n (pc := 42) h 1 d_D_turnedWord_42 rfl rfl ?_
    refine r_bipush (pc := 43) h (v := nI 6) d_D_turnedWord_43 (by decide) ?_
    refine r_isub (pc := 45) h (z := nI (v - 6)) d_D_turnedWord_45 (pk_sub (Nat.le_of_not_lt hv6)) ?_
    refine r_ishl (pc := 46) h (z := nI (2 ^ (v - 6))) d_D_turnedWord_46 (nx_pw (by omega)) ?_
    refine r_ixor (pc := 47) h (z := nI (j ^^^ 2 ^ (v - 6))) d_D_turnedWord_47 (nx_xor _ _) ?_
    refine r_laload (pc := 48) h q0 (z := f (j ^^^ 2 ^ (v - 6))) (j ^^^ 2 ^ (v - 6)) d_D_turnedWord_48 hq rfl (Nat.xor_lt_two_pow (n := 4) hj (pw16 v hv (by omega))) (by decide) rfl ?_
    refine Wv.top (show Value.long _ = .long (tW f v j) by rw [show tW f v j = _ from if_neg hv6]) ?_
    exact r_lret (pc := 49) h hr d_D_turnedWord_49
  · have hv6 : v < 6 := Classical.byContradiction (fun z => q3 (nI_le (Nat.le_of_not_lt z) (by omega)))
    refine r_gets (pc := 6) h d_D_turnedWord_6 (List.mem_cons_of_mem _ w_140) (fun t hT => ?_)
    refine r_iload_n (pc := 9) h 1 d_D_turnedWord_9 rfl rfl ?_
    refine r_tl (pc := 10) h hT (v := .long (tp v)) v d_D_turnedWord_10 rfl hv6 rfl ?_
    refine r_lstore_n (pc := 11) h (lv' := [(3, .long (tp v)), (0, .ref a), (1, .int (nI v)), (2, .int (nI j))]) d_D_turnedWord_11 rfl (by decide) rfl ?_
    refine r_iconst (pc := 12) h (v := nI 1) d_D_turnedWord_12 (by decide) ?_
    refine r_iload_n (pc := 13) h 2 d_D_turnedWord_13 rfl rfl ?_
    refine r_ishl (pc := 14) h (z := nI (2 ^ v)) d_D_turnedWord_14 (nx_pw (by omega)) ?_
    refine r_istore (pc := 15) h (lv' := [(5, .int (nI (2 ^ v))), (3, .long (tp v)), (0, .ref a), (1, .int (nI v)), (2, .int (nI j))]) d_D_turnedWord_15 (by decide) rfl ?_
    refine r_aload_n (pc := 17) h 2 d_D_turnedWord_17 rfl rfl ?_
    refine r_iload_n (pc := 18) h 4 d_D_turnedWord_18 rfl rfl ?_
    refine r_laload (pc := 19) h q0 (z := f j) j d_D_turnedWord_19 hq rfl hj (by decide) rfl ?_
    refine r_lload_n (pc := 20) h 1 d_D_turnedWord_20 rfl rfl ?_
    refine r_land (pc := 21) h (z := (f j) &&& (tp v)) d_D_turnedWord_21 rfl ?_
    refine r_iload (pc := 22) h 0 d_D_turnedWord_22 rfl ?_
    refine r_lushr (pc := 24) h (z := (((f j) &&& (tp v)).toUInt64 >>> ((nI (2 ^ v)).toInt64.toUInt64 &&& Int64.toUInt64 63)).toInt64) d_D_turnedWord_24 rfl ?_
    refine r_aload_n (pc := 25) h 2 d_D_turnedWord_25 rfl rfl ?_
    refine r_iload_n (pc := 26) h 4 d_D_turnedWord_26 rfl rfl ?_
    refine r_laload (pc := 27) h q0 (z := f j) j d_D_turnedWord_27 hq rfl hj (by decide) rfl ?_
    refine r_lload_n (pc := 28) h 1 d_D_turnedWord_28 rfl rfl ?_
    refine r_ldc2 (pc := 29) h (v := (-1)) d_D_turnedWord_29 (List.mem_cons_of_mem _ w_145) ?_
    refine r_lxor (pc := 32) h (z := (tp v) ^^^ (-1)) d_D_turnedWord_32 rfl ?_
    refine r_land (pc := 33) h (z := (f j) &&& ((tp v) ^^^ (-1))) d_D_turnedWord_33 rfl ?_
    refine r_iload (pc := 34) h 0 d_D_turnedWord_34 rfl ?_
    refine r_lshl (pc := 36) h (z := ((f j) &&& ((tp v) ^^^ (-1))) <<< ((nI (2 ^ v)).toInt64 &&& 63)) d_D_turnedWord_36 rfl ?_
    refine r_lor (pc := 37) h (z := ((((f j) &&& (tp v)).toUInt64 >>> ((nI (2 ^ v)).toInt64.toUInt64 &&& Int64.toUInt64 63)).toInt64) ||| (((f j) &&& ((tp v) ^^^ (-1))) <<< ((nI (2 ^ v)).toInt64 &&& 63))) d_D_turnedWord_37 rfl ?_
    refine Wv.top (show Value.long _ = .long (tW f v j) by rw [show tW f v j = _ from if_pos hv6]) ?_
    exact r_lret (pc := 38) h hr d_D_turnedWord_38
theorem c_fixedWord_true (q0 a v j : Nat) (f : Nat → Int64) (hq : ws[q0]? = some (a, rwL G f)) (hv : v < 10) (hj : j < 16) : Ct l y_D_fixedWord (.code y_D_fixedWord b_D_fixedWord 6 (some .long) :: TT) (rmF 2 42) G [.ref a, .int (nI v), .int (bI true), .int (nI j)] ws (some (.long (fW f v true j))) ws := by
  refine ct_intro (cc := b_D_fixedWord) (nL := 6) (by decide) [(0, .ref a), (1, .int (nI v)), (2, .int (bI true)), (3, .int (nI j))] rfl (Nat.le_of_ble_eq_true rfl) ?_
  intro p e s m below meth c A h hr
  refine r_iload_n (pc := 0) h 2 d_D_fixedWord_0 rfl rfl ?_
  refine r_if_eq_f (pc := 1) h (tgt := 12) d_D_fixedWord_1 (by decide) (by decide) ?_
  refine r_iload_n (pc := 4) h 1 d_D_fixedWord_4 rfl rfl ?_
  refine r_iload_n (pc := 5) h 3 d_D_fixedWord_5 rfl rfl ?_
  refine r_invSa (pc := 6) h (st := []) d_D_fixedWord_6 (c_variableWord v j hv hj) (r_cS h wc_D_variableWord w_137 w_1 w_138 hd_D_variableWord ⟨(Nat.le_of_ble_eq_true rfl), (Nat.le_of_ble_eq_true rfl)⟩ rfl rfl) rfl rfl (Nat.le_of_ble_eq_true rfl) ⟨(Nat.le_of_ble_eq_true rfl), (Nat.le_of_ble_eq_true rfl)⟩ rfl ?_
  refine r_goto (pc := 9) h (tgt := 21) d_D_fixedWord_9 (by decide) ?_
  refine r_lstore (pc := 21) h (lv' := [(4, .long (vW v j)), (0, .ref a), (1, .int (nI v)), (2, .int (bI true)), (3, .int (nI j))]) d_D_fixedWord_21 (by decide) rfl ?_
  refine r_lload (pc := 23) h 0 d_D_fixedWord_23 rfl ?_
  refine r_aload_n (pc := 25) h 1 d_D_fixedWord_25 rfl rfl ?_
  refine r_iload_n (pc := 26) h 4 d_D_fixedWord_26 rfl rfl ?_
  refine r_laload (pc := 27) h q0 (z := f j) j d_D_fixedWord_27 hq rfl hj (by decide) rfl ?_
  refine r_aload_n (pc := 28) h 1 d_D_fixedWord_28 rfl rfl ?_
  refine r_iload_n (pc := 29) h 2 d_D_fixedWord_29 rfl rfl ?_
  refine r_iload_n (pc := 30) h 4 d_D_fixedWord_30 rfl rfl ?_
  refine r_invSa (pc := 31) h (st := [.long (f j), .long (vW v j)]) d_D_fixedWord_31 (c_turnedWord q0 a v j f hq hv hj) (r_cS h wc_D_turnedWord w_194 w_1 w_195 hd_D_turnedWord ⟨(Nat.le_of_ble_eq_true rfl), (Nat.le_of_ble_eq_true rfl)⟩ rfl rfl) rfl rfl (Nat.le_of_ble_eq_true rfl) ⟨(Nat.le_of_ble_eq_true rfl), (Nat.le_of_ble_eq_true rfl)⟩ rfl ?_
  refine r_invSa (pc := 34) h (st := []) d_D_fixedWord_34 (c_chosenWord (vW v j) (f j) (tW f v j)) (r_cS h wc_D_chosenWord w_181 w_1 w_182 hd_D_chosenWord ⟨(Nat.le_of_ble_eq_true rfl), (Nat.le_of_ble_eq_true rfl)⟩ rfl rfl) rfl rfl (Nat.le_of_ble_eq_true rfl) ⟨(Nat.le_of_ble_eq_true rfl), (Nat.le_of_ble_eq_true rfl)⟩ rfl ?_
  exact r_lret (pc := 37) h hr d_D_fixedWord_37
theorem c_fixedWord_false (q0 a v j : Nat) (f : Nat → Int64) (hq : ws[q0]? = some (a, rwL G f)) (hv : v < 10) (hj : j < 16) : Ct l y_D_fixedWord (.code y_D_fixedWord b_D_fixedWord 6 (some .long) :: TT) (rmF 2 42) G [.ref a, .int (nI v), .int (bI false), .int (nI j)] ws (some (.long (fW f v false j))) ws := by
  refine ct_intro (cc := b_D_fixedWord) (nL := 6) (by decide) [(0, .ref a), (1, .int (nI v)), (2, .int (bI false)), (3, .int (nI j))] rfl (Nat.le_of_ble_eq_true rfl) ?_
  intro p e s m below meth c A h hr
  refine r_iload_n (pc := 0) h 2 d_D_fixedWord_0 rfl rfl ?_
  refine r_if_eq_t (pc := 1) h (tgt := 12) d_D_fixedWord_1 (by decide) rfl ?_
  refine r_iload_n (pc := 12) h 1 d_D_fixedWord_12 rfl rfl ?_
  refine r_iload_n (pc := 13) h 3 d_D_fixedWord_13 rfl rfl ?_
  refine r_invSa (pc := 14) h (st := []) d_D_fixedWord_14 (c_variableWord v j hv hj) (r_cS h wc_D_variableWord w_137 w_1 w_138 hd_D_variableWord ⟨(Nat.le_of_ble_eq_true rfl), (Nat.le_of_ble_eq_true rfl)⟩ rfl rfl) rfl rfl (Nat.le_of_ble_eq_true rfl) ⟨(Nat.le_of_ble_eq_true rfl), (Nat.le_of_ble_eq_true rfl)⟩ rfl ?_
  refine r_ldc2 (pc := 17) h (v := (-1)) d_D_fixedWord_17 (List.mem_cons_of_mem _ w_145) ?_
  refine r_lxor (pc := 20) h (z := (vW v j) ^^^ (-1)) d_D_fixedWord_20 rfl ?_
  refine r_lstore (pc := 21) h (lv' := [(4, .long ((vW v j) ^^^ (-1))), (0, .ref a), (1, .int (nI v)), (2, .int (bI false)), (3, .int (nI j))]) d_D_fixedWord_21 (by decide) rfl ?_
  refine r_lload (pc := 23) h 0 d_D_fixedWord_23 rfl ?_
  refine r_aload_n (pc := 25) h 1 d_D_fixedWord_25 rfl rfl ?_
  refine r_iload_n (pc := 26) h 4 d_D_fixedWord_26 rfl rfl ?_
  refine r_laload (pc := 27) h q0 (z := f j) j d_D_fixedWord_27 hq rfl hj (by decide) rfl ?_
  refine r_aload_n (pc := 28) h 1 d_D_fixedWord_28 rfl rfl ?_
  refine r_iload_n (pc := 29) h 2 d_D_fixedWord_29 rfl rfl ?_
  refine r_iload_n (pc := 30) h 4 d_D_fixedWord_30 rfl rfl ?_
  refine r_invSa (pc := 31) h (st := [.long (f j), .long ((vW v j) ^^^ (-1))]) d_D_fixedWord_31 (c_turnedWord q0 a v j f hq hv hj) (r_cS h wc_D_turnedWord w_194 w_1 w_195 hd_D_turnedWord ⟨(Nat.le_of_ble_eq_true rfl), (Nat.le_of_ble_eq_true rfl)⟩ rfl rfl) rfl rfl (Nat.le_of_ble_eq_true rfl) ⟨(Nat.le_of_ble_eq_true rfl), (Nat.le_of_ble_eq_true rfl)⟩ rfl ?_
  refine r_invSa (pc := 34) h (st := []) d_D_fixedWord_34 (c_chosenWord ((vW v j) ^^^ (-1)) (f j) (tW f v j)) (r_cS h wc_D_chosenWord w_181 w_1 w_182 hd_D_chosenWord ⟨(Nat.le_of_ble_eq_true rfl), (Nat.le_of_ble_eq_true rfl)⟩ rfl rfl) rfl rfl (Nat.le_of_ble_eq_true rfl) ⟨(Nat.le_of_ble_eq_true rfl), (Nat.le_of_ble_eq_true rfl)⟩ rfl ?_
  exact r_lret (pc := 37) h hr d_D_fixedWord_37
theorem c_fixedWord (q0 a v j : Nat) (b : Bool) (f : Nat → Int64) (hq : ws[q0]? = some (a, rwL G f)) (hv : v < 10) (hj : j < 16) : Ct l y_D_fixedWord (.code y_D_fixedWord b_D_fixedWord 6 (some .long) :: TT) (rmF 2 42) G [.ref a, .int (nI v), .int (bI b), .int (nI j)] ws (some (.long (fW f v b j))) ws := by
  cases b
  · exact c_fixedWord_false q0 a v j f hq hv hj
  · exact c_fixedWord_true q0 a v j f hq hv hj
end LF
end
section
-- loops; throw new E("text")
section RL
variable {p : Program} {l : Launch} {e : Env} {R : Room} {s : State} {m : MethodId} {args : Array Value} {below : List Frame} {meth : Method} {c : Code} {cells slots : Nat} {Q : State → Prop} {G : gG} {A : Nat → Prop} {nL : Nat} {cc : ByteArray} {own : String} {wd : Cond} {ws ws' : va_W} {pc : Nat} {lv : List (Nat × Value)} {st : List Value}
theorem Wv.loop (n : Nat) (Wd : Nat → va_W) (Lv : Nat → List (Nat × Value)) (hend : Wv p l e R s m args below meth c G A nL cells slots Q (Wd n) pc (Lv n) st) (hstep : ∀ i, i < n → Wv p l e R s m args below meth c G A nL cells slots Q (Wd (i + 1)) pc (Lv (i + 1)) st → Wv p l e R s m args below meth c G A nL cells slots Q (Wd i) pc (Lv i) st) : Wv p l e R s m args below meth c G A nL cells slots Q (Wd 0) pc (Lv 0) st :=
  up_to n (P := fun i => Wv p l e R s m args below meth c G A nL cells slots Q (Wd i) pc (Lv i) st) hend hstep
theorem r_throw (h : Fx p m c s args meth own cc nL (wd :: TT) G A) (hl : l.stackTraces = false) (hex : ∀ x ∈ c.exceptionTable.toList, False) {E text : String} {names : List String} {ik is ic : Nat} {Qc : Array Value → State → Outcome → State → Prop}
    (hcls : Bundle.fit E = true) (hnames : ∀ n ∈ names, Bundle.fit n = true) (hk : Cond.classLink own ik E ∈ TT) (hini : Cond.initialized E ∈ TT) (hstr : (own, is, text) ∈ strs)
    (h1 : ∀ w ∈ (vx_atS own ic E names).filter goodWord, w ∈ TT) (h2 : ∀ w ∈ (vx_atS own ic E names).filter (fun w => !goodWord w), w ∈ nws)
    (hgood : ∀ w ∈ Cond.classLink own ik E :: Cond.initialized E :: vx_atS own ic E names, vx_ot w = true)
    (d0 : decode cc pc = .ok (.new ik, 3)) (d3 : decode cc (pc + 3) = .ok (.dup, 1)) (d4 : decode cc (pc + 4) = .ok (.ldc is, 2)) (d6 : decode cc (pc + 6) = .ok (.invokespecial ic, 3)) (d9 : decode cc (pc + 9) = .ok (.athrow, 1))
    (hRframes : names.length + 3 < R.frames) (hRlocals : (st.map fun v => v.category).sum + (13 * (names.length + 1) + 43) ≤ R.locals) (hRcells : 0 + 1 ≤ R.cells) (hRslots : 0 + 6 ≤ R.slots) : Wv p l e R s m args below meth c G A nL 0 0 (vx_MQ below Qc (XE G A E ws) args s 1 6 A) ws pc lv st := by
  intro H locs ls hP hD hS hl9
  obtain ⟨sa, hsa⟩ := h.2.2.1.2.2.2.1 _ hstr
  have hT : ∀ w ∈ TT, w.before args s = true := fun w hw => h.1.2.2.2.2 _ (List.mem_cons_of_mem _ hw)
  refine vx_throwS h.1.1 h.1.2.1 hl h.1.2.2.2.1 hcls hnames (hT _ hk) (hT _ hini) hsa (vx_hat (B := nws) (fun w hw => hT w (h1 w hw)) h2 (fun w hw => va_Nw.use (by
    simp only [nws, List.mem_cons, List.not_mem_nil, or_false] at hw
    rcases hw with rfl | rfl | rfl | rfl | rfl | rfl | rfl | rfl | rfl | rfl | rfl | rfl | rfl <;> rfl) (h.nw hw))) hgood h.2.2.1.2.1 h.2.2.1.2.2.1 hS (hl9.1.trans h.1.2.2.1.symm) d0 d3 d4 d6 d9 (fun x hx => (hex x hx).elim) hRframes hRlocals hRcells hRslots h.2.2.2.2 ?_ hS.2.2 (Nat.le_refl _) (Nat.le_refl _)
  intro t ht hsz hold
  exact ⟨rfl, hP.kept (fun k q hk => hold q.1 (hP k q hk).lt), Nat.le_trans hS.1 hsz, fun q h1 h2 => by rw [hold q (Nat.lt_of_lt_of_le h1 hS.1)]; exact hS.2.1 q h1 h2⟩
end RL
abbrev IAE : String := "java/lang/IllegalArgumentException"
abbrev NSE : String := "java/util/NoSuchElementException"
abbrev upN : List String := ["java/lang/RuntimeException", "java/lang/Exception"]
theorem up_fit : ∀ n ∈ upN, Bundle.fit n = true := by decide +kernel
theorem iae_fit : Bundle.fit IAE = true := by decide +kernel
theorem nse_fit : Bundle.fit NSE = true := by decide +kernel
theorem iae_g : ∀ w ∈ Cond.classLink "DiagramBench" 121 IAE :: Cond.initialized IAE :: vx_atS "DiagramBench" 125 IAE upN, vx_ot w = true := by decide +kernel
theorem iae_2 : ∀ w ∈ (vx_atS "DiagramBench" 125 IAE upN).filter (fun w => !goodWord w), w ∈ nws := by decide +kernel
theorem iae_1 : ∀ w ∈ (vx_atS "DiagramBench" 125 IAE upN).filter goodWord, w ∈ TT := by decide +kernel
end
section
-- the class's checks and private methods
theorem lg_0 (x y : Int64) : lg_cmp x y = 0 ↔ x = y := by
  unfold lg_cmp
  constructor
  · intro h
    split at h
    · exact absurd h (by decide)
    · split at h
      · assumption
      · exact absurd h (by decide)
  · intro h
    subst h
    have : ¬ x > x := fun q => by
      have := Int64.lt_iff_toInt_lt.mp q
      omega
    rw [if_neg this, if_pos rfl]
section CK
variable {l : Launch} {G : gG} {ws : va_W}
theorem c_checkRegister (r : Nat) (hr0 : r < 16) : Ct l y_D_checkRegister (.code y_D_checkRegister b_D_checkRegister 1 none :: TT) (rmF 0 0) G [.int (nI r)] ws none ws := by
  refine ct_intro (cc := b_D_checkRegister) (nL := 1) (by decide) [(0, .int (nI r))] rfl (Nat.le_of_ble_eq_true rfl) ?_
  intro p e s m below meth c A h hr
  refine r_iload_n (pc := 0) h 0 d_D_checkRegister_0 rfl rfl ?_
  refine r_if_lt_f (pc := 1) h (tgt := 10) d_D_checkRegister_1 (by decide) (nI_pos (by omega)) ?_
  refine r_iload_n (pc := 4) h 0 d_D_checkRegister_4 rfl rfl ?_
  refine r_bipush (pc := 5) h (v := nI 16) d_D_checkRegister_5 (by decide) ?_
  refine r_icmp_lt_t (pc := 7) h (tgt := 20) d_D_checkRegister_7 (by decide) (nI_lt hr0 (by decide)) ?_
  exact r_vret (pc := 20) h hr d_D_checkRegister_20
theorem t_checkRegister (hl : l.stackTraces = false) (x : Int32) (hx : x < 0 ∨ nI 16 ≤ x) : Tt l y_D_checkRegister (.code y_D_checkRegister b_D_checkRegister 1 none :: TT) (rmX 6 82) G [.int x] ws IAE := by
  refine tt_intro (cc := b_D_checkRegister) (nL := 1) (by decide) [(0, .int x)] rfl (Nat.le_of_ble_eq_true rfl) ?_
  intro p e s m below meth c A h hr hex
  refine r_iload_n (pc := 0) h 0 d_D_checkRegister_0 rfl rfl ?_
  refine r_if_lt (pc := 1) h (tgt := 10) d_D_checkRegister_1 (by decide) (fun q1 => ?_) (fun q1 => ?_)
  · exact r_throw (pc := 10) h hl hex (E := IAE) (text := "no such register") (names := upN) (ik := 121) (is := 126) (ic := 125) iae_fit up_fit w_66 w_7 (by decide) iae_1 iae_2 iae_g d_D_checkRegister_10 d_D_checkRegister_13 d_D_checkRegister_14 d_D_checkRegister_16 d_D_checkRegister_19 (Nat.le_of_ble_eq_true rfl) (Nat.le_of_ble_eq_true rfl) (Nat.le_of_ble_eq_true rfl) (Nat.le_of_ble_eq_true rfl)
  · refine r_iload_n (pc := 4) h 0 d_D_checkRegister_4 rfl rfl ?_
    refine r_bipush (pc := 5) h (v := nI 16) d_D_checkRegister_5 (by decide) ?_
    refine r_icmp_lt_f (pc := 7) h (tgt := 20) d_D_checkRegister_7 (by decide) (hx.elim (fun z => absurd z q1) (fun z => by rw [Int32.not_lt]; exact z)) ?_
    exact r_throw (pc := 10) h hl hex (E := IAE) (text := "no such register") (names := upN) (ik := 121) (is := 126) (ic := 125) iae_fit up_fit w_66 w_7 (by decide) iae_1 iae_2 iae_g d_D_checkRegister_10 d_D_checkRegister_13 d_D_checkRegister_14 d_D_checkRegister_16 d_D_checkRegister_19 (Nat.le_of_ble_eq_true rfl) (Nat.le_of_ble_eq_true rfl) (Nat.le_of_ble_eq_true rfl) (Nat.le_of_ble_eq_true rfl)
theorem c_checkVariable (r : Nat) (hr0 : r < 10) : Ct l y_D_checkVariable (.code y_D_checkVariable b_D_checkVariable 1 none :: TT) (rmF 0 0) G [.int (nI r)] ws none ws := by
  refine ct_intro (cc := b_D_checkVariable) (nL := 1) (by decide) [(0, .int (nI r))] rfl (Nat.le_of_ble_eq_true rfl) ?_
  intro p e s m below meth c A h hr
  refine r_iload_n (pc := 0) h 0 d_D_checkVariable_0 rfl rfl ?_
  refine r_if_lt_f (pc := 1) h (tgt := 10) d_D_checkVariable_1 (by decide) (nI_pos (by omega)) ?_
  refine r_iload_n (pc := 4) h 0 d_D_checkVariable_4 rfl rfl ?_
  refine r_bipush (pc := 5) h (v := nI 10) d_D_checkVariable_5 (by decide) ?_
  refine r_icmp_lt_t (pc := 7) h (tgt := 20) d_D_checkVariable_7 (by decide) (nI_lt hr0 (by decide)) ?_
  exact r_vret (pc := 20) h hr d_D_checkVariable_20
theorem t_checkVariable (hl : l.stackTraces = false) (x : Int32) (hx : x < 0 ∨ nI 10 ≤ x) : Tt l y_D_checkVariable (.code y_D_checkVariable b_D_checkVariable 1 none :: TT) (rmX 6 82) G [.int x] ws IAE := by
  refine tt_intro (cc := b_D_checkVariable) (nL := 1) (by decide) [(0, .int x)] rfl (Nat.le_of_ble_eq_true rfl) ?_
  intro p e s m below meth c A h hr hex
  refine r_iload_n (pc := 0) h 0 d_D_checkVariable_0 rfl rfl ?_
  refine r_if_lt (pc := 1) h (tgt := 10) d_D_checkVariable_1 (by decide) (fun q1 => ?_) (fun q1 => ?_)
  · exact r_throw (pc := 10) h hl hex (E := IAE) (text := "no such variable") (names := upN) (ik := 121) (is := 128) (ic := 125) iae_fit up_fit w_66 w_7 (by decide) iae_1 iae_2 iae_g d_D_checkVariable_10 d_D_checkVariable_13 d_D_checkVariable_14 d_D_checkVariable_16 d_D_checkVariable_19 (Nat.le_of_ble_eq_true rfl) (Nat.le_of_ble_eq_true rfl) (Nat.le_of_ble_eq_true rfl) (Nat.le_of_ble_eq_true rfl)
  · refine r_iload_n (pc := 4) h 0 d_D_checkVariable_4 rfl rfl ?_
    refine r_bipush (pc := 5) h (v := nI 10) d_D_checkVariable_5 (by decide) ?_
    refine r_icmp_lt_f (pc := 7) h (tgt := 20) d_D_checkVariable_7 (by decide) (hx.elim (fun z => absurd z q1) (fun z => by rw [Int32.not_lt]; exact z)) ?_
    exact r_throw (pc := 10) h hl hex (E := IAE) (text := "no such variable") (names := upN) (ik := 121) (is := 128) (ic := 125) iae_fit up_fit w_66 w_7 (by decide) iae_1 iae_2 iae_g d_D_checkVariable_10 d_D_checkVariable_13 d_D_checkVariable_14 d_D_checkVariable_16 d_D_checkVariable_19 (Nat.le_of_ble_eq_true rfl) (Nat.le_of_ble_eq_true rfl) (Nat.le_of_ble_eq_true rfl) (Nat.le_of_ble_eq_true rfl)
theorem c_checkAssignment (r : Nat) (hr0 : r < 1024) : Ct l y_D_checkAssignment (.code y_D_checkAssignment b_D_checkAssignment 1 none :: TT) (rmF 0 0) G [.int (nI r)] ws none ws := by
  refine ct_intro (cc := b_D_checkAssignment) (nL := 1) (by decide) [(0, .int (nI r))] rfl (Nat.le_of_ble_eq_true rfl) ?_
  intro p e s m below meth c A h hr
  refine r_iload_n (pc := 0) h 0 d_D_checkAssignment_0 rfl rfl ?_
  refine r_if_lt_f (pc := 1) h (tgt := 11) d_D_checkAssignment_1 (by decide) (nI_pos (by omega)) ?_
  refine r_iload_n (pc := 4) h 0 d_D_checkAssignment_4 rfl rfl ?_
  refine r_sipush (pc := 5) h (v := nI 1024) d_D_checkAssignment_5 (by decide) ?_
  refine r_icmp_lt_t (pc := 8) h (tgt := 21) d_D_checkAssignment_8 (by decide) (nI_lt hr0 (by decide)) ?_
  exact r_vret (pc := 21) h hr d_D_checkAssignment_21
theorem t_checkAssignment (hl : l.stackTraces = false) (x : Int32) (hx : x < 0 ∨ nI 1024 ≤ x) : Tt l y_D_checkAssignment (.code y_D_checkAssignment b_D_checkAssignment 1 none :: TT) (rmX 6 82) G [.int x] ws IAE := by
  refine tt_intro (cc := b_D_checkAssignment) (nL := 1) (by decide) [(0, .int x)] rfl (Nat.le_of_ble_eq_true rfl) ?_
  intro p e s m below meth c A h hr hex
  refine r_iload_n (pc := 0) h 0 d_D_checkAssignment_0 rfl rfl ?_
  refine r_if_lt (pc := 1) h (tgt := 11) d_D_checkAssignment_1 (by decide) (fun q1 => ?_) (fun q1 => ?_)
  · exact r_throw (pc := 11) h hl hex (E := IAE) (text := "no such assignment") (names := upN) (ik := 121) (is := 130) (ic := 125) iae_fit up_fit w_66 w_7 (by decide) iae_1 iae_2 iae_g d_D_checkAssignment_11 d_D_checkAssignment_14 d_D_checkAssignment_15 d_D_checkAssignment_17 d_D_checkAssignment_20 (Nat.le_of_ble_eq_true rfl) (Nat.le_of_ble_eq_true rfl) (Nat.le_of_ble_eq_true rfl) (Nat.le_of_ble_eq_true rfl)
  · refine r_iload_n (pc := 4) h 0 d_D_checkAssignment_4 rfl rfl ?_
    refine r_sipush (pc := 5) h (v := nI 1024) d_D_checkAssignment_5 (by decide) ?_
    refine r_icmp_lt_f (pc := 8) h (tgt := 21) d_D_checkAssignment_8 (by decide) (hx.elim (fun z => absurd z q1) (fun z => by rw [Int32.not_lt]; exact z)) ?_
    exact r_throw (pc := 11) h hl hex (E := IAE) (text := "no such assignment") (names := upN) (ik := 121) (is := 130) (ic := 125) iae_fit up_fit w_66 w_7 (by decide) iae_1 iae_2 iae_g d_D_checkAssignment_11 d_D_checkAssignment_14 d_D_checkAssignment_15 d_D_checkAssignment_17 d_D_checkAssignment_20 (Nat.le_of_ble_eq_true rfl) (Nat.le_of_ble_eq_true rfl) (Nat.le_of_ble_eq_true rfl) (Nat.le_of_ble_eq_true rfl)
theorem c_checkSet (r : Nat) (hr0 : r < 1024) : Ct l y_D_checkSet (.code y_D_checkSet b_D_checkSet 1 none :: TT) (rmF 0 0) G [.int (nI r)] ws none ws := by
  refine ct_intro (cc := b_D_checkSet) (nL := 1) (by decide) [(0, .int (nI r))] rfl (Nat.le_of_ble_eq_true rfl) ?_
  intro p e s m below meth c A h hr
  refine r_iload_n (pc := 0) h 0 d_D_checkSet_0 rfl rfl ?_
  refine r_if_lt_f (pc := 1) h (tgt := 11) d_D_checkSet_1 (by decide) (nI_pos (by omega)) ?_
  refine r_iload_n (pc := 4) h 0 d_D_checkSet_4 rfl rfl ?_
  refine r_sipush (pc := 5) h (v := nI 1024) d_D_checkSet_5 (by decide) ?_
  refine r_icmp_lt_t (pc := 8) h (tgt := 21) d_D_checkSet_8 (by decide) (nI_lt hr0 (by decide)) ?_
  exact r_vret (pc := 21) h hr d_D_checkSet_21
theorem t_checkSet (hl : l.stackTraces = false) (x : Int32) (hx : x < 0 ∨ nI 1024 ≤ x) : Tt l y_D_checkSet (.code y_D_checkSet b_D_checkSet 1 none :: TT) (rmX 6 82) G [.int x] ws IAE := by
  refine tt_intro (cc := b_D_checkSet) (nL := 1) (by decide) [(0, .int x)] rfl (Nat.le_of_ble_eq_true rfl) ?_
  intro p e s m below meth c A h hr hex
  refine r_iload_n (pc := 0) h 0 d_D_checkSet_0 rfl rfl ?_
  refine r_if_lt (pc := 1) h (tgt := 11) d_D_checkSet_1 (by decide) (fun q1 => ?_) (fun q1 => ?_)
  · exact r_throw (pc := 11) h hl hex (E := IAE) (text := "no such set") (names := upN) (ik := 121) (is := 132) (ic := 125) iae_fit up_fit w_66 w_7 (by decide) iae_1 iae_2 iae_g d_D_checkSet_11 d_D_checkSet_14 d_D_checkSet_15 d_D_checkSet_17 d_D_checkSet_20 (Nat.le_of_ble_eq_true rfl) (Nat.le_of_ble_eq_true rfl) (Nat.le_of_ble_eq_true rfl) (Nat.le_of_ble_eq_true rfl)
  · refine r_iload_n (pc := 4) h 0 d_D_checkSet_4 rfl rfl ?_
    refine r_sipush (pc := 5) h (v := nI 1024) d_D_checkSet_5 (by decide) ?_
    refine r_icmp_lt_f (pc := 8) h (tgt := 21) d_D_checkSet_8 (by decide) (hx.elim (fun z => absurd z q1) (fun z => by rw [Int32.not_lt]; exact z)) ?_
    exact r_throw (pc := 11) h hl hex (E := IAE) (text := "no such set") (names := upN) (ik := 121) (is := 132) (ic := 125) iae_fit up_fit w_66 w_7 (by decide) iae_1 iae_2 iae_g d_D_checkSet_11 d_D_checkSet_14 d_D_checkSet_15 d_D_checkSet_17 d_D_checkSet_20 (Nat.le_of_ble_eq_true rfl) (Nat.le_of_ble_eq_true rfl) (Nat.le_of_ble_eq_true rfl) (Nat.le_of_ble_eq_true rfl)
theorem c_checkKind (r : Nat) (hr0 : r < 5) : Ct l y_D_checkKind (.code y_D_checkKind b_D_checkKind 1 none :: TT) (rmF 0 0) G [.int (nI r)] ws none ws := by
  refine ct_intro (cc := b_D_checkKind) (nL := 1) (by decide) [(0, .int (nI r))] rfl (Nat.le_of_ble_eq_true rfl) ?_
  intro p e s m below meth c A h hr
  refine r_iload_n (pc := 0) h 0 d_D_checkKind_0 rfl rfl ?_
  refine r_if_lt_f (pc := 1) h (tgt := 9) d_D_checkKind_1 (by decide) (nI_pos (by omega)) ?_
  refine r_iload_n (pc := 4) h 0 d_D_checkKind_4 rfl rfl ?_
  refine r_iconst (pc := 5) h (v := nI 5) d_D_checkKind_5 (by decide) ?_
  refine r_icmp_lt_t (pc := 6) h (tgt := 19) d_D_checkKind_6 (by decide) (nI_lt hr0 (by decide)) ?_
  exact r_vret (pc := 19) h hr d_D_checkKind_19
theorem t_checkKind (hl : l.stackTraces = false) (x : Int32) (hx : x < 0 ∨ nI 5 ≤ x) : Tt l y_D_checkKind (.code y_D_checkKind b_D_checkKind 1 none :: TT) (rmX 6 82) G [.int x] ws IAE := by
  refine tt_intro (cc := b_D_checkKind) (nL := 1) (by decide) [(0, .int x)] rfl (Nat.le_of_ble_eq_true rfl) ?_
  intro p e s m below meth c A h hr hex
  refine r_iload_n (pc := 0) h 0 d_D_checkKind_0 rfl rfl ?_
  refine r_if_lt (pc := 1) h (tgt := 9) d_D_checkKind_1 (by decide) (fun q1 => ?_) (fun q1 => ?_)
  · exact r_throw (pc := 9) h hl hex (E := IAE) (text := "no such kind") (names := upN) (ik := 121) (is := 134) (ic := 125) iae_fit up_fit w_66 w_7 (by decide) iae_1 iae_2 iae_g d_D_checkKind_9 d_D_checkKind_12 d_D_checkKind_13 d_D_checkKind_15 d_D_checkKind_18 (Nat.le_of_ble_eq_true rfl) (Nat.le_of_ble_eq_true rfl) (Nat.le_of_ble_eq_true rfl) (Nat.le_of_ble_eq_true rfl)
  · refine r_iload_n (pc := 4) h 0 d_D_checkKind_4 rfl rfl ?_
    refine r_iconst (pc := 5) h (v := nI 5) d_D_checkKind_5 (by decide) ?_
    refine r_icmp_lt_f (pc := 6) h (tgt := 19) d_D_checkKind_6 (by decide) (hx.elim (fun z => absurd z q1) (fun z => by rw [Int32.not_lt]; exact z)) ?_
    exact r_throw (pc := 9) h hl hex (E := IAE) (text := "no such kind") (names := upN) (ik := 121) (is := 134) (ic := 125) iae_fit up_fit w_66 w_7 (by decide) iae_1 iae_2 iae_g d_D_checkKind_9 d_D_checkKind_12 d_D_checkKind_13 d_D_checkKind_15 d_D_checkKind_18 (Nat.le_of_ble_eq_true rfl) (Nat.le_of_ble_eq_true rfl) (Nat.le_of_ble_eq_true rfl) (Nat.le_of_ble_eq_true rfl)
end CK
section CP
variable {l : Launch} {G : gG} {a : Nat → Nat} {hd : Nat → Nat → Int64} {wk sp : Nat → Int64} {ct : Int32} {ky nm : Nat → Int32}
theorem c_hangsOn_f {ws : va_W} (q0 b v : Nat) (f : Nat → Int64) (hq : ws[q0]? = some (b, rwL G f)) (hv : v < 10) (hn : ∀ i, i < 16 → f i = tW f v i) : Ct l y_D_hangsOn (.code y_D_hangsOn b_D_hangsOn 3 (some .boolean) :: TT) (rmF 1 25) G [.ref b, .int (nI v)] ws (some (.int (bI false))) ws := by
  refine ct_intro (cc := b_D_hangsOn) (nL := 3) (by decide) [(0, .ref b), (1, .int (nI v))] rfl (Nat.le_of_ble_eq_true rfl) ?_
  intro p e s m below meth c A h hr
  refine r_iconst (pc := 0) h (v := nI 0) d_D_hangsOn_0 (by decide) ?_
  refine r_istore_n (pc := 1) h (lv' := [(2, .int (nI 0)), (0, .ref b), (1, .int (nI v))]) d_D_hangsOn_1 rfl (by decide) rfl ?_
  refine Wv.loop 16 (fun i => ws) (fun i => [(2, .int (nI i)), (0, .ref b), (1, .int (nI v))]) ?_ ?_
  · show Wv p l e _ s m _ below meth c G A _ _ _ _ ws 2 [(2, .int (nI 16)), (0, .ref b), (1, .int (nI v))] []
    refine r_iload_n (pc := 2) h 0 d_D_hangsOn_2 rfl rfl ?_
    refine r_bipush (pc := 3) h (v := nI 16) d_D_hangsOn_3 (by decide) ?_
    refine r_icmp_ge_t (pc := 5) h (tgt := 29) d_D_hangsOn_5 (by decide) (nI_le (Nat.le_refl _) (by decide)) ?_
    refine r_iconst (pc := 29) h (v := bI false) d_D_hangsOn_29 (by decide) ?_
    exact r_zret (pc := 30) h hr (bI_nrw _) d_D_hangsOn_30
  · intro i hi ih
    have ih : Wv p l e _ s m _ below meth c G A _ _ _ _ ws 2 [(2, .int (nI (i + 1))), (0, .ref b), (1, .int (nI v))] [] := ih
    show Wv p l e _ s m _ below meth c G A _ _ _ _ ws 2 [(2, .int (nI i)), (0, .ref b), (1, .int (nI v))] []
    refine r_iload_n (pc := 2) h 0 d_D_hangsOn_2 rfl rfl ?_
    refine r_bipush (pc := 3) h (v := nI 16) d_D_hangsOn_3 (by decide) ?_
    refine r_icmp_ge_f (pc := 5) h (tgt := 29) d_D_hangsOn_5 (by decide) (nI_ge hi (by decide)) ?_
    refine r_aload_n (pc := 8) h 1 d_D_hangsOn_8 rfl rfl ?_
    refine r_iload_n (pc := 9) h 0 d_D_hangsOn_9 rfl rfl ?_
    refine r_laload (pc := 10) h q0 (z := f i) i d_D_hangsOn_10 hq rfl hi (by decide) rfl ?_
    refine r_aload_n (pc := 11) h 1 d_D_hangsOn_11 rfl rfl ?_
    refine r_iload_n (pc := 12) h 2 d_D_hangsOn_12 rfl rfl ?_
    refine r_iload_n (pc := 13) h 0 d_D_hangsOn_13 rfl rfl ?_
    refine r_invSa (pc := 14) h (st := [.long (f i)]) d_D_hangsOn_14 (c_turnedWord q0 b v i f hq hv hi) (r_cS h wc_D_turnedWord w_194 w_1 w_195 hd_D_turnedWord ⟨(Nat.le_of_ble_eq_true rfl), (Nat.le_of_ble_eq_true rfl)⟩ rfl rfl) rfl rfl (Nat.le_of_ble_eq_true rfl) ⟨(Nat.le_of_ble_eq_true rfl), (Nat.le_of_ble_eq_true rfl)⟩ rfl ?_
    refine r_lcmp (pc := 17) h (z := 0) d_D_hangsOn_17 ((lg_0 _ _).mpr (hn i hi)) ?_
    refine r_if_eq_t (pc := 18) h (tgt := 23) d_D_hangsOn_18 (by decide) rfl ?_
    refine r_iinc (pc := 23) h (v := nI (i + 1)) (lv' := [(2, .int (nI (i + 1))), (0, .ref b), (1, .int (nI v))]) 0 d_D_hangsOn_23 rfl (nI_inc i) (by decide) rfl ?_
    refine r_goto (pc := 26) h (tgt := 2) d_D_hangsOn_26 (by decide) ?_
    exact ih
theorem c_hangsOn_t {ws : va_W} (q0 b v n : Nat) (f : Nat → Int64) (hq : ws[q0]? = some (b, rwL G f)) (hv : v < 10) (hn16 : n < 16) (hn : ∀ i, i < n → f i = tW f v i) (hne : f n ≠ tW f v n) : Ct l y_D_hangsOn (.code y_D_hangsOn b_D_hangsOn 3 (some .boolean) :: TT) (rmF 1 25) G [.ref b, .int (nI v)] ws (some (.int (bI true))) ws := by
  refine ct_intro (cc := b_D_hangsOn) (nL := 3) (by decide) [(0, .ref b), (1, .int (nI v))] rfl (Nat.le_of_ble_eq_true rfl) ?_
  intro p e s m below meth c A h hr
  refine r_iconst (pc := 0) h (v := nI 0) d_D_hangsOn_0 (by decide) ?_
  refine r_istore_n (pc := 1) h (lv' := [(2, .int (nI 0)), (0, .ref b), (1, .int (nI v))]) d_D_hangsOn_1 rfl (by decide) rfl ?_
  refine Wv.loop n (fun i => ws) (fun i => [(2, .int (nI i)), (0, .ref b), (1, .int (nI v))]) ?_ ?_
  · show Wv p l e _ s m _ below meth c G A _ _ _ _ ws 2 [(2, .int (nI n)), (0, .ref b), (1, .int (nI v))] []
    refine r_iload_n (pc := 2) h 0 d_D_hangsOn_2 rfl rfl ?_
    refine r_bipush (pc := 3) h (v := nI 16) d_D_hangsOn_3 (by decide) ?_
    refine r_icmp_ge_f (pc := 5) h (tgt := 29) d_D_hangsOn_5 (by decide) (nI_ge hn16 (by decide)) ?_
    refine r_aload_n (pc := 8) h 1 d_D_hangsOn_8 rfl rfl ?_
    refine r_iload_n (pc := 9) h 0 d_D_hangsOn_9 rfl rfl ?_
    refine r_laload (pc := 10) h q0 (z := f n) n d_D_hangsOn_10 hq rfl hn16 (by decide) rfl ?_
    refine r_aload_n (pc := 11) h 1 d_D_hangsOn_11 rfl rfl ?_
    refine r_iload_n (pc := 12) h 2 d_D_hangsOn_12 rfl rfl ?_
    refine r_iload_n (pc := 13) h 0 d_D_hangsOn_13 rfl rfl ?_
    refine r_invSa (pc := 14) h (st := [.long (f n)]) d_D_hangsOn_14 (c_turnedWord q0 b v n f hq hv hn16) (r_cS h wc_D_turnedWord w_194 w_1 w_195 hd_D_turnedWord ⟨(Nat.le_of_ble_eq_true rfl), (Nat.le_of_ble_eq_true rfl)⟩ rfl rfl) rfl rfl (Nat.le_of_ble_eq_true rfl) ⟨(Nat.le_of_ble_eq_true rfl), (Nat.le_of_ble_eq_true rfl)⟩ rfl ?_
    refine r_lcmp (pc := 17) h (z := lg_cmp (f n) (tW f v n)) d_D_hangsOn_17 rfl ?_
    refine r_if_eq_f (pc := 18) h (tgt := 23) d_D_hangsOn_18 (by decide) (fun z => hne ((lg_0 _ _).mp z)) ?_
    refine r_iconst (pc := 21) h (v := bI true) d_D_hangsOn_21 (by decide) ?_
    exact r_zret (pc := 22) h hr (bI_nrw _) d_D_hangsOn_22
  · intro i hi ih
    have ih : Wv p l e _ s m _ below meth c G A _ _ _ _ ws 2 [(2, .int (nI (i + 1))), (0, .ref b), (1, .int (nI v))] [] := ih
    show Wv p l e _ s m _ below meth c G A _ _ _ _ ws 2 [(2, .int (nI i)), (0, .ref b), (1, .int (nI v))] []
    refine r_iload_n (pc := 2) h 0 d_D_hangsOn_2 rfl rfl ?_
    refine r_bipush (pc := 3) h (v := nI 16) d_D_hangsOn_3 (by decide) ?_
    refine r_icmp_ge_f (pc := 5) h (tgt := 29) d_D_hangsOn_5 (by decide) (nI_ge (Nat.lt_trans hi hn16) (by decide)) ?_
    refine r_aload_n (pc := 8) h 1 d_D_hangsOn_8 rfl rfl ?_
    refine r_iload_n (pc := 9) h 0 d_D_hangsOn_9 rfl rfl ?_
    refine r_laload (pc := 10) h q0 (z := f i) i d_D_hangsOn_10 hq rfl (Nat.lt_trans hi hn16) (by decide) rfl ?_
    refine r_aload_n (pc := 11) h 1 d_D_hangsOn_11 rfl rfl ?_
    refine r_iload_n (pc := 12) h 2 d_D_hangsOn_12 rfl rfl ?_
    refine r_iload_n (pc := 13) h 0 d_D_hangsOn_13 rfl rfl ?_
    refine r_invSa (pc := 14) h (st := [.long (f i)]) d_D_hangsOn_14 (c_turnedWord q0 b v i f hq hv (Nat.lt_trans hi hn16)) (r_cS h wc_D_turnedWord w_194 w_1 w_195 hd_D_turnedWord ⟨(Nat.le_of_ble_eq_true rfl), (Nat.le_of_ble_eq_true rfl)⟩ rfl rfl) rfl rfl (Nat.le_of_ble_eq_true rfl) ⟨(Nat.le_of_ble_eq_true rfl), (Nat.le_of_ble_eq_true rfl)⟩ rfl ?_
    refine r_lcmp (pc := 17) h (z := 0) d_D_hangsOn_17 ((lg_0 _ _).mpr (hn i hi)) ?_
    refine r_if_eq_t (pc := 18) h (tgt := 23) d_D_hangsOn_18 (by decide) rfl ?_
    refine r_iinc (pc := 23) h (v := nI (i + 1)) (lv' := [(2, .int (nI (i + 1))), (0, .ref b), (1, .int (nI v))]) 0 d_D_hangsOn_23 rfl (nI_inc i) (by decide) rfl ?_
    refine r_goto (pc := 26) h (tgt := 2) d_D_hangsOn_26 (by decide) ?_
    exact ih
theorem cpy_row (f g : Nat → Int64) : va_cpy f g 0 0 16 = mix 16 f g := by
  funext j
  unfold va_cpy mix
  by_cases h : j < 16 <;> simp [h]
theorem c_store2 (t : Nat) (ht : t < 16) : Ct l y_D_store (.code y_D_store b_D_store 3 none :: TT) (rmF 1 40) G [.ref (a 0), .ref (a 2), .int (nI t)] (cw G a hd wk sp ct ky nm) none (cw G a (va_up hd t (mix 16 wk (hd t))) wk sp ct ky nm) := by
  refine ct_intro (cc := b_D_store) (nL := 3) (by decide) [(0, .ref (a 0)), (1, .ref (a 2)), (2, .int (nI t))] rfl (Nat.le_of_ble_eq_true rfl) ?_
  intro p e s m below meth c A h hr
  refine r_aload_n (pc := 0) h 1 d_D_store_0 rfl rfl ?_
  refine r_iconst (pc := 1) h (v := 0) d_D_store_1 (by decide) ?_
  refine r_aload_n (pc := 2) h 0 d_D_store_2 rfl rfl ?_
  refine r_get (pc := 3) h 0 0 d_D_store_3 cw_0 rfl (by decide) in_D (List.mem_cons_of_mem _ w_42) rfl ?_
  refine r_iload_n (pc := 6) h 2 d_D_store_6 rfl rfl ?_
  refine r_aaload (pc := 7) h 1 3 t d_D_store_7 cw_1 rfl rfl rfl ht (by decide) (cw_o ht) ?_
  refine r_iconst (pc := 8) h (v := 0) d_D_store_8 (by decide) ?_
  refine r_bipush (pc := 9) h (v := nI 16) d_D_store_9 (by decide) ?_
  refine r_copyl (pc := 11) h 2 (7 + t) (ws' := (cw G a (va_up hd t (mix 16 wk (hd t))) wk sp ct ky nm)) 16 d_D_store_11 (List.mem_cons_of_mem _ w_201) (List.mem_cons_of_mem _ w_203) (List.mem_cons_of_mem _ w_202) (List.mem_cons_of_mem _ w_9) cw_2 (cw_r ht) rfl rfl rfl (by decide) (by decide) (by decide) (Nat.le_of_ble_eq_true rfl) (Nat.le_of_ble_eq_true rfl) (by rw [cpy_row]; exact cw_sr) ?_
  exact r_vret (pc := 14) h hr d_D_store_14
theorem c_store3 (t : Nat) (ht : t < 16) : Ct l y_D_store (.code y_D_store b_D_store 3 none :: TT) (rmF 1 40) G [.ref (a 0), .ref (a 3), .int (nI t)] (cw G a hd wk sp ct ky nm) none (cw G a (va_up hd t (mix 16 sp (hd t))) wk sp ct ky nm) := by
  refine ct_intro (cc := b_D_store) (nL := 3) (by decide) [(0, .ref (a 0)), (1, .ref (a 3)), (2, .int (nI t))] rfl (Nat.le_of_ble_eq_true rfl) ?_
  intro p e s m below meth c A h hr
  refine r_aload_n (pc := 0) h 1 d_D_store_0 rfl rfl ?_
  refine r_iconst (pc := 1) h (v := 0) d_D_store_1 (by decide) ?_
  refine r_aload_n (pc := 2) h 0 d_D_store_2 rfl rfl ?_
  refine r_get (pc := 3) h 0 0 d_D_store_3 cw_0 rfl (by decide) in_D (List.mem_cons_of_mem _ w_42) rfl ?_
  refine r_iload_n (pc := 6) h 2 d_D_store_6 rfl rfl ?_
  refine r_aaload (pc := 7) h 1 3 t d_D_store_7 cw_1 rfl rfl rfl ht (by decide) (cw_o ht) ?_
  refine r_iconst (pc := 8) h (v := 0) d_D_store_8 (by decide) ?_
  refine r_bipush (pc := 9) h (v := nI 16) d_D_store_9 (by decide) ?_
  refine r_copyl (pc := 11) h 3 (7 + t) (ws' := (cw G a (va_up hd t (mix 16 sp (hd t))) wk sp ct ky nm)) 16 d_D_store_11 (List.mem_cons_of_mem _ w_201) (List.mem_cons_of_mem _ w_203) (List.mem_cons_of_mem _ w_202) (List.mem_cons_of_mem _ w_9) cw_3 (cw_r ht) rfl rfl rfl (by decide) (by decide) (by decide) (Nat.le_of_ble_eq_true rfl) (Nat.le_of_ble_eq_true rfl) (by rw [cpy_row]; exact cw_sr) ?_
  exact r_vret (pc := 14) h hr d_D_store_14
theorem c_bindWork_true (v : Nat) (hv : v < 10) : Ct l y_D_bindWork (.code y_D_bindWork b_D_bindWork 6 none :: TT) (rmF 1 40) G [.ref (a 0), .int (nI v), .int (bI true)] (cw G a hd wk sp ct ky nm) none (cw G a hd (mix 16 (mix 16 (fun j => wk j &&& tW wk v j) sp) wk) (mix 16 (fun j => wk j &&& tW wk v j) sp) ct ky nm) := by
  refine ct_intro (cc := b_D_bindWork) (nL := 6) (by decide) [(0, .ref (a 0)), (1, .int (nI v)), (2, .int (bI true))] rfl (Nat.le_of_ble_eq_true rfl) ?_
  intro p e s m below meth c A h hr
  refine r_iconst (pc := 0) h (v := nI 0) d_D_bindWork_0 (by decide) ?_
  refine r_istore_n (pc := 1) h (lv' := [(3, .int (nI 0)), (0, .ref (a 0)), (1, .int (nI v)), (2, .int (bI true))]) d_D_bindWork_1 rfl (by decide) rfl ?_
  refine Wv.wld (ws' := (cw G a hd wk (mix 0 (fun j => wk j &&& tW wk v j) sp) ct ky nm)) (by rw [mix_0]) ?_
  refine Wv.loop 16 (fun i => (cw G a hd wk (mix i (fun j => wk j &&& tW wk v j) sp) ct ky nm)) (fun i => [(3, .int (nI i)), (0, .ref (a 0)), (1, .int (nI v)), (2, .int (bI true))]) ?_ ?_
  · show Wv p l e _ s m _ below meth c G A _ _ _ _ (cw G a hd wk (mix 16 (fun j => wk j &&& tW wk v j) sp) ct ky nm) 2 [(3, .int (nI 16)), (0, .ref (a 0)), (1, .int (nI v)), (2, .int (bI true))] []
    refine r_iload_n (pc := 2) h 0 d_D_bindWork_2 rfl rfl ?_
    refine r_bipush (pc := 3) h (v := nI 16) d_D_bindWork_3 (by decide) ?_
    refine r_icmp_ge_t (pc := 5) h (tgt := 56) d_D_bindWork_5 (by decide) (nI_le (Nat.le_refl _) (by decide)) ?_
    refine r_aload_n (pc := 56) h 1 d_D_bindWork_56 rfl rfl ?_
    refine r_get (pc := 57) h 0 2 d_D_bindWork_57 cw_0 rfl (by decide) in_D (List.mem_cons_of_mem _ w_44) rfl ?_
    refine r_iconst (pc := 60) h (v := 0) d_D_bindWork_60 (by decide) ?_
    refine r_aload_n (pc := 61) h 1 d_D_bindWork_61 rfl rfl ?_
    refine r_get (pc := 62) h 0 1 d_D_bindWork_62 cw_0 rfl (by decide) in_D (List.mem_cons_of_mem _ w_43) rfl ?_
    refine r_iconst (pc := 65) h (v := 0) d_D_bindWork_65 (by decide) ?_
    refine r_bipush (pc := 66) h (v := nI 16) d_D_bindWork_66 (by decide) ?_
    refine r_copyl (pc := 68) h 3 2 (ws' := (cw G a hd (mix 16 (mix 16 (fun j => wk j &&& tW wk v j) sp) wk) (mix 16 (fun j => wk j &&& tW wk v j) sp) ct ky nm)) 16 d_D_bindWork_68 (List.mem_cons_of_mem _ w_201) (List.mem_cons_of_mem _ w_203) (List.mem_cons_of_mem _ w_202) (List.mem_cons_of_mem _ w_9) cw_3 cw_2 rfl rfl rfl (by decide) (by decide) (by decide) (Nat.le_of_ble_eq_true rfl) (Nat.le_of_ble_eq_true rfl) (by rw [cpy_row]; exact cw_s2) ?_
    exact r_vret (pc := 71) h hr d_D_bindWork_71
  · intro i hi ih
    have ih : Wv p l e _ s m _ below meth c G A _ _ _ _ (cw G a hd wk (mix (i + 1) (fun j => wk j &&& tW wk v j) sp) ct ky nm) 2 [(3, .int (nI (i + 1))), (0, .ref (a 0)), (1, .int (nI v)), (2, .int (bI true))] [] := ih
    show Wv p l e _ s m _ below meth c G A _ _ _ _ (cw G a hd wk (mix i (fun j => wk j &&& tW wk v j) sp) ct ky nm) 2 [(3, .int (nI i)), (0, .ref (a 0)), (1, .int (nI v)), (2, .int (bI true))] []
    refine r_iload_n (pc := 2) h 0 d_D_bindWork_2 rfl rfl ?_
    refine r_bipush (pc := 3) h (v := nI 16) d_D_bindWork_3 (by decide) ?_
    refine r_icmp_ge_f (pc := 5) h (tgt := 56) d_D_bindWork_5 (by decide) (nI_ge hi (by decide)) ?_
    refine r_aload_n (pc := 8) h 1 d_D_bindWork_8 rfl rfl ?_
    refine r_get (pc := 9) h 0 1 d_D_bindWork_9 cw_0 rfl (by decide) in_D (List.mem_cons_of_mem _ w_43) rfl ?_
    refine r_iload_n (pc := 12) h 2 d_D_bindWork_12 rfl rfl ?_
    refine r_iload_n (pc := 13) h 0 d_D_bindWork_13 rfl rfl ?_
    refine r_invSa (pc := 14) h (st := []) d_D_bindWork_14 (c_turnedWord 2 (a 2) v i wk cw_2 hv hi) (r_cS h wc_D_turnedWord w_194 w_1 w_195 hd_D_turnedWord ⟨(Nat.le_of_ble_eq_true rfl), (Nat.le_of_ble_eq_true rfl)⟩ rfl rfl) rfl rfl (Nat.le_of_ble_eq_true rfl) ⟨(Nat.le_of_ble_eq_true rfl), (Nat.le_of_ble_eq_true rfl)⟩ rfl ?_
    refine r_lstore (pc := 17) h (lv' := [(4, .long (tW wk v i)), (3, .int (nI i)), (0, .ref (a 0)), (1, .int (nI v)), (2, .int (bI true))]) d_D_bindWork_17 (by decide) rfl ?_
    refine r_aload_n (pc := 19) h 2 d_D_bindWork_19 rfl rfl ?_
    refine r_get (pc := 20) h 0 2 d_D_bindWork_20 cw_0 rfl (by decide) in_D (List.mem_cons_of_mem _ w_44) rfl ?_
    refine r_iload_n (pc := 23) h 1 d_D_bindWork_23 rfl rfl ?_
    refine r_iload_n (pc := 24) h 4 d_D_bindWork_24 rfl rfl ?_
    refine r_if_eq_f (pc := 25) h (tgt := 40) d_D_bindWork_25 (by decide) (by decide) ?_
    refine r_aload_n (pc := 28) h 2 d_D_bindWork_28 rfl rfl ?_
    refine r_get (pc := 29) h 0 1 d_D_bindWork_29 cw_0 rfl (by decide) in_D (List.mem_cons_of_mem _ w_43) rfl ?_
    refine r_iload_n (pc := 32) h 1 d_D_bindWork_32 rfl rfl ?_
    refine r_laload (pc := 33) h 2 (z := wk i) i d_D_bindWork_33 cw_2 rfl hi (by decide) rfl ?_
    refine r_lload (pc := 34) h 0 d_D_bindWork_34 rfl ?_
    refine r_land (pc := 36) h (z := (wk i) &&& (tW wk v i)) d_D_bindWork_36 rfl ?_
    refine r_goto (pc := 37) h (tgt := 49) d_D_bindWork_37 (by decide) ?_
    refine r_lastore (pc := 49) h 3 (ws' := (cw G a hd wk (mix (i + 1) (fun j => wk j &&& tW wk v j) sp) ct ky nm)) i d_D_bindWork_49 cw_3 rfl hi (by decide) (by rw [mix_updL i (fun j => wk j &&& tW wk v j) sp]; exact cw_s3) ?_
    refine r_iinc (pc := 50) h (v := nI (i + 1)) (lv' := [(3, .int (nI (i + 1))), (4, .long (tW wk v i)), (0, .ref (a 0)), (1, .int (nI v)), (2, .int (bI true))]) 1 d_D_bindWork_50 rfl (nI_inc i) (by decide) rfl ?_
    refine r_goto (pc := 53) h (tgt := 2) d_D_bindWork_53 (by decide) ?_
    refine Wv.sub [0, 2, 3, 4] rfl ?_
    exact ih
theorem c_bindWork_false (v : Nat) (hv : v < 10) : Ct l y_D_bindWork (.code y_D_bindWork b_D_bindWork 6 none :: TT) (rmF 1 40) G [.ref (a 0), .int (nI v), .int (bI false)] (cw G a hd wk sp ct ky nm) none (cw G a hd (mix 16 (mix 16 (fun j => wk j ||| tW wk v j) sp) wk) (mix 16 (fun j => wk j ||| tW wk v j) sp) ct ky nm) := by
  refine ct_intro (cc := b_D_bindWork) (nL := 6) (by decide) [(0, .ref (a 0)), (1, .int (nI v)), (2, .int (bI false))] rfl (Nat.le_of_ble_eq_true rfl) ?_
  intro p e s m below meth c A h hr
  refine r_iconst (pc := 0) h (v := nI 0) d_D_bindWork_0 (by decide) ?_
  refine r_istore_n (pc := 1) h (lv' := [(3, .int (nI 0)), (0, .ref (a 0)), (1, .int (nI v)), (2, .int (bI false))]) d_D_bindWork_1 rfl (by decide) rfl ?_
  refine Wv.wld (ws' := (cw G a hd wk (mix 0 (fun j => wk j ||| tW wk v j) sp) ct ky nm)) (by rw [mix_0]) ?_
  refine Wv.loop 16 (fun i => (cw G a hd wk (mix i (fun j => wk j ||| tW wk v j) sp) ct ky nm)) (fun i => [(3, .int (nI i)), (0, .ref (a 0)), (1, .int (nI v)), (2, .int (bI false))]) ?_ ?_
  · show Wv p l e _ s m _ below meth c G A _ _ _ _ (cw G a hd wk (mix 16 (fun j => wk j ||| tW wk v j) sp) ct ky nm) 2 [(3, .int (nI 16)), (0, .ref (a 0)), (1, .int (nI v)), (2, .int (bI false))] []
    refine r_iload_n (pc := 2) h 0 d_D_bindWork_2 rfl rfl ?_
    refine r_bipush (pc := 3) h (v := nI 16) d_D_bindWork_3 (by decide) ?_
    refine r_icmp_ge_t (pc := 5) h (tgt := 56) d_D_bindWork_5 (by decide) (nI_le (Nat.le_refl _) (by decide)) ?_
    refine r_aload_n (pc := 56) h 1 d_D_bindWork_56 rfl rfl ?_
    refine r_get (pc := 57) h 0 2 d_D_bindWork_57 cw_0 rfl (by decide) in_D (List.mem_cons_of_mem _ w_44) rfl ?_
    refine r_iconst (pc := 60) h (v := 0) d_D_bindWork_60 (by decide) ?_
    refine r_aload_n (pc := 61) h 1 d_D_bindWork_61 rfl rfl ?_
    refine r_get (pc := 62) h 0 1 d_D_bindWork_62 cw_0 rfl (by decide) in_D (List.mem_cons_of_mem _ w_43) rfl ?_
    refine r_iconst (pc := 65) h (v := 0) d_D_bindWork_65 (by decide) ?_
    refine r_bipush (pc := 66) h (v := nI 16) d_D_bindWork_66 (by decide) ?_
    refine r_copyl (pc := 68) h 3 2 (ws' := (cw G a hd (mix 16 (mix 16 (fun j => wk j ||| tW wk v j) sp) wk) (mix 16 (fun j => wk j ||| tW wk v j) sp) ct ky nm)) 16 d_D_bindWork_68 (List.mem_cons_of_mem _ w_201) (List.mem_cons_of_mem _ w_203) (List.mem_cons_of_mem _ w_202) (List.mem_cons_of_mem _ w_9) cw_3 cw_2 rfl rfl rfl (by decide) (by decide) (by decide) (Nat.le_of_ble_eq_true rfl) (Nat.le_of_ble_eq_true rfl) (by rw [cpy_row]; exact cw_s2) ?_
    exact r_vret (pc := 71) h hr d_D_bindWork_71
  · intro i hi ih
    have ih : Wv p l e _ s m _ below meth c G A _ _ _ _ (cw G a hd wk (mix (i + 1) (fun j => wk j ||| tW wk v j) sp) ct ky nm) 2 [(3, .int (nI (i + 1))), (0, .ref (a 0)), (1, .int (nI v)), (2, .int (bI false))] [] := ih
    show Wv p l e _ s m _ below meth c G A _ _ _ _ (cw G a hd wk (mix i (fun j => wk j ||| tW wk v j) sp) ct ky nm) 2 [(3, .int (nI i)), (0, .ref (a 0)), (1, .int (nI v)), (2, .int (bI false))] []
    refine r_iload_n (pc := 2) h 0 d_D_bindWork_2 rfl rfl ?_
    refine r_bipush (pc := 3) h (v := nI 16) d_D_bindWork_3 (by decide) ?_
    refine r_icmp_ge_f (pc := 5) h (tgt := 56) d_D_bindWork_5 (by decide) (nI_ge hi (by decide)) ?_
    refine r_aload_n (pc := 8) h 1 d_D_bindWork_8 rfl rfl ?_
    refine r_get (pc := 9) h 0 1 d_D_bindWork_9 cw_0 rfl (by decide) in_D (List.mem_cons_of_mem _ w_43) rfl ?_
    refine r_iload_n (pc := 12) h 2 d_D_bindWork_12 rfl rfl ?_
    refine r_iload_n (pc := 13) h 0 d_D_bindWork_13 rfl rfl ?_
    refine r_invSa (pc := 14) h (st := []) d_D_bindWork_14 (c_turnedWord 2 (a 2) v i wk cw_2 hv hi) (r_cS h wc_D_turnedWord w_194 w_1 w_195 hd_D_turnedWord ⟨(Nat.le_of_ble_eq_true rfl), (Nat.le_of_ble_eq_true rfl)⟩ rfl rfl) rfl rfl (Nat.le_of_ble_eq_true rfl) ⟨(Nat.le_of_ble_eq_true rfl), (Nat.le_of_ble_eq_true rfl)⟩ rfl ?_
    refine r_lstore (pc := 17) h (lv' := [(4, .long (tW wk v i)), (3, .int (nI i)), (0, .ref (a 0)), (1, .int (nI v)), (2, .int (bI false))]) d_D_bindWork_17 (by decide) rfl ?_
    refine r_aload_n (pc := 19) h 2 d_D_bindWork_19 rfl rfl ?_
    refine r_get (pc := 20) h 0 2 d_D_bindWork_20 cw_0 rfl (by decide) in_D (List.mem_cons_of_mem _ w_44) rfl ?_
    refine r_iload_n (pc := 23) h 1 d_D_bindWork_23 rfl rfl ?_
    refine r_iload_n (pc := 24) h 4 d_D_bindWork_24 rfl rfl ?_
    refine r_if_eq_t (pc := 25) h (tgt := 40) d_D_bindWork_25 (by decide) rfl ?_
    refine r_aload_n (pc := 40) h 2 d_D_bindWork_40 rfl rfl ?_
    refine r_get (pc := 41) h 0 1 d_D_bindWork_41 cw_0 rfl (by decide) in_D (List.mem_cons_of_mem _ w_43) rfl ?_
    refine r_iload_n (pc := 44) h 1 d_D_bindWork_44 rfl rfl ?_
    refine r_laload (pc := 45) h 2 (z := wk i) i d_D_bindWork_45 cw_2 rfl hi (by decide) rfl ?_
    refine r_lload (pc := 46) h 0 d_D_bindWork_46 rfl ?_
    refine r_lor (pc := 48) h (z := (wk i) ||| (tW wk v i)) d_D_bindWork_48 rfl ?_
    refine r_lastore (pc := 49) h 3 (ws' := (cw G a hd wk (mix (i + 1) (fun j => wk j ||| tW wk v j) sp) ct ky nm)) i d_D_bindWork_49 cw_3 rfl hi (by decide) (by rw [mix_updL i (fun j => wk j ||| tW wk v j) sp]; exact cw_s3) ?_
    refine r_iinc (pc := 50) h (v := nI (i + 1)) (lv' := [(3, .int (nI (i + 1))), (4, .long (tW wk v i)), (0, .ref (a 0)), (1, .int (nI v)), (2, .int (bI false))]) 1 d_D_bindWork_50 rfl (nI_inc i) (by decide) rfl ?_
    refine r_goto (pc := 53) h (tgt := 2) d_D_bindWork_53 (by decide) ?_
    refine Wv.sub [0, 2, 3, 4] rfl ?_
    exact ih
theorem c_isEmptyWork_t (hz : ∀ i, i < 16 → wk i = 0) : Ct l y_D_isEmptyWork (.code y_D_isEmptyWork b_D_isEmptyWork 2 (some .boolean) :: TT) (rmF 0 0) G [.ref (a 0)] (cw G a hd wk sp ct ky nm) (some (.int (bI true))) (cw G a hd wk sp ct ky nm) := by
  refine ct_intro (cc := b_D_isEmptyWork) (nL := 2) (by decide) [(0, .ref (a 0))] rfl (Nat.le_of_ble_eq_true rfl) ?_
  intro p e s m below meth c A h hr
  refine r_iconst (pc := 0) h (v := nI 0) d_D_isEmptyWork_0 (by decide) ?_
  refine r_istore_n (pc := 1) h (lv' := [(1, .int (nI 0)), (0, .ref (a 0))]) d_D_isEmptyWork_1 rfl (by decide) rfl ?_
  refine Wv.loop 16 (fun i => (cw G a hd wk sp ct ky nm)) (fun i => [(1, .int (nI i)), (0, .ref (a 0))]) ?_ ?_
  · show Wv p l e _ s m _ below meth c G A _ _ _ _ (cw G a hd wk sp ct ky nm) 2 [(1, .int (nI 16)), (0, .ref (a 0))] []
    refine r_iload_n (pc := 2) h 0 d_D_isEmptyWork_2 rfl rfl ?_
    refine r_bipush (pc := 3) h (v := nI 16) d_D_isEmptyWork_3 (by decide) ?_
    refine r_icmp_ge_t (pc := 5) h (tgt := 27) d_D_isEmptyWork_5 (by decide) (nI_le (Nat.le_refl _) (by decide)) ?_
    refine r_iconst (pc := 27) h (v := bI true) d_D_isEmptyWork_27 (by decide) ?_
    exact r_zret (pc := 28) h hr (bI_nrw _) d_D_isEmptyWork_28
  · intro i hi ih
    have ih : Wv p l e _ s m _ below meth c G A _ _ _ _ (cw G a hd wk sp ct ky nm) 2 [(1, .int (nI (i + 1))), (0, .ref (a 0))] [] := ih
    show Wv p l e _ s m _ below meth c G A _ _ _ _ (cw G a hd wk sp ct ky nm) 2 [(1, .int (nI i)), (0, .ref (a 0))] []
    refine r_iload_n (pc := 2) h 0 d_D_isEmptyWork_2 rfl rfl ?_
    refine r_bipush (pc := 3) h (v := nI 16) d_D_isEmptyWork_3 (by decide) ?_
    refine r_icmp_ge_f (pc := 5) h (tgt := 27) d_D_isEmptyWork_5 (by decide) (nI_ge hi (by decide)) ?_
    refine r_aload_n (pc := 8) h 1 d_D_isEmptyWork_8 rfl rfl ?_
    refine r_get (pc := 9) h 0 1 d_D_isEmptyWork_9 cw_0 rfl (by decide) in_D (List.mem_cons_of_mem _ w_43) rfl ?_
    refine r_iload_n (pc := 12) h 0 d_D_isEmptyWork_12 rfl rfl ?_
    refine r_laload (pc := 13) h 2 (z := wk i) i d_D_isEmptyWork_13 cw_2 rfl hi (by decide) rfl ?_
    refine r_lconst (pc := 14) h (v := 0) d_D_isEmptyWork_14 (by decide) ?_
    refine r_lcmp (pc := 15) h (z := 0) d_D_isEmptyWork_15 ((lg_0 _ _).mpr (hz i hi)) ?_
    refine r_if_eq_t (pc := 16) h (tgt := 21) d_D_isEmptyWork_16 (by decide) rfl ?_
    refine r_iinc (pc := 21) h (v := nI (i + 1)) (lv' := [(1, .int (nI (i + 1))), (0, .ref (a 0))]) 0 d_D_isEmptyWork_21 rfl (nI_inc i) (by decide) rfl ?_
    refine r_goto (pc := 24) h (tgt := 2) d_D_isEmptyWork_24 (by decide) ?_
    exact ih
theorem c_isEmptyWork_f (n : Nat) (hn16 : n < 16) (hz : ∀ i, i < n → wk i = 0) (hne : wk n ≠ 0) : Ct l y_D_isEmptyWork (.code y_D_isEmptyWork b_D_isEmptyWork 2 (some .boolean) :: TT) (rmF 0 0) G [.ref (a 0)] (cw G a hd wk sp ct ky nm) (some (.int (bI false))) (cw G a hd wk sp ct ky nm) := by
  refine ct_intro (cc := b_D_isEmptyWork) (nL := 2) (by decide) [(0, .ref (a 0))] rfl (Nat.le_of_ble_eq_true rfl) ?_
  intro p e s m below meth c A h hr
  refine r_iconst (pc := 0) h (v := nI 0) d_D_isEmptyWork_0 (by decide) ?_
  refine r_istore_n (pc := 1) h (lv' := [(1, .int (nI 0)), (0, .ref (a 0))]) d_D_isEmptyWork_1 rfl (by decide) rfl ?_
  refine Wv.loop n (fun i => (cw G a hd wk sp ct ky nm)) (fun i => [(1, .int (nI i)), (0, .ref (a 0))]) ?_ ?_
  · show Wv p l e _ s m _ below meth c G A _ _ _ _ (cw G a hd wk sp ct ky nm) 2 [(1, .int (nI n)), (0, .ref (a 0))] []
    refine r_iload_n (pc := 2) h 0 d_D_isEmptyWork_2 rfl rfl ?_
    refine r_bipush (pc := 3) h (v := nI 16) d_D_isEmptyWork_3 (by decide) ?_
    refine r_icmp_ge_f (pc := 5) h (tgt := 27) d_D_isEmptyWork_5 (by decide) (nI_ge hn16 (by decide)) ?_
    refine r_aload_n (pc := 8) h 1 d_D_isEmptyWork_8 rfl rfl ?_
    refine r_get (pc := 9) h 0 1 d_D_isEmptyWork_9 cw_0 rfl (by decide) in_D (List.mem_cons_of_mem _ w_43) rfl ?_
    refine r_iload_n (pc := 12) h 0 d_D_isEmptyWork_12 rfl rfl ?_
    refine r_laload (pc := 13) h 2 (z := wk n) n d_D_isEmptyWork_13 cw_2 rfl hn16 (by decide) rfl ?_
    refine r_lconst (pc := 14) h (v := 0) d_D_isEmptyWork_14 (by decide) ?_
    refine r_lcmp (pc := 15) h (z := lg_cmp (wk n) 0) d_D_isEmptyWork_15 rfl ?_
    refine r_if_eq_f (pc := 16) h (tgt := 21) d_D_isEmptyWork_16 (by decide) (fun z => hne ((lg_0 _ _).mp z)) ?_
    refine r_iconst (pc := 19) h (v := bI false) d_D_isEmptyWork_19 (by decide) ?_
    exact r_zret (pc := 20) h hr (bI_nrw _) d_D_isEmptyWork_20
  · intro i hi ih
    have ih : Wv p l e _ s m _ below meth c G A _ _ _ _ (cw G a hd wk sp ct ky nm) 2 [(1, .int (nI (i + 1))), (0, .ref (a 0))] [] := ih
    show Wv p l e _ s m _ below meth c G A _ _ _ _ (cw G a hd wk sp ct ky nm) 2 [(1, .int (nI i)), (0, .ref (a 0))] []
    refine r_iload_n (pc := 2) h 0 d_D_isEmptyWork_2 rfl rfl ?_
    refine r_bipush (pc := 3) h (v := nI 16) d_D_isEmptyWork_3 (by decide) ?_
    refine r_icmp_ge_f (pc := 5) h (tgt := 27) d_D_isEmptyWork_5 (by decide) (nI_ge (Nat.lt_trans hi hn16) (by decide)) ?_
    refine r_aload_n (pc := 8) h 1 d_D_isEmptyWork_8 rfl rfl ?_
    refine r_get (pc := 9) h 0 1 d_D_isEmptyWork_9 cw_0 rfl (by decide) in_D (List.mem_cons_of_mem _ w_43) rfl ?_
    refine r_iload_n (pc := 12) h 0 d_D_isEmptyWork_12 rfl rfl ?_
    refine r_laload (pc := 13) h 2 (z := wk i) i d_D_isEmptyWork_13 cw_2 rfl (Nat.lt_trans hi hn16) (by decide) rfl ?_
    refine r_lconst (pc := 14) h (v := 0) d_D_isEmptyWork_14 (by decide) ?_
    refine r_lcmp (pc := 15) h (z := 0) d_D_isEmptyWork_15 ((lg_0 _ _).mpr (hz i hi)) ?_
    refine r_if_eq_t (pc := 16) h (tgt := 21) d_D_isEmptyWork_16 (by decide) rfl ?_
    refine r_iinc (pc := 21) h (v := nI (i + 1)) (lv' := [(1, .int (nI (i + 1))), (0, .ref (a 0))]) 0 d_D_isEmptyWork_21 rfl (nI_inc i) (by decide) rfl ?_
    refine r_goto (pc := 24) h (tgt := 2) d_D_isEmptyWork_24 (by decide) ?_
    exact ih
end CP
end
section
-- narrowWorkToFalse, Long.bitCount, Arrays.fill (rows wb_: laws/BITS.to-paste)
theorem wb_tb (n : Nat) : (lN n).toBitVec = BitVec.ofNat 64 n := rfl
theorem wb_inj {a b : Int64} (h : a.toBitVec = b.toBitVec) : a = b := Int64.toBitVec_inj.mp h
theorem wb_tn {n : Nat} (h : n < 2 ^ 64) : (lN n).toBitVec.toNat = n := by rw [wb_tb, BitVec.toNat_ofNat, Nat.mod_eq_of_lt h]
theorem wb_of (x : Int64) : ∃ n, n < 2 ^ 64 ∧ x = lN n := ⟨x.toBitVec.toNat, x.toBitVec.isLt, wb_inj (by rw [wb_tb]; simp)⟩
theorem wb_cu : ∀ k, k < 64 → ((nI k).toInt64.toUInt64 &&& Int64.toUInt64 63) = UInt64.ofNat k := by decide +kernel
theorem wb_shr {n k : Nat} (hn : n < 2 ^ 64) (hk : k < 64) : ((lN n).toUInt64 >>> ((nI k).toInt64.toUInt64 &&& Int64.toUInt64 63)).toInt64 = lN (n / 2 ^ k) := by
  rw [wb_cu k hk]
  apply wb_inj
  apply BitVec.eq_of_toNat_eq
  show ((lN n).toUInt64 >>> UInt64.ofNat k).toNat = (BitVec.ofNat 64 _).toNat
  have h1 : (UInt64.ofNat k).toNat = k := by
    show (BitVec.ofNat 64 k).toNat = k
    rw [BitVec.toNat_ofNat, Nat.mod_eq_of_lt (by omega)]
  have h2 : (lN n).toUInt64.toNat = n := wb_tn hn
  rw [UInt64.toNat_shiftRight, h1, h2, Nat.mod_eq_of_lt hk, Nat.shiftRight_eq_div_pow, BitVec.toNat_ofNat, Nat.mod_eq_of_lt (Nat.lt_of_le_of_lt (Nat.div_le_self _ _) hn)]
theorem wb_and {a b : Nat} (ha : a < 2 ^ 64) (hb : b < 2 ^ 64) : lN a &&& lN b = lN (a &&& b) := by
  apply wb_inj
  rw [Int64.toBitVec_and, wb_tb, wb_tb, wb_tb]
  apply BitVec.eq_of_toNat_eq
  rw [BitVec.toNat_and, BitVec.toNat_ofNat, BitVec.toNat_ofNat, BitVec.toNat_ofNat, Nat.mod_eq_of_lt ha, Nat.mod_eq_of_lt hb, Nat.mod_eq_of_lt (Nat.and_lt_two_pow _ hb)]
def orF (g : Nat → Int64) : Nat → Int64
  | 0 => 0
  | i + 1 => orF g i ||| g i
theorem or_0 {x y : Int64} : x ||| y = 0 ↔ x = 0 ∧ y = 0 := by
  constructor
  · intro h
    have key : ∀ i, i < 64 → lb x i = false ∧ lb y i = false := fun i _ => by
      have h1 : lb (x ||| y) i = false := by rw [h]; exact lb_0 i
      rw [lb_or] at h1
      simpa using h1
    exact ⟨lb_ext (fun i hi => by rw [(key i hi).1, lb_0]), lb_ext (fun i hi => by rw [(key i hi).2, lb_0])⟩
  · rintro ⟨rfl, rfl⟩
    decide
theorem orF_0 {g : Nat → Int64} : ∀ n, orF g n = 0 ↔ ∀ i, i < n → g i = 0
  | 0 => ⟨fun _ i hi => absurd hi (by omega), fun _ => rfl⟩
  | n + 1 => by
    show orF g n ||| g n = 0 ↔ _
    rw [or_0, orF_0 n]
    constructor
    · rintro ⟨h1, h2⟩ i hi
      by_cases e : i = n
      · rw [e]; exact h2
      · exact h1 i (by omega)
    · intro h
      exact ⟨fun i hi => h i (by omega), h n (by omega)⟩
theorem mix_lt {α : Type} {i j : Nat} {g f : Nat → α} (h : j < i) : mix i g f j = g j := if_pos h
theorem mix_ge {α : Type} {i j : Nat} {g f : Nat → α} (h : ¬ j < i) : mix i g f j = f j := if_neg h
section RA
variable {p : Program} {l : Launch} {e : Env} {R : Room} {s : State} {m : MethodId} {args : Array Value} {below : List Frame} {meth : Method} {c : Code} {cells slots : Nat} {Q : State → Prop} {G : gG} {A : Nat → Prop} {nL : Nat} {cc : ByteArray} {own : String} {Ts : List Cond} {ws : va_W} {pc : Nat} {lv : List (Nat × Value)} {st : List Value}
theorem r_alen (h : Fx p m c s args meth own cc nL Ts G A) (q0 t0 : Nat) {a : Nat} {cA : ClassId} {x : vp_A} {ty : FieldType} {v : Int32} (d : decode cc pc = .ok (.arraylength, 1)) (ha : ws[q0]? = some (a, .inl (cA, x))) (ht : (gT G)[t0]? = some (cA, ty)) (hv : Int32.ofNat x.1 = v) (k : Wv p l e R s m args below meth c G A nL cells slots Q ws (pc + 1) lv (.int v :: st)) : Wv p l e R s m args below meth c G A nL cells slots Q ws pc lv (.ref a :: st) :=
  fun H locs ls hP hD hS hl => va_alen h.1.1 h.1.2.1 h.2.1 hP q0 t0 ha ht hv d (k H locs ls hP hD hS hl)
end RA
theorem st_get {ws : va_W} {q0 : Nat} {x y : Nat × va_E} (h : ws[q0]? = some x) : (ws.set q0 y)[q0]? = some y := by
  have hl := (List.getElem?_eq_some_iff.mp h).1
  simp [hl]
theorem st_set {ws : va_W} {q0 : Nat} {x y : Nat × va_E} : (ws.set q0 x).set q0 y = ws.set q0 y := List.set_set ..
theorem st_id {ws : va_W} {q0 : Nat} {x : Nat × va_E} (h : ws[q0]? = some x) : ws.set q0 x = ws := by
  apply List.ext_getElem?
  intro i
  rw [List.getElem?_set]
  by_cases e : q0 = i
  · subst e
    rw [if_pos rfl, h]
    have hl := (List.getElem?_eq_some_iff.mp h).1
    simp [hl]
  · rw [if_neg e]
section CN
variable {l : Launch} {G : gG} {a : Nat → Nat} {hd : Nat → Nat → Int64} {wk sp : Nat → Int64} {ct : Int32} {ky nm : Nat → Int32}
theorem c_narrow_false (v : Nat) (hv : v < 10) (hz : ∀ i, i < 16 → (fun j => wk j &&& (vW v j ^^^ (-1))) i = 0) : Ct l y_D_narrowWorkToFalse (.code y_D_narrowWorkToFalse b_D_narrowWorkToFalse 5 (some .boolean) :: TT) (rmF 2 42) G [.ref (a 0), .int (nI v)] (cw G a hd wk sp ct ky nm) (some (.int (bI false))) (cw G a hd wk (mix 16 (fun j => wk j &&& (vW v j ^^^ (-1))) sp) ct ky nm) := by
  refine ct_intro (cc := b_D_narrowWorkToFalse) (nL := 5) (by decide) [(0, .ref (a 0)), (1, .int (nI v))] rfl (Nat.le_of_ble_eq_true rfl) ?_
  intro p e s m below meth c A h hr
  refine r_lconst (pc := 0) h (v := orF (fun j => wk j &&& (vW v j ^^^ (-1))) 0) d_D_narrowWorkToFalse_0 rfl ?_
  refine r_lstore_n (pc := 1) h (lv' := [(2, .long (orF (fun j => wk j &&& (vW v j ^^^ (-1))) 0)), (0, .ref (a 0)), (1, .int (nI v))]) d_D_narrowWorkToFalse_1 rfl (by decide) rfl ?_
  refine r_iconst (pc := 2) h (v := nI 0) d_D_narrowWorkToFalse_2 (by decide) ?_
  refine r_istore (pc := 3) h (lv' := [(4, .int (nI 0)), (2, .long (orF (fun j => wk j &&& (vW v j ^^^ (-1))) 0)), (0, .ref (a 0)), (1, .int (nI v))]) d_D_narrowWorkToFalse_3 (by decide) rfl ?_
  refine Wv.wld (ws' := (cw G a hd wk (mix 0 (fun j => wk j &&& (vW v j ^^^ (-1))) sp) ct ky nm)) (by rw [mix_0]) ?_
  refine Wv.loop 16 (fun i => (cw G a hd wk (mix i (fun j => wk j &&& (vW v j ^^^ (-1))) sp) ct ky nm)) (fun i => [(4, .int (nI i)), (2, .long (orF (fun j => wk j &&& (vW v j ^^^ (-1))) i)), (0, .ref (a 0)), (1, .int (nI v))]) ?_ ?_
  · show Wv p l e _ s m _ below meth c G A _ _ _ _ (cw G a hd wk (mix 16 (fun j => wk j &&& (vW v j ^^^ (-1))) sp) ct ky nm) 5 [(4, .int (nI 16)), (2, .long (orF (fun j => wk j &&& (vW v j ^^^ (-1))) 16)), (0, .ref (a 0)), (1, .int (nI v))] []
    refine r_iload (pc := 5) h 0 d_D_narrowWorkToFalse_5 rfl ?_
    refine r_bipush (pc := 7) h (v := nI 16) d_D_narrowWorkToFalse_7 (by decide) ?_
    refine r_icmp_ge_t (pc := 9) h (tgt := 53) d_D_narrowWorkToFalse_9 (by decide) (nI_le (Nat.le_refl _) (by decide)) ?_
    refine r_lload_n (pc := 53) h 1 d_D_narrowWorkToFalse_53 rfl rfl ?_
    refine r_lconst (pc := 54) h (v := 0) d_D_narrowWorkToFalse_54 (by decide) ?_
    refine r_lcmp (pc := 55) h (z := lg_cmp (orF (fun j => wk j &&& (vW v j ^^^ (-1))) 16) 0) d_D_narrowWorkToFalse_55 rfl ?_
    refine r_if_ne_f (pc := 56) h (tgt := 61) d_D_narrowWorkToFalse_56 (by decide) ((lg_0 _ _).mpr ((orF_0 16).mpr hz)) ?_
    refine r_iconst (pc := 59) h (v := bI false) d_D_narrowWorkToFalse_59 (by decide) ?_
    exact r_zret (pc := 60) h hr (bI_nrw _) d_D_narrowWorkToFalse_60
  · intro i hi ih
    have ih : Wv p l e _ s m _ below meth c G A _ _ _ _ (cw G a hd wk (mix (i + 1) (fun j => wk j &&& (vW v j ^^^ (-1))) sp) ct ky nm) 5 [(4, .int (nI (i + 1))), (2, .long (orF (fun j => wk j &&& (vW v j ^^^ (-1))) (i + 1))), (0, .ref (a 0)), (1, .int (nI v))] [] := ih
    show Wv p l e _ s m _ below meth c G A _ _ _ _ (cw G a hd wk (mix i (fun j => wk j &&& (vW v j ^^^ (-1))) sp) ct ky nm) 5 [(4, .int (nI i)), (2, .long (orF (fun j => wk j &&& (vW v j ^^^ (-1))) i)), (0, .ref (a 0)), (1, .int (nI v))] []
    refine r_iload (pc := 5) h 0 d_D_narrowWorkToFalse_5 rfl ?_
    refine r_bipush (pc := 7) h (v := nI 16) d_D_narrowWorkToFalse_7 (by decide) ?_
    refine r_icmp_ge_f (pc := 9) h (tgt := 53) d_D_narrowWorkToFalse_9 (by decide) (nI_ge hi (by decide)) ?_
    refine r_aload_n (pc := 12) h 2 d_D_narrowWorkToFalse_12 rfl rfl ?_
    refine r_get (pc := 13) h 0 2 d_D_narrowWorkToFalse_13 cw_0 rfl (by decide) in_D (List.mem_cons_of_mem _ w_44) rfl ?_
    refine r_iload (pc := 16) h 0 d_D_narrowWorkToFalse_16 rfl ?_
    refine r_aload_n (pc := 18) h 2 d_D_narrowWorkToFalse_18 rfl rfl ?_
    refine r_get (pc := 19) h 0 1 d_D_narrowWorkToFalse_19 cw_0 rfl (by decide) in_D (List.mem_cons_of_mem _ w_43) rfl ?_
    refine r_iload (pc := 22) h 0 d_D_narrowWorkToFalse_22 rfl ?_
    refine r_laload (pc := 24) h 2 (z := wk i) i d_D_narrowWorkToFalse_24 cw_2 rfl hi (by decide) rfl ?_
    refine r_iload_n (pc := 25) h 3 d_D_narrowWorkToFalse_25 rfl rfl ?_
    refine r_iload (pc := 26) h 0 d_D_narrowWorkToFalse_26 rfl ?_
    refine r_invSa (pc := 28) h (st := [.long (wk i), .int (nI i), .ref (a 3)]) d_D_narrowWorkToFalse_28 (c_variableWord v i hv hi) (r_cS h wc_D_variableWord w_137 w_1 w_138 hd_D_variableWord ⟨(Nat.le_of_ble_eq_true rfl), (Nat.le_of_ble_eq_true rfl)⟩ rfl rfl) rfl rfl (Nat.le_of_ble_eq_true rfl) ⟨(Nat.le_of_ble_eq_true rfl), (Nat.le_of_ble_eq_true rfl)⟩ rfl ?_
    refine r_ldc2 (pc := 31) h (v := (-1)) d_D_narrowWorkToFalse_31 (List.mem_cons_of_mem _ w_145) ?_
    refine r_lxor (pc := 34) h (z := (vW v i) ^^^ (-1)) d_D_narrowWorkToFalse_34 rfl ?_
    refine r_land (pc := 35) h (z := (wk i) &&& ((vW v i) ^^^ (-1))) d_D_narrowWorkToFalse_35 rfl ?_
    refine r_lastore (pc := 36) h 3 (ws' := (cw G a hd wk (mix (i + 1) (fun j => wk j &&& (vW v j ^^^ (-1))) sp) ct ky nm)) i d_D_narrowWorkToFalse_36 cw_3 rfl hi (by decide) (by rw [mix_updL i (fun j => wk j &&& (vW v j ^^^ (-1))) sp]; exact cw_s3) ?_
    refine r_lload_n (pc := 37) h 1 d_D_narrowWorkToFalse_37 rfl rfl ?_
    refine r_aload_n (pc := 38) h 2 d_D_narrowWorkToFalse_38 rfl rfl ?_
    refine r_get (pc := 39) h 0 2 d_D_narrowWorkToFalse_39 cw_0 rfl (by decide) in_D (List.mem_cons_of_mem _ w_44) rfl ?_
    refine r_iload (pc := 42) h 0 d_D_narrowWorkToFalse_42 rfl ?_
    refine r_laload (pc := 44) h 3 (z := wk i &&& (vW v i ^^^ (-1))) i d_D_narrowWorkToFalse_44 cw_3 rfl hi (by decide) (mix_lt (g := (fun j => wk j &&& (vW v j ^^^ (-1)))) (Nat.lt_succ_self i)) ?_
    refine r_lor (pc := 45) h (z := orF (fun j => wk j &&& (vW v j ^^^ (-1))) (i + 1)) d_D_narrowWorkToFalse_45 rfl ?_
    refine r_lstore_n (pc := 46) h (lv' := [(2, .long (orF (fun j => wk j &&& (vW v j ^^^ (-1))) (i + 1))), (4, .int (nI i)), (0, .ref (a 0)), (1, .int (nI v))]) d_D_narrowWorkToFalse_46 rfl (by decide) rfl ?_
    refine r_iinc (pc := 47) h (v := nI (i + 1)) (lv' := [(4, .int (nI (i + 1))), (2, .long (orF (fun j => wk j &&& (vW v j ^^^ (-1))) (i + 1))), (0, .ref (a 0)), (1, .int (nI v))]) 1 d_D_narrowWorkToFalse_47 rfl (nI_inc i) (by decide) rfl ?_
    refine r_goto (pc := 50) h (tgt := 5) d_D_narrowWorkToFalse_50 (by decide) ?_
    exact ih
theorem c_narrow_true (v : Nat) (hv : v < 10) (hz : ¬ ∀ i, i < 16 → (fun j => wk j &&& (vW v j ^^^ (-1))) i = 0) : Ct l y_D_narrowWorkToFalse (.code y_D_narrowWorkToFalse b_D_narrowWorkToFalse 5 (some .boolean) :: TT) (rmF 2 42) G [.ref (a 0), .int (nI v)] (cw G a hd wk sp ct ky nm) (some (.int (bI true))) (cw G a hd (mix 16 (mix 16 (fun j => wk j &&& (vW v j ^^^ (-1))) sp) wk) (mix 16 (fun j => wk j &&& (vW v j ^^^ (-1))) sp) ct ky nm) := by
  refine ct_intro (cc := b_D_narrowWorkToFalse) (nL := 5) (by decide) [(0, .ref (a 0)), (1, .int (nI v))] rfl (Nat.le_of_ble_eq_true rfl) ?_
  intro p e s m below meth c A h hr
  refine r_lconst (pc := 0) h (v := orF (fun j => wk j &&& (vW v j ^^^ (-1))) 0) d_D_narrowWorkToFalse_0 rfl ?_
  refine r_lstore_n (pc := 1) h (lv' := [(2, .long (orF (fun j => wk j &&& (vW v j ^^^ (-1))) 0)), (0, .ref (a 0)), (1, .int (nI v))]) d_D_narrowWorkToFalse_1 rfl (by decide) rfl ?_
  refine r_iconst (pc := 2) h (v := nI 0) d_D_narrowWorkToFalse_2 (by decide) ?_
  refine r_istore (pc := 3) h (lv' := [(4, .int (nI 0)), (2, .long (orF (fun j => wk j &&& (vW v j ^^^ (-1))) 0)), (0, .ref (a 0)), (1, .int (nI v))]) d_D_narrowWorkToFalse_3 (by decide) rfl ?_
  refine Wv.wld (ws' := (cw G a hd wk (mix 0 (fun j => wk j &&& (vW v j ^^^ (-1))) sp) ct ky nm)) (by rw [mix_0]) ?_
  refine Wv.loop 16 (fun i => (cw G a hd wk (mix i (fun j => wk j &&& (vW v j ^^^ (-1))) sp) ct ky nm)) (fun i => [(4, .int (nI i)), (2, .long (orF (fun j => wk j &&& (vW v j ^^^ (-1))) i)), (0, .ref (a 0)), (1, .int (nI v))]) ?_ ?_
  · show Wv p l e _ s m _ below meth c G A _ _ _ _ (cw G a hd wk (mix 16 (fun j => wk j &&& (vW v j ^^^ (-1))) sp) ct ky nm) 5 [(4, .int (nI 16)), (2, .long (orF (fun j => wk j &&& (vW v j ^^^ (-1))) 16)), (0, .ref (a 0)), (1, .int (nI v))] []
    refine r_iload (pc := 5) h 0 d_D_narrowWorkToFalse_5 rfl ?_
    refine r_bipush (pc := 7) h (v := nI 16) d_D_narrowWorkToFalse_7 (by decide) ?_
    refine r_icmp_ge_t (pc := 9) h (tgt := 53) d_D_narrowWorkToFalse_9 (by decide) (nI_le (Nat.le_refl _) (by decide)) ?_
    refine r_lload_n (pc := 53) h 1 d_D_narrowWorkToFalse_53 rfl rfl ?_
    refine r_lconst (pc := 54) h (v := 0) d_D_narrowWorkToFalse_54 (by decide) ?_
    refine r_lcmp (pc := 55) h (z := lg_cmp (orF (fun j => wk j &&& (vW v j ^^^ (-1))) 16) 0) d_D_narrowWorkToFalse_55 rfl ?_
    refine r_if_ne_t (pc := 56) h (tgt := 61) d_D_narrowWorkToFalse_56 (by decide) (fun z => hz ((orF_0 16).mp ((lg_0 _ _).mp z))) ?_
    refine r_aload_n (pc := 61) h 2 d_D_narrowWorkToFalse_61 rfl rfl ?_
    refine r_get (pc := 62) h 0 2 d_D_narrowWorkToFalse_62 cw_0 rfl (by decide) in_D (List.mem_cons_of_mem _ w_44) rfl ?_
    refine r_iconst (pc := 65) h (v := 0) d_D_narrowWorkToFalse_65 (by decide) ?_
    refine r_aload_n (pc := 66) h 2 d_D_narrowWorkToFalse_66 rfl rfl ?_
    refine r_get (pc := 67) h 0 1 d_D_narrowWorkToFalse_67 cw_0 rfl (by decide) in_D (List.mem_cons_of_mem _ w_43) rfl ?_
    refine r_iconst (pc := 70) h (v := 0) d_D_narrowWorkToFalse_70 (by decide) ?_
    refine r_bipush (pc := 71) h (v := nI 16) d_D_narrowWorkToFalse_71 (by decide) ?_
    refine r_copyl (pc := 73) h 3 2 (ws' := (cw G a hd (mix 16 (mix 16 (fun j => wk j &&& (vW v j ^^^ (-1))) sp) wk) (mix 16 (fun j => wk j &&& (vW v j ^^^ (-1))) sp) ct ky nm)) 16 d_D_narrowWorkToFalse_73 (List.mem_cons_of_mem _ w_201) (List.mem_cons_of_mem _ w_203) (List.mem_cons_of_mem _ w_202) (List.mem_cons_of_mem _ w_9) cw_3 cw_2 rfl rfl rfl (by decide) (by decide) (by decide) (Nat.le_of_ble_eq_true rfl) (Nat.le_of_ble_eq_true rfl) (by rw [cpy_row]; exact cw_s2) ?_
    refine r_iconst (pc := 76) h (v := bI true) d_D_narrowWorkToFalse_76 (by decide) ?_
    exact r_zret (pc := 77) h hr (bI_nrw _) d_D_narrowWorkToFalse_77
  · intro i hi ih
    have ih : Wv p l e _ s m _ below meth c G A _ _ _ _ (cw G a hd wk (mix (i + 1) (fun j => wk j &&& (vW v j ^^^ (-1))) sp) ct ky nm) 5 [(4, .int (nI (i + 1))), (2, .long (orF (fun j => wk j &&& (vW v j ^^^ (-1))) (i + 1))), (0, .ref (a 0)), (1, .int (nI v))] [] := ih
    show Wv p l e _ s m _ below meth c G A _ _ _ _ (cw G a hd wk (mix i (fun j => wk j &&& (vW v j ^^^ (-1))) sp) ct ky nm) 5 [(4, .int (nI i)), (2, .long (orF (fun j => wk j &&& (vW v j ^^^ (-1))) i)), (0, .ref (a 0)), (1, .int (nI v))] []
    refine r_iload (pc := 5) h 0 d_D_narrowWorkToFalse_5 rfl ?_
    refine r_bipush (pc := 7) h (v := nI 16) d_D_narrowWorkToFalse_7 (by decide) ?_
    refine r_icmp_ge_f (pc := 9) h (tgt := 53) d_D_narrowWorkToFalse_9 (by decide) (nI_ge hi (by decide)) ?_
    refine r_aload_n (pc := 12) h 2 d_D_narrowWorkToFalse_12 rfl rfl ?_
    refine r_get (pc := 13) h 0 2 d_D_narrowWorkToFalse_13 cw_0 rfl (by decide) in_D (List.mem_cons_of_mem _ w_44) rfl ?_
    refine r_iload (pc := 16) h 0 d_D_narrowWorkToFalse_16 rfl ?_
    refine r_aload_n (pc := 18) h 2 d_D_narrowWorkToFalse_18 rfl rfl ?_
    refine r_get (pc := 19) h 0 1 d_D_narrowWorkToFalse_19 cw_0 rfl (by decide) in_D (List.mem_cons_of_mem _ w_43) rfl ?_
    refine r_iload (pc := 22) h 0 d_D_narrowWorkToFalse_22 rfl ?_
    refine r_laload (pc := 24) h 2 (z := wk i) i d_D_narrowWorkToFalse_24 cw_2 rfl hi (by decide) rfl ?_
    refine r_iload_n (pc := 25) h 3 d_D_narrowWorkToFalse_25 rfl rfl ?_
    refine r_iload (pc := 26) h 0 d_D_narrowWorkToFalse_26 rfl ?_
    refine r_invSa (pc := 28) h (st := [.long (wk i), .int (nI i), .ref (a 3)]) d_D_narrowWorkToFalse_28 (c_variableWord v i hv hi) (r_cS h wc_D_variableWord w_137 w_1 w_138 hd_D_variableWord ⟨(Nat.le_of_ble_eq_true rfl), (Nat.le_of_ble_eq_true rfl)⟩ rfl rfl) rfl rfl (Nat.le_of_ble_eq_true rfl) ⟨(Nat.le_of_ble_eq_true rfl), (Nat.le_of_ble_eq_true rfl)⟩ rfl ?_
    refine r_ldc2 (pc := 31) h (v := (-1)) d_D_narrowWorkToFalse_31 (List.mem_cons_of_mem _ w_145) ?_
    refine r_lxor (pc := 34) h (z := (vW v i) ^^^ (-1)) d_D_narrowWorkToFalse_34 rfl ?_
    refine r_land (pc := 35) h (z := (wk i) &&& ((vW v i) ^^^ (-1))) d_D_narrowWorkToFalse_35 rfl ?_
    refine r_lastore (pc := 36) h 3 (ws' := (cw G a hd wk (mix (i + 1) (fun j => wk j &&& (vW v j ^^^ (-1))) sp) ct ky nm)) i d_D_narrowWorkToFalse_36 cw_3 rfl hi (by decide) (by rw [mix_updL i (fun j => wk j &&& (vW v j ^^^ (-1))) sp]; exact cw_s3) ?_
    refine r_lload_n (pc := 37) h 1 d_D_narrowWorkToFalse_37 rfl rfl ?_
    refine r_aload_n (pc := 38) h 2 d_D_narrowWorkToFalse_38 rfl rfl ?_
    refine r_get (pc := 39) h 0 2 d_D_narrowWorkToFalse_39 cw_0 rfl (by decide) in_D (List.mem_cons_of_mem _ w_44) rfl ?_
    refine r_iload (pc := 42) h 0 d_D_narrowWorkToFalse_42 rfl ?_
    refine r_laload (pc := 44) h 3 (z := wk i &&& (vW v i ^^^ (-1))) i d_D_narrowWorkToFalse_44 cw_3 rfl hi (by decide) (mix_lt (g := (fun j => wk j &&& (vW v j ^^^ (-1)))) (Nat.lt_succ_self i)) ?_
    refine r_lor (pc := 45) h (z := orF (fun j => wk j &&& (vW v j ^^^ (-1))) (i + 1)) d_D_narrowWorkToFalse_45 rfl ?_
    refine r_lstore_n (pc := 46) h (lv' := [(2, .long (orF (fun j => wk j &&& (vW v j ^^^ (-1))) (i + 1))), (4, .int (nI i)), (0, .ref (a 0)), (1, .int (nI v))]) d_D_narrowWorkToFalse_46 rfl (by decide) rfl ?_
    refine r_iinc (pc := 47) h (v := nI (i + 1)) (lv' := [(4, .int (nI (i + 1))), (2, .long (orF (fun j => wk j &&& (vW v j ^^^ (-1))) (i + 1))), (0, .ref (a 0)), (1, .int (nI v))]) 1 d_D_narrowWorkToFalse_47 rfl (nI_inc i) (by decide) rfl ?_
    refine r_goto (pc := 50) h (tgt := 5) d_D_narrowWorkToFalse_50 (by decide) ?_
    exact ih
theorem c_fillJ {ws : va_W} (q0 b n : Nat) (f : Nat → Int64) (v : Int64) (hq : ws[q0]? = some (b, .inl (G.2 1, n, .inr (.inl f)))) (hn31 : n < 2 ^ 31) : Ct l y_A_fillJ (.code y_A_fillJ b_A_fillJ 5 none :: TT) (rmF 0 0) G [.ref b, .long v] ws none (ws.set q0 (b, .inl (G.2 1, n, .inr (.inl (mix n (fun _ => v) f))))) := by
  refine ct_intro (cc := b_A_fillJ) (nL := 5) (by decide) [(0, .ref b), (1, .long v)] rfl (Nat.le_of_ble_eq_true rfl) ?_
  intro p e s m below meth c A h hr
  refine r_iconst (pc := 0) h (v := nI 0) d_A_fillJ_0 (by decide) ?_
  refine r_istore_n (pc := 1) h (lv' := [(3, .int (nI 0)), (0, .ref b), (1, .long v)]) d_A_fillJ_1 rfl (by decide) rfl ?_
  refine r_aload_n (pc := 2) h 1 d_A_fillJ_2 rfl rfl ?_
  refine r_alen (pc := 3) h q0 1 (v := nI n) d_A_fillJ_3 hq rfl rfl ?_
  refine r_istore (pc := 4) h (lv' := [(4, .int (nI n)), (3, .int (nI 0)), (0, .ref b), (1, .long v)]) d_A_fillJ_4 (by decide) rfl ?_
  refine Wv.wld (ws' := (ws.set q0 (b, .inl (G.2 1, n, .inr (.inl (mix 0 (fun _ => v) f)))))) (by rw [mix_0]; exact (st_id hq).symm) ?_
  refine Wv.sub [1, 0, 2, 3] rfl ?_
  refine Wv.loop n (fun i => (ws.set q0 (b, .inl (G.2 1, n, .inr (.inl (mix i (fun _ => v) f)))))) (fun i => [(3, .int (nI i)), (4, .int (nI n)), (0, .ref b), (1, .long v)]) ?_ ?_
  · show Wv p l e _ s m _ below meth c G A _ _ _ _ (ws.set q0 (b, .inl (G.2 1, n, .inr (.inl (mix n (fun _ => v) f))))) 6 [(3, .int (nI n)), (4, .int (nI n)), (0, .ref b), (1, .long v)] []
    refine r_iload_n (pc := 6) h 0 d_A_fillJ_6 rfl rfl ?_
    refine r_iload (pc := 7) h 1 d_A_fillJ_7 rfl ?_
    refine r_icmp_ge_t (pc := 9) h (tgt := 22) d_A_fillJ_9 (by decide) (nI_le (Nat.le_refl _) hn31) ?_
    exact r_vret (pc := 22) h hr d_A_fillJ_22
  · intro i hi ih
    have ih : Wv p l e _ s m _ below meth c G A _ _ _ _ (ws.set q0 (b, .inl (G.2 1, n, .inr (.inl (mix (i + 1) (fun _ => v) f))))) 6 [(3, .int (nI (i + 1))), (4, .int (nI n)), (0, .ref b), (1, .long v)] [] := ih
    show Wv p l e _ s m _ below meth c G A _ _ _ _ (ws.set q0 (b, .inl (G.2 1, n, .inr (.inl (mix i (fun _ => v) f))))) 6 [(3, .int (nI i)), (4, .int (nI n)), (0, .ref b), (1, .long v)] []
    refine r_iload_n (pc := 6) h 0 d_A_fillJ_6 rfl rfl ?_
    refine r_iload (pc := 7) h 1 d_A_fillJ_7 rfl ?_
    refine r_icmp_ge_f (pc := 9) h (tgt := 22) d_A_fillJ_9 (by decide) (nI_ge hi hn31) ?_
    refine r_aload_n (pc := 12) h 2 d_A_fillJ_12 rfl rfl ?_
    refine r_iload_n (pc := 13) h 0 d_A_fillJ_13 rfl rfl ?_
    refine r_lload_n (pc := 14) h 3 d_A_fillJ_14 rfl rfl ?_
    refine r_lastore (pc := 15) h q0 (ws' := (ws.set q0 (b, .inl (G.2 1, n, .inr (.inl (mix (i + 1) (fun _ => v) f)))))) i d_A_fillJ_15 (st_get hq) rfl hi hn31 (by rw [mix_updL i (fun _ => v) f]; exact st_set) ?_
    refine r_iinc (pc := 16) h (v := nI (i + 1)) (lv' := [(3, .int (nI (i + 1))), (4, .int (nI n)), (0, .ref b), (1, .long v)]) 0 d_A_fillJ_16 rfl (nI_inc i) (by decide) rfl ?_
    refine r_goto (pc := 19) h (tgt := 6) d_A_fillJ_19 (by decide) ?_
    exact ih
theorem c_fillI {ws : va_W} (q0 b n : Nat) (f : Nat → Int32) (v : Int32) (hq : ws[q0]? = some (b, .inl (G.2 0, n, .inl f))) (hn31 : n < 2 ^ 31) : Ct l y_A_fillI (.code y_A_fillI b_A_fillI 4 none :: TT) (rmF 0 0) G [.ref b, .int v] ws none (ws.set q0 (b, .inl (G.2 0, n, .inl (mix n (fun _ => v) f)))) := by
  refine ct_intro (cc := b_A_fillI) (nL := 4) (by decide) [(0, .ref b), (1, .int v)] rfl (Nat.le_of_ble_eq_true rfl) ?_
  intro p e s m below meth c A h hr
  refine r_iconst (pc := 0) h (v := nI 0) d_A_fillI_0 (by decide) ?_
  refine r_istore_n (pc := 1) h (lv' := [(2, .int (nI 0)), (0, .ref b), (1, .int v)]) d_A_fillI_1 rfl (by decide) rfl ?_
  refine r_aload_n (pc := 2) h 1 d_A_fillI_2 rfl rfl ?_
  refine r_alen (pc := 3) h q0 0 (v := nI n) d_A_fillI_3 hq rfl rfl ?_
  refine r_istore_n (pc := 4) h (lv' := [(3, .int (nI n)), (2, .int (nI 0)), (0, .ref b), (1, .int v)]) d_A_fillI_4 rfl (by decide) rfl ?_
  refine Wv.wld (ws' := (ws.set q0 (b, .inl (G.2 0, n, .inl (mix 0 (fun _ => v) f))))) (by rw [mix_0]; exact (st_id hq).symm) ?_
  refine Wv.sub [1, 0, 2, 3] rfl ?_
  refine Wv.loop n (fun i => (ws.set q0 (b, .inl (G.2 0, n, .inl (mix i (fun _ => v) f))))) (fun i => [(2, .int (nI i)), (3, .int (nI n)), (0, .ref b), (1, .int v)]) ?_ ?_
  · show Wv p l e _ s m _ below meth c G A _ _ _ _ (ws.set q0 (b, .inl (G.2 0, n, .inl (mix n (fun _ => v) f)))) 5 [(2, .int (nI n)), (3, .int (nI n)), (0, .ref b), (1, .int v)] []
    refine r_iload_n (pc := 5) h 0 d_A_fillI_5 rfl rfl ?_
    refine r_iload_n (pc := 6) h 1 d_A_fillI_6 rfl rfl ?_
    refine r_icmp_ge_t (pc := 7) h (tgt := 20) d_A_fillI_7 (by decide) (nI_le (Nat.le_refl _) hn31) ?_
    exact r_vret (pc := 20) h hr d_A_fillI_20
  · intro i hi ih
    have ih : Wv p l e _ s m _ below meth c G A _ _ _ _ (ws.set q0 (b, .inl (G.2 0, n, .inl (mix (i + 1) (fun _ => v) f)))) 5 [(2, .int (nI (i + 1))), (3, .int (nI n)), (0, .ref b), (1, .int v)] [] := ih
    show Wv p l e _ s m _ below meth c G A _ _ _ _ (ws.set q0 (b, .inl (G.2 0, n, .inl (mix i (fun _ => v) f)))) 5 [(2, .int (nI i)), (3, .int (nI n)), (0, .ref b), (1, .int v)] []
    refine r_iload_n (pc := 5) h 0 d_A_fillI_5 rfl rfl ?_
    refine r_iload_n (pc := 6) h 1 d_A_fillI_6 rfl rfl ?_
    refine r_icmp_ge_f (pc := 7) h (tgt := 20) d_A_fillI_7 (by decide) (nI_ge hi hn31) ?_
    refine r_aload_n (pc := 10) h 2 d_A_fillI_10 rfl rfl ?_
    refine r_iload_n (pc := 11) h 0 d_A_fillI_11 rfl rfl ?_
    refine r_iload_n (pc := 12) h 3 d_A_fillI_12 rfl rfl ?_
    refine r_iastore (pc := 13) h q0 (ws' := (ws.set q0 (b, .inl (G.2 0, n, .inl (mix (i + 1) (fun _ => v) f))))) i d_A_fillI_13 (st_get hq) rfl hi hn31 (by rw [mix_upd i (fun _ => v) f]; exact st_set) ?_
    refine r_iinc (pc := 14) h (v := nI (i + 1)) (lv' := [(2, .int (nI (i + 1))), (3, .int (nI n)), (0, .ref b), (1, .int v)]) 0 d_A_fillI_14 rfl (nI_inc i) (by decide) rfl ?_
    refine r_goto (pc := 17) h (tgt := 5) d_A_fillI_17 (by decide) ?_
    exact ih
theorem pc_68 : ∀ b, b < 256 → pcf2 (pcf1 b) ≤ 68 := by decide +kernel
theorem byt_le {f g : Nat → Nat} (h : ∀ b, b < 256 → f b ≤ g b) (k : Nat) : ∀ n n', (∀ b b', g b = g b') → byt f k n ≤ byt g k n' := by
  induction k with
  | zero => intro n n' _; exact Nat.le_refl _
  | succ k ih =>
    intro n n' hg
    show f (n % 256) + 256 * byt f k (n / 256) ≤ g (n' % 256) + 256 * byt g k (n' / 256)
    have h1 := h _ (Nat.mod_lt n (by decide : 256 > 0))
    have h2 := ih (n / 256) (n' / 256) hg
    rw [hg (n % 256) (n' % 256)] at h1
    omega
/-- the numbers of bitCount's steps -/
theorem bc_all {n : Nat} (hn : n < 2 ^ 64) : ∃ n1 n2 n3 n4 n5 n6 : Nat, n1 = n - ((n / 2) &&& mk 85 8) ∧ n2 = (n1 &&& mk 51 8) + ((n1 / 4) &&& mk 51 8) ∧ n3 = (n2 + n2 / 16) &&& mk 15 8 ∧ n4 = n3 + n3 / 256 ∧ n5 = n4 + n4 / 65536 ∧ n6 = n5 + n5 / 4294967296 ∧ (n / 2) &&& mk 85 8 ≤ n ∧ n1 < 2 ^ 64 ∧ n2 < 2 ^ 64 ∧ n2 + n2 / 16 < 2 ^ 64 ∧ n3 < 2 ^ 64 ∧ n4 < 2 ^ 64 ∧ n5 < 2 ^ 64 ∧ n6 < 2 ^ 63 ∧ n6 % 128 = bys pc8 8 n := by
  have hn8 : n < 256 ^ 8 := hn
  refine ⟨_, _, _, _, _, _, rfl, rfl, rfl, rfl, rfl, rfl, (pc_1 8 n hn8).1, ?_⟩
  generalize h1 : n - ((n / 2) &&& mk 85 8) = n1
  generalize h2 : (n1 &&& mk 51 8) + ((n1 / 4) &&& mk 51 8) = n2
  have l1 : n1 < 256 ^ 8 := by rw [← h1, (pc_1 8 n hn8).2]; exact byt_lt pc_f1 8 n
  have e2 : n2 = byt (fun b => pcf2 (pcf1 b)) 8 n := by
    rw [← h2, pc_2 8 n1 l1, ← h1, (pc_1 8 n hn8).2, byt_byt pc_f1]
  have l2 : n2 < 256 ^ 8 := by rw [e2]; exact byt_lt (fun b hb => (pc_f2 b hb).1) 8 n
  have nb : n2 % 256 ^ 8 = n2 := Nat.mod_eq_of_lt l2
  have e3 := pc_123 hn8 h1.symm h2.symm
  have b2 : n2 ≤ byt (fun _ => 68) 8 0 := by
    rw [e2]
    exact byt_le (fun b hb => pc_68 b hb) 8 n 0 (fun _ _ => rfl)
  have b2' : byt (fun _ => 68) 8 0 + byt (fun _ => 68) 8 0 / 16 < 2 ^ 64 := by decide
  have l2b : n2 + n2 / 16 < 2 ^ 64 := Nat.lt_of_le_of_lt (Nat.add_le_add b2 (Nat.div_le_div_right b2)) b2'
  rw [e3]
  have hs := pc_sum (n := n) rfl rfl rfl rfl
  have l3 : byt pc8 8 n < 2 ^ 64 := byt_lt (fun b hb => Nat.lt_of_le_of_lt (pc8_le b hb) (by decide)) 8 n
  refine ⟨l1, l2, l2b, l3, ?_, ?_, hs.2, hs.1⟩
  · have := hs.2
    have q1 : byt pc8 8 n + byt pc8 8 n / 256 ≤ byt pc8 8 n + byt pc8 8 n / 256 + (byt pc8 8 n + byt pc8 8 n / 256) / 65536 := Nat.le_add_right _ _
    have q2 := Nat.le_trans q1 (Nat.le_add_right _ ((byt pc8 8 n + byt pc8 8 n / 256 + (byt pc8 8 n + byt pc8 8 n / 256) / 65536) / 4294967296))
    exact Nat.lt_of_le_of_lt q2 (Nat.lt_trans this (by decide))
  · have := hs.2
    have q2 := Nat.le_add_right (byt pc8 8 n + byt pc8 8 n / 256 + (byt pc8 8 n + byt pc8 8 n / 256) / 65536) ((byt pc8 8 n + byt pc8 8 n / 256 + (byt pc8 8 n + byt pc8 8 n / 256) / 65536) / 4294967296)
    exact Nat.lt_of_le_of_lt q2 (Nat.lt_trans this (by decide))
theorem mk_lt : mk 85 8 < 2 ^ 64 ∧ mk 51 8 < 2 ^ 64 ∧ mk 15 8 < 2 ^ 64 := by decide
theorem l2i_127 {n : Nat} : nI n &&& nI 127 = nI (n % 128) := by
  rw [nx_and, show (127 : Nat) = 2 ^ 7 - 1 from rfl, Nat.and_two_pow_sub_one_eq_mod]
theorem c_bitCountN {ws : va_W} (n : Nat) (hn : n < 2 ^ 64) : Ct l y_J_bitCount (.code y_J_bitCount b_J_bitCount 2 (some .int) :: TT) (rmF 0 0) G [.long (lN n)] ws (some (.int (nI (bys pc8 8 n)))) ws := by
  refine ct_intro (cc := b_J_bitCount) (nL := 2) (by decide) [(0, .long (lN n))] rfl (Nat.le_of_ble_eq_true rfl) ?_
  intro p e s m below meth c A h hr
  obtain ⟨n1, n2, n3, n4, n5, n6, e1, e2, e3, e4, e5, e6, hle, l1, l2, l2b, l3, l4, l5, l6, e7⟩ := bc_all hn
  refine r_lload_n (pc := 0) h 0 d_J_bitCount_0 rfl rfl ?_
  refine r_lload_n (pc := 1) h 0 d_J_bitCount_1 rfl rfl ?_
  refine r_iconst (pc := 2) h (v := nI 1) d_J_bitCount_2 (by decide) ?_
  refine r_lushr (pc := 3) h (z := lN (n / 2)) d_J_bitCount_3 (wb_shr hn (by decide)) ?_
  refine r_ldc2 (pc := 4) h (v := lN (mk 85 8)) d_J_bitCount_4 (by rw [show lN (mk 85 8) = 6148914691236517205 from by decide +kernel]; exact List.mem_cons_of_mem _ w_253) ?_
  refine r_land (pc := 7) h (z := lN ((n / 2) &&& mk 85 8)) d_J_bitCount_7 (wb_and (Nat.lt_of_le_of_lt (Nat.div_le_self _ _) hn) mk_lt.1) ?_
  refine r_lsub (pc := 8) h (z := lN n1) d_J_bitCount_8 (by rw [e1]; exact lN_sub hle) ?_
  refine r_lstore_n (pc := 9) h (lv' := [(0, .long (lN n1))]) d_J_bitCount_9 rfl (by decide) rfl ?_
  refine r_lload_n (pc := 10) h 0 d_J_bitCount_10 rfl rfl ?_
  refine r_ldc2 (pc := 11) h (v := lN (mk 51 8)) d_J_bitCount_11 (by rw [show lN (mk 51 8) = 3689348814741910323 from by decide +kernel]; exact List.mem_cons_of_mem _ w_254) ?_
  refine r_land (pc := 14) h (z := lN (n1 &&& mk 51 8)) d_J_bitCount_14 (wb_and l1 mk_lt.2.1) ?_
  refine r_lload_n (pc := 15) h 0 d_J_bitCount_15 rfl rfl ?_
  refine r_iconst (pc := 16) h (v := nI 2) d_J_bitCount_16 (by decide) ?_
  refine r_lushr (pc := 17) h (z := lN (n1 / 4)) d_J_bitCount_17 (wb_shr l1 (by decide)) ?_
  refine r_ldc2 (pc := 18) h (v := lN (mk 51 8)) d_J_bitCount_18 (by rw [show lN (mk 51 8) = 3689348814741910323 from by decide +kernel]; exact List.mem_cons_of_mem _ w_254) ?_
  refine r_land (pc := 21) h (z := lN ((n1 / 4) &&& mk 51 8)) d_J_bitCount_21 (wb_and (Nat.lt_of_le_of_lt (Nat.div_le_self _ _) l1) mk_lt.2.1) ?_
  refine r_ladd (pc := 22) h (z := lN n2) d_J_bitCount_22 (by rw [e2]; exact lN_add _ _) ?_
  refine r_lstore_n (pc := 23) h (lv' := [(0, .long (lN n2))]) d_J_bitCount_23 rfl (by decide) rfl ?_
  refine r_lload_n (pc := 24) h 0 d_J_bitCount_24 rfl rfl ?_
  refine r_lload_n (pc := 25) h 0 d_J_bitCount_25 rfl rfl ?_
  refine r_iconst (pc := 26) h (v := nI 4) d_J_bitCount_26 (by decide) ?_
  refine r_lushr (pc := 27) h (z := lN (n2 / 16)) d_J_bitCount_27 (wb_shr l2 (by decide)) ?_
  refine r_ladd (pc := 28) h (z := lN (n2 + n2 / 16)) d_J_bitCount_28 (lN_add _ _) ?_
  refine r_ldc2 (pc := 29) h (v := lN (mk 15 8)) d_J_bitCount_29 (by rw [show lN (mk 15 8) = 1085102592571150095 from by decide +kernel]; exact List.mem_cons_of_mem _ w_255) ?_
  refine r_land (pc := 32) h (z := lN n3) d_J_bitCount_32 (by rw [e3]; exact wb_and l2b mk_lt.2.2) ?_
  refine r_lstore_n (pc := 33) h (lv' := [(0, .long (lN n3))]) d_J_bitCount_33 rfl (by decide) rfl ?_
  refine r_lload_n (pc := 34) h 0 d_J_bitCount_34 rfl rfl ?_
  refine r_lload_n (pc := 35) h 0 d_J_bitCount_35 rfl rfl ?_
  refine r_bipush (pc := 36) h (v := nI 8) d_J_bitCount_36 (by decide) ?_
  refine r_lushr (pc := 38) h (z := lN (n3 / 256)) d_J_bitCount_38 (wb_shr l3 (by decide)) ?_
  refine r_ladd (pc := 39) h (z := lN n4) d_J_bitCount_39 (by rw [e4]; exact lN_add _ _) ?_
  refine r_lstore_n (pc := 40) h (lv' := [(0, .long (lN n4))]) d_J_bitCount_40 rfl (by decide) rfl ?_
  refine r_lload_n (pc := 41) h 0 d_J_bitCount_41 rfl rfl ?_
  refine r_lload_n (pc := 42) h 0 d_J_bitCount_42 rfl rfl ?_
  refine r_bipush (pc := 43) h (v := nI 16) d_J_bitCount_43 (by decide) ?_
  refine r_lushr (pc := 45) h (z := lN (n4 / 65536)) d_J_bitCount_45 (wb_shr l4 (by decide)) ?_
  refine r_ladd (pc := 46) h (z := lN n5) d_J_bitCount_46 (by rw [e5]; exact lN_add _ _) ?_
  refine r_lstore_n (pc := 47) h (lv' := [(0, .long (lN n5))]) d_J_bitCount_47 rfl (by decide) rfl ?_
  refine r_lload_n (pc := 48) h 0 d_J_bitCount_48 rfl rfl ?_
  refine r_lload_n (pc := 49) h 0 d_J_bitCount_49 rfl rfl ?_
  refine r_bipush (pc := 50) h (v := nI 32) d_J_bitCount_50 (by decide) ?_
  refine r_lushr (pc := 52) h (z := lN (n5 / 4294967296)) d_J_bitCount_52 (wb_shr l5 (by decide)) ?_
  refine r_ladd (pc := 53) h (z := lN n6) d_J_bitCount_53 (by rw [e6]; exact lN_add _ _) ?_
  refine r_lstore_n (pc := 54) h (lv' := [(0, .long (lN n6))]) d_J_bitCount_54 rfl (by decide) rfl ?_
  refine r_lload_n (pc := 55) h 0 d_J_bitCount_55 rfl rfl ?_
  refine r_l2i (pc := 56) h (z := nI n6) d_J_bitCount_56 (lN_i n6) ?_
  refine r_bipush (pc := 57) h (v := nI 127) d_J_bitCount_57 (by decide) ?_
  refine r_iand (pc := 59) h (z := nI (bys pc8 8 n)) d_J_bitCount_59 (by rw [← e7]; exact l2i_127) ?_
  exact r_iret (pc := 60) h hr d_J_bitCount_60
theorem c_bitCount {ws : va_W} (x : Int64) : Ct l y_J_bitCount (.code y_J_bitCount b_J_bitCount 2 (some .int) :: TT) (rmF 0 0) G [.long x] ws (some (.int (nI (bys pc8 8 x.toBitVec.toNat)))) ws := by
  obtain ⟨n, hn, rfl⟩ := wb_of x
  rw [wb_tn hn]
  exact c_bitCountN n hn
end CN
end
section
-- the class's public methods where they don't throw
def gB (b : Bool) (wk : Nat → Int64) (v j : Nat) : Int64 := if b = true then wk j &&& tW wk v j else wk j ||| tW wk v j
/-- work and spare along bound -/
def bnd (S : Nat) (b : Bool) (wk sp : Nat → Int64) : Nat → (Nat → Int64) × (Nat → Int64)
  | 0 => (wk, sp)
  | v + 1 => if S.testBit v = true then (mix 16 (mix 16 (gB b (bnd S b wk sp v).1 v) (bnd S b wk sp v).2) (bnd S b wk sp v).1, mix 16 (gB b (bnd S b wk sp v).1 v) (bnd S b wk sp v).2) else bnd S b wk sp v
/-- is it so? -/
noncomputable def bD (P : Prop) : Bool := @decide P (Classical.propDecidable P)
theorem bD_t {P : Prop} (h : P) : bD P = true := @decide_eq_true P (Classical.propDecidable P) h
theorem bD_f {P : Prop} (h : ¬ P) : bD P = false := @decide_eq_false P (Classical.propDecidable P) h
theorem bD_i {P : Prop} : bD P = true ↔ P := ⟨fun h => Classical.byContradiction (fun q => by rw [bD_f q] at h; cases h), bD_t⟩
theorem bD_c {P Q : Prop} (h : P ↔ Q) : bD P = bD Q := by rw [propext h]
noncomputable def hgB (f : Nat → Int64) (v : Nat) : Bool := !bD (∀ i, i < 16 → f i = tW f v i)
noncomputable def hgN (f : Nat → Int64) : Nat → Nat
  | 0 => 0
  | v + 1 => if hgB f v = true then hgN f v ||| 2 ^ v else hgN f v
def wyN (f : Nat → Int64) : Nat → Nat
  | 0 => 0
  | j + 1 => wyN f j + bys pc8 8 (f j).toBitVec.toNat
section CV
variable {l : Launch} {G : gG} {a : Nat → Nat} {hd : Nat → Nat → Int64} {wk sp : Nat → Int64} {ct : Int32} {ky nm : Nat → Int32}
theorem rd_mix {t r i : Nat} {g : Nat → Int64} : va_up hd t (mix i g (hd t)) r i = hd r i := by
  by_cases h : r = t
  · subst h
    rw [va_up_s, mix_ge (Nat.lt_irrefl i)]
  · rw [va_up_n _ _ h]
theorem cw_st {t i : Nat} {g : Nat → Int64} : (cw G a (va_up hd t (mix i g (hd t))) wk sp ct ky nm).set (7 + t) (a (7 + t), rwL G (vp_updL (va_up hd t (mix i g (hd t)) t) i (g i))) = cw G a (va_up hd t (mix (i + 1) g (hd t))) wk sp ct ky nm := by
  rw [cw_sr, va_up_s, mix_updL, va_up2]
theorem cw_en {t : Nat} {g : Nat → Int64} : cw G a hd wk sp ct ky nm = cw G a (va_up hd t (mix 0 g (hd t))) wk sp ct ky nm := by rw [mix_0, va_up_id]
theorem c_variable (t : Nat) (ht : t < 16) (v : Nat) (hv : v < 10) : Ct l y_D_variable (.code y_D_variable b_D_variable 4 none :: TT) (rmF 2 42) G [.ref (a 0), .int (nI t), .int (nI v)] (cw G a hd wk sp ct ky nm) none (cw G a (va_up hd t (mix 16 (vW v) (hd t))) wk sp ct ky nm) := by
  refine ct_intro (cc := b_D_variable) (nL := 4) (by decide) [(0, .ref (a 0)), (1, .int (nI t)), (2, .int (nI v))] rfl (Nat.le_of_ble_eq_true rfl) ?_
  intro p e s m below meth c A h hr
  refine r_iload_n (pc := 0) h 1 d_D_variable_0 rfl rfl ?_
  refine r_invSv (pc := 1) h (st := []) d_D_variable_1 (c_checkRegister t ht) (r_cS h wc_D_checkRegister w_63 w_1 w_64 hd_D_checkRegister ⟨(Nat.le_of_ble_eq_true rfl), (Nat.le_of_ble_eq_true rfl)⟩ rfl rfl) rfl rfl (Nat.le_of_ble_eq_true rfl) ⟨(Nat.le_of_ble_eq_true rfl), (Nat.le_of_ble_eq_true rfl)⟩ rfl ?_
  refine r_iload_n (pc := 4) h 2 d_D_variable_4 rfl rfl ?_
  refine r_invSv (pc := 5) h (st := []) d_D_variable_5 (c_checkVariable v hv) (r_cS h wc_D_checkVariable w_133 w_1 w_134 hd_D_checkVariable ⟨(Nat.le_of_ble_eq_true rfl), (Nat.le_of_ble_eq_true rfl)⟩ rfl rfl) rfl rfl (Nat.le_of_ble_eq_true rfl) ⟨(Nat.le_of_ble_eq_true rfl), (Nat.le_of_ble_eq_true rfl)⟩ rfl ?_
  refine r_iconst (pc := 8) h (v := nI 0) d_D_variable_8 (by decide) ?_
  refine r_istore_n (pc := 9) h (lv' := [(3, .int (nI 0)), (0, .ref (a 0)), (1, .int (nI t)), (2, .int (nI v))]) d_D_variable_9 rfl (by decide) rfl ?_
  refine Wv.wld (ws' := (cw G a (va_up hd t (mix 0 (vW v) (hd t))) wk sp ct ky nm)) cw_en ?_
  refine Wv.loop 16 (fun i => (cw G a (va_up hd t (mix i (vW v) (hd t))) wk sp ct ky nm)) (fun i => [(3, .int (nI i)), (0, .ref (a 0)), (1, .int (nI t)), (2, .int (nI v))]) ?_ ?_
  · show Wv p l e _ s m _ below meth c G A _ _ _ _ (cw G a (va_up hd t (mix 16 (vW v) (hd t))) wk sp ct ky nm) 10 [(3, .int (nI 16)), (0, .ref (a 0)), (1, .int (nI t)), (2, .int (nI v))] []
    refine r_iload_n (pc := 10) h 0 d_D_variable_10 rfl rfl ?_
    refine r_bipush (pc := 11) h (v := nI 16) d_D_variable_11 (by decide) ?_
    refine r_icmp_ge_t (pc := 13) h (tgt := 35) d_D_variable_13 (by decide) (nI_le (Nat.le_refl _) (by decide)) ?_
    exact r_vret (pc := 35) h hr d_D_variable_35
  · intro i hi ih
    have ih : Wv p l e _ s m _ below meth c G A _ _ _ _ (cw G a (va_up hd t (mix (i + 1) (vW v) (hd t))) wk sp ct ky nm) 10 [(3, .int (nI (i + 1))), (0, .ref (a 0)), (1, .int (nI t)), (2, .int (nI v))] [] := ih
    show Wv p l e _ s m _ below meth c G A _ _ _ _ (cw G a (va_up hd t (mix i (vW v) (hd t))) wk sp ct ky nm) 10 [(3, .int (nI i)), (0, .ref (a 0)), (1, .int (nI t)), (2, .int (nI v))] []
    refine r_iload_n (pc := 10) h 0 d_D_variable_10 rfl rfl ?_
    refine r_bipush (pc := 11) h (v := nI 16) d_D_variable_11 (by decide) ?_
    refine r_icmp_ge_f (pc := 13) h (tgt := 35) d_D_variable_13 (by decide) (nI_ge hi (by decide)) ?_
    refine r_aload_n (pc := 16) h 1 d_D_variable_16 rfl rfl ?_
    refine r_get (pc := 17) h 0 0 d_D_variable_17 cw_0 rfl (by decide) in_D (List.mem_cons_of_mem _ w_42) rfl ?_
    refine r_iload_n (pc := 20) h 2 d_D_variable_20 rfl rfl ?_
    refine r_aaload (pc := 21) h 1 3 t d_D_variable_21 cw_1 rfl rfl rfl ht (by decide) (cw_o ht) ?_
    refine r_iload_n (pc := 22) h 0 d_D_variable_22 rfl rfl ?_
    refine r_iload_n (pc := 23) h 3 d_D_variable_23 rfl rfl ?_
    refine r_iload_n (pc := 24) h 0 d_D_variable_24 rfl rfl ?_
    refine r_invSa (pc := 25) h (st := [.int (nI i), .ref (a (7 + t))]) d_D_variable_25 (c_variableWord v i hv hi) (r_cS h wc_D_variableWord w_137 w_1 w_138 hd_D_variableWord ⟨(Nat.le_of_ble_eq_true rfl), (Nat.le_of_ble_eq_true rfl)⟩ rfl rfl) rfl rfl (Nat.le_of_ble_eq_true rfl) ⟨(Nat.le_of_ble_eq_true rfl), (Nat.le_of_ble_eq_true rfl)⟩ rfl ?_
    refine r_lastore (pc := 28) h (7 + t) (ws' := (cw G a (va_up hd t (mix (i + 1) (vW v) (hd t))) wk sp ct ky nm)) i d_D_variable_28 (cw_r ht) rfl hi (by decide) (cw_st (g := (vW v))) ?_
    refine r_iinc (pc := 29) h (v := nI (i + 1)) (lv' := [(3, .int (nI (i + 1))), (0, .ref (a 0)), (1, .int (nI t)), (2, .int (nI v))]) 0 d_D_variable_29 rfl (nI_inc i) (by decide) rfl ?_
    refine r_goto (pc := 32) h (tgt := 10) d_D_variable_32 (by decide) ?_
    exact ih
theorem c_join (t : Nat) (ht : t < 16) (k r1 r2 : Nat) (hk : k < 5) (h1 : r1 < 16) (h2 : r2 < 16) : Ct l y_D_join (.code y_D_join b_D_join 6 none :: TT) (rmF 1 24) G [.ref (a 0), .int (nI t), .int (nI k), .int (nI r1), .int (nI r2)] (cw G a hd wk sp ct ky nm) none (cw G a (va_up hd t (mix 16 (fun j => jW k (hd r1 j) (hd r2 j)) (hd t))) wk sp ct ky nm) := by
  refine ct_intro (cc := b_D_join) (nL := 6) (by decide) [(0, .ref (a 0)), (1, .int (nI t)), (2, .int (nI k)), (3, .int (nI r1)), (4, .int (nI r2))] rfl (Nat.le_of_ble_eq_true rfl) ?_
  intro p e s m below meth c A h hr
  refine r_iload_n (pc := 0) h 1 d_D_join_0 rfl rfl ?_
  refine r_invSv (pc := 1) h (st := []) d_D_join_1 (c_checkRegister t ht) (r_cS h wc_D_checkRegister w_63 w_1 w_64 hd_D_checkRegister ⟨(Nat.le_of_ble_eq_true rfl), (Nat.le_of_ble_eq_true rfl)⟩ rfl rfl) rfl rfl (Nat.le_of_ble_eq_true rfl) ⟨(Nat.le_of_ble_eq_true rfl), (Nat.le_of_ble_eq_true rfl)⟩ rfl ?_
  refine r_iload_n (pc := 4) h 2 d_D_join_4 rfl rfl ?_
  refine r_invSv (pc := 5) h (st := []) d_D_join_5 (c_checkKind k hk) (r_cS h wc_D_checkKind w_167 w_1 w_168 hd_D_checkKind ⟨(Nat.le_of_ble_eq_true rfl), (Nat.le_of_ble_eq_true rfl)⟩ rfl rfl) rfl rfl (Nat.le_of_ble_eq_true rfl) ⟨(Nat.le_of_ble_eq_true rfl), (Nat.le_of_ble_eq_true rfl)⟩ rfl ?_
  refine r_iload_n (pc := 8) h 3 d_D_join_8 rfl rfl ?_
  refine r_invSv (pc := 9) h (st := []) d_D_join_9 (c_checkRegister r1 h1) (r_cS h wc_D_checkRegister w_63 w_1 w_64 hd_D_checkRegister ⟨(Nat.le_of_ble_eq_true rfl), (Nat.le_of_ble_eq_true rfl)⟩ rfl rfl) rfl rfl (Nat.le_of_ble_eq_true rfl) ⟨(Nat.le_of_ble_eq_true rfl), (Nat.le_of_ble_eq_true rfl)⟩ rfl ?_
  refine r_iload (pc := 12) h 4 d_D_join_12 rfl ?_
  refine r_invSv (pc := 14) h (st := []) d_D_join_14 (c_checkRegister r2 h2) (r_cS h wc_D_checkRegister w_63 w_1 w_64 hd_D_checkRegister ⟨(Nat.le_of_ble_eq_true rfl), (Nat.le_of_ble_eq_true rfl)⟩ rfl rfl) rfl rfl (Nat.le_of_ble_eq_true rfl) ⟨(Nat.le_of_ble_eq_true rfl), (Nat.le_of_ble_eq_true rfl)⟩ rfl ?_
  refine r_iconst (pc := 17) h (v := nI 0) d_D_join_17 (by decide) ?_
  refine r_istore (pc := 18) h (lv' := [(5, .int (nI 0)), (0, .ref (a 0)), (1, .int (nI t)), (2, .int (nI k)), (3, .int (nI r1)), (4, .int (nI r2))]) d_D_join_18 (by decide) rfl ?_
  refine Wv.wld (ws' := (cw G a (va_up hd t (mix 0 (fun j => jW k (hd r1 j) (hd r2 j)) (hd t))) wk sp ct ky nm)) cw_en ?_
  refine Wv.loop 16 (fun i => (cw G a (va_up hd t (mix i (fun j => jW k (hd r1 j) (hd r2 j)) (hd t))) wk sp ct ky nm)) (fun i => [(5, .int (nI i)), (0, .ref (a 0)), (1, .int (nI t)), (2, .int (nI k)), (3, .int (nI r1)), (4, .int (nI r2))]) ?_ ?_
  · show Wv p l e _ s m _ below meth c G A _ _ _ _ (cw G a (va_up hd t (mix 16 (fun j => jW k (hd r1 j) (hd r2 j)) (hd t))) wk sp ct ky nm) 20 [(5, .int (nI 16)), (0, .ref (a 0)), (1, .int (nI t)), (2, .int (nI k)), (3, .int (nI r1)), (4, .int (nI r2))] []
    refine r_iload (pc := 20) h 0 d_D_join_20 rfl ?_
    refine r_bipush (pc := 22) h (v := nI 16) d_D_join_22 (by decide) ?_
    refine r_icmp_ge_t (pc := 24) h (tgt := 65) d_D_join_24 (by decide) (nI_le (Nat.le_refl _) (by decide)) ?_
    exact r_vret (pc := 65) h hr d_D_join_65
  · intro i hi ih
    have ih : Wv p l e _ s m _ below meth c G A _ _ _ _ (cw G a (va_up hd t (mix (i + 1) (fun j => jW k (hd r1 j) (hd r2 j)) (hd t))) wk sp ct ky nm) 20 [(5, .int (nI (i + 1))), (0, .ref (a 0)), (1, .int (nI t)), (2, .int (nI k)), (3, .int (nI r1)), (4, .int (nI r2))] [] := ih
    show Wv p l e _ s m _ below meth c G A _ _ _ _ (cw G a (va_up hd t (mix i (fun j => jW k (hd r1 j) (hd r2 j)) (hd t))) wk sp ct ky nm) 20 [(5, .int (nI i)), (0, .ref (a 0)), (1, .int (nI t)), (2, .int (nI k)), (3, .int (nI r1)), (4, .int (nI r2))] []
    refine r_iload (pc := 20) h 0 d_D_join_20 rfl ?_
    refine r_bipush (pc := 22) h (v := nI 16) d_D_join_22 (by decide) ?_
    refine r_icmp_ge_f (pc := 24) h (tgt := 65) d_D_join_24 (by decide) (nI_ge hi (by decide)) ?_
    refine r_aload_n (pc := 27) h 1 d_D_join_27 rfl rfl ?_
    refine r_get (pc := 28) h 0 0 d_D_join_28 cw_0 rfl (by decide) in_D (List.mem_cons_of_mem _ w_42) rfl ?_
    refine r_iload_n (pc := 31) h 2 d_D_join_31 rfl rfl ?_
    refine r_aaload (pc := 32) h 1 3 t d_D_join_32 cw_1 rfl rfl rfl ht (by decide) (cw_o ht) ?_
    refine r_iload (pc := 33) h 0 d_D_join_33 rfl ?_
    refine r_iload_n (pc := 35) h 3 d_D_join_35 rfl rfl ?_
    refine r_aload_n (pc := 36) h 1 d_D_join_36 rfl rfl ?_
    refine r_get (pc := 37) h 0 0 d_D_join_37 cw_0 rfl (by decide) in_D (List.mem_cons_of_mem _ w_42) rfl ?_
    refine r_iload_n (pc := 40) h 4 d_D_join_40 rfl rfl ?_
    refine r_aaload (pc := 41) h 1 3 r1 d_D_join_41 cw_1 rfl rfl rfl h1 (by decide) (cw_o h1) ?_
    refine r_iload (pc := 42) h 0 d_D_join_42 rfl ?_
    refine r_laload (pc := 44) h (7 + r1) (z := hd r1 i) i d_D_join_44 (cw_r h1) rfl hi (by decide) rd_mix ?_
    refine r_aload_n (pc := 45) h 1 d_D_join_45 rfl rfl ?_
    refine r_get (pc := 46) h 0 0 d_D_join_46 cw_0 rfl (by decide) in_D (List.mem_cons_of_mem _ w_42) rfl ?_
    refine r_iload (pc := 49) h 5 d_D_join_49 rfl ?_
    refine r_aaload (pc := 51) h 1 3 r2 d_D_join_51 cw_1 rfl rfl rfl h2 (by decide) (cw_o h2) ?_
    refine r_iload (pc := 52) h 0 d_D_join_52 rfl ?_
    refine r_laload (pc := 54) h (7 + r2) (z := hd r2 i) i d_D_join_54 (cw_r h2) rfl hi (by decide) rd_mix ?_
    refine r_invSa (pc := 55) h (st := [.int (nI i), .ref (a (7 + t))]) d_D_join_55 (c_joinedWord k (hd r1 i) (hd r2 i) hk) (r_cS h wc_D_joinedWord w_171 w_1 w_172 hd_D_joinedWord ⟨(Nat.le_of_ble_eq_true rfl), (Nat.le_of_ble_eq_true rfl)⟩ rfl rfl) rfl rfl (Nat.le_of_ble_eq_true rfl) ⟨(Nat.le_of_ble_eq_true rfl), (Nat.le_of_ble_eq_true rfl)⟩ rfl ?_
    refine r_lastore (pc := 58) h (7 + t) (ws' := (cw G a (va_up hd t (mix (i + 1) (fun j => jW k (hd r1 j) (hd r2 j)) (hd t))) wk sp ct ky nm)) i d_D_join_58 (cw_r ht) rfl hi (by decide) (cw_st (g := (fun j => jW k (hd r1 j) (hd r2 j)))) ?_
    refine r_iinc (pc := 59) h (v := nI (i + 1)) (lv' := [(5, .int (nI (i + 1))), (0, .ref (a 0)), (1, .int (nI t)), (2, .int (nI k)), (3, .int (nI r1)), (4, .int (nI r2))]) 0 d_D_join_59 rfl (nI_inc i) (by decide) rfl ?_
    refine r_goto (pc := 62) h (tgt := 20) d_D_join_62 (by decide) ?_
    exact ih
theorem c_choose (t : Nat) (ht : t < 16) (r1 r2 r3 : Nat) (h1 : r1 < 16) (h2 : r2 < 16) (h3 : r3 < 16) : Ct l y_D_choose (.code y_D_choose b_D_choose 6 none :: TT) (rmF 1 25) G [.ref (a 0), .int (nI t), .int (nI r1), .int (nI r2), .int (nI r3)] (cw G a hd wk sp ct ky nm) none (cw G a (va_up hd t (mix 16 (fun j => cW (hd r1 j) (hd r2 j) (hd r3 j)) (hd t))) wk sp ct ky nm) := by
  refine ct_intro (cc := b_D_choose) (nL := 6) (by decide) [(0, .ref (a 0)), (1, .int (nI t)), (2, .int (nI r1)), (3, .int (nI r2)), (4, .int (nI r3))] rfl (Nat.le_of_ble_eq_true rfl) ?_
  intro p e s m below meth c A h hr
  refine r_iload_n (pc := 0) h 1 d_D_choose_0 rfl rfl ?_
  refine r_invSv (pc := 1) h (st := []) d_D_choose_1 (c_checkRegister t ht) (r_cS h wc_D_checkRegister w_63 w_1 w_64 hd_D_checkRegister ⟨(Nat.le_of_ble_eq_true rfl), (Nat.le_of_ble_eq_true rfl)⟩ rfl rfl) rfl rfl (Nat.le_of_ble_eq_true rfl) ⟨(Nat.le_of_ble_eq_true rfl), (Nat.le_of_ble_eq_true rfl)⟩ rfl ?_
  refine r_iload_n (pc := 4) h 2 d_D_choose_4 rfl rfl ?_
  refine r_invSv (pc := 5) h (st := []) d_D_choose_5 (c_checkRegister r1 h1) (r_cS h wc_D_checkRegister w_63 w_1 w_64 hd_D_checkRegister ⟨(Nat.le_of_ble_eq_true rfl), (Nat.le_of_ble_eq_true rfl)⟩ rfl rfl) rfl rfl (Nat.le_of_ble_eq_true rfl) ⟨(Nat.le_of_ble_eq_true rfl), (Nat.le_of_ble_eq_true rfl)⟩ rfl ?_
  refine r_iload_n (pc := 8) h 3 d_D_choose_8 rfl rfl ?_
  refine r_invSv (pc := 9) h (st := []) d_D_choose_9 (c_checkRegister r2 h2) (r_cS h wc_D_checkRegister w_63 w_1 w_64 hd_D_checkRegister ⟨(Nat.le_of_ble_eq_true rfl), (Nat.le_of_ble_eq_true rfl)⟩ rfl rfl) rfl rfl (Nat.le_of_ble_eq_true rfl) ⟨(Nat.le_of_ble_eq_true rfl), (Nat.le_of_ble_eq_true rfl)⟩ rfl ?_
  refine r_iload (pc := 12) h 4 d_D_choose_12 rfl ?_
  refine r_invSv (pc := 14) h (st := []) d_D_choose_14 (c_checkRegister r3 h3) (r_cS h wc_D_checkRegister w_63 w_1 w_64 hd_D_checkRegister ⟨(Nat.le_of_ble_eq_true rfl), (Nat.le_of_ble_eq_true rfl)⟩ rfl rfl) rfl rfl (Nat.le_of_ble_eq_true rfl) ⟨(Nat.le_of_ble_eq_true rfl), (Nat.le_of_ble_eq_true rfl)⟩ rfl ?_
  refine r_iconst (pc := 17) h (v := nI 0) d_D_choose_17 (by decide) ?_
  refine r_istore (pc := 18) h (lv' := [(5, .int (nI 0)), (0, .ref (a 0)), (1, .int (nI t)), (2, .int (nI r1)), (3, .int (nI r2)), (4, .int (nI r3))]) d_D_choose_18 (by decide) rfl ?_
  refine Wv.wld (ws' := (cw G a (va_up hd t (mix 0 (fun j => cW (hd r1 j) (hd r2 j) (hd r3 j)) (hd t))) wk sp ct ky nm)) cw_en ?_
  refine Wv.loop 16 (fun i => (cw G a (va_up hd t (mix i (fun j => cW (hd r1 j) (hd r2 j) (hd r3 j)) (hd t))) wk sp ct ky nm)) (fun i => [(5, .int (nI i)), (0, .ref (a 0)), (1, .int (nI t)), (2, .int (nI r1)), (3, .int (nI r2)), (4, .int (nI r3))]) ?_ ?_
  · show Wv p l e _ s m _ below meth c G A _ _ _ _ (cw G a (va_up hd t (mix 16 (fun j => cW (hd r1 j) (hd r2 j) (hd r3 j)) (hd t))) wk sp ct ky nm) 20 [(5, .int (nI 16)), (0, .ref (a 0)), (1, .int (nI t)), (2, .int (nI r1)), (3, .int (nI r2)), (4, .int (nI r3))] []
    refine r_iload (pc := 20) h 0 d_D_choose_20 rfl ?_
    refine r_bipush (pc := 22) h (v := nI 16) d_D_choose_22 (by decide) ?_
    refine r_icmp_ge_t (pc := 24) h (tgt := 73) d_D_choose_24 (by decide) (nI_le (Nat.le_refl _) (by decide)) ?_
    exact r_vret (pc := 73) h hr d_D_choose_73
  · intro i hi ih
    have ih : Wv p l e _ s m _ below meth c G A _ _ _ _ (cw G a (va_up hd t (mix (i + 1) (fun j => cW (hd r1 j) (hd r2 j) (hd r3 j)) (hd t))) wk sp ct ky nm) 20 [(5, .int (nI (i + 1))), (0, .ref (a 0)), (1, .int (nI t)), (2, .int (nI r1)), (3, .int (nI r2)), (4, .int (nI r3))] [] := ih
    show Wv p l e _ s m _ below meth c G A _ _ _ _ (cw G a (va_up hd t (mix i (fun j => cW (hd r1 j) (hd r2 j) (hd r3 j)) (hd t))) wk sp ct ky nm) 20 [(5, .int (nI i)), (0, .ref (a 0)), (1, .int (nI t)), (2, .int (nI r1)), (3, .int (nI r2)), (4, .int (nI r3))] []
    refine r_iload (pc := 20) h 0 d_D_choose_20 rfl ?_
    refine r_bipush (pc := 22) h (v := nI 16) d_D_choose_22 (by decide) ?_
    refine r_icmp_ge_f (pc := 24) h (tgt := 73) d_D_choose_24 (by decide) (nI_ge hi (by decide)) ?_
    refine r_aload_n (pc := 27) h 1 d_D_choose_27 rfl rfl ?_
    refine r_get (pc := 28) h 0 0 d_D_choose_28 cw_0 rfl (by decide) in_D (List.mem_cons_of_mem _ w_42) rfl ?_
    refine r_iload_n (pc := 31) h 2 d_D_choose_31 rfl rfl ?_
    refine r_aaload (pc := 32) h 1 3 t d_D_choose_32 cw_1 rfl rfl rfl ht (by decide) (cw_o ht) ?_
    refine r_iload (pc := 33) h 0 d_D_choose_33 rfl ?_
    refine r_aload_n (pc := 35) h 1 d_D_choose_35 rfl rfl ?_
    refine r_get (pc := 36) h 0 0 d_D_choose_36 cw_0 rfl (by decide) in_D (List.mem_cons_of_mem _ w_42) rfl ?_
    refine r_iload_n (pc := 39) h 3 d_D_choose_39 rfl rfl ?_
    refine r_aaload (pc := 40) h 1 3 r1 d_D_choose_40 cw_1 rfl rfl rfl h1 (by decide) (cw_o h1) ?_
    refine r_iload (pc := 41) h 0 d_D_choose_41 rfl ?_
    refine r_laload (pc := 43) h (7 + r1) (z := hd r1 i) i d_D_choose_43 (cw_r h1) rfl hi (by decide) rd_mix ?_
    refine r_aload_n (pc := 44) h 1 d_D_choose_44 rfl rfl ?_
    refine r_get (pc := 45) h 0 0 d_D_choose_45 cw_0 rfl (by decide) in_D (List.mem_cons_of_mem _ w_42) rfl ?_
    refine r_iload_n (pc := 48) h 4 d_D_choose_48 rfl rfl ?_
    refine r_aaload (pc := 49) h 1 3 r2 d_D_choose_49 cw_1 rfl rfl rfl h2 (by decide) (cw_o h2) ?_
    refine r_iload (pc := 50) h 0 d_D_choose_50 rfl ?_
    refine r_laload (pc := 52) h (7 + r2) (z := hd r2 i) i d_D_choose_52 (cw_r h2) rfl hi (by decide) rd_mix ?_
    refine r_aload_n (pc := 53) h 1 d_D_choose_53 rfl rfl ?_
    refine r_get (pc := 54) h 0 0 d_D_choose_54 cw_0 rfl (by decide) in_D (List.mem_cons_of_mem _ w_42) rfl ?_
    refine r_iload (pc := 57) h 5 d_D_choose_57 rfl ?_
    refine r_aaload (pc := 59) h 1 3 r3 d_D_choose_59 cw_1 rfl rfl rfl h3 (by decide) (cw_o h3) ?_
    refine r_iload (pc := 60) h 0 d_D_choose_60 rfl ?_
    refine r_laload (pc := 62) h (7 + r3) (z := hd r3 i) i d_D_choose_62 (cw_r h3) rfl hi (by decide) rd_mix ?_
    refine r_invSa (pc := 63) h (st := [.int (nI i), .ref (a (7 + t))]) d_D_choose_63 (c_chosenWord (hd r1 i) (hd r2 i) (hd r3 i)) (r_cS h wc_D_chosenWord w_181 w_1 w_182 hd_D_chosenWord ⟨(Nat.le_of_ble_eq_true rfl), (Nat.le_of_ble_eq_true rfl)⟩ rfl rfl) rfl rfl (Nat.le_of_ble_eq_true rfl) ⟨(Nat.le_of_ble_eq_true rfl), (Nat.le_of_ble_eq_true rfl)⟩ rfl ?_
    refine r_lastore (pc := 66) h (7 + t) (ws' := (cw G a (va_up hd t (mix (i + 1) (fun j => cW (hd r1 j) (hd r2 j) (hd r3 j)) (hd t))) wk sp ct ky nm)) i d_D_choose_66 (cw_r ht) rfl hi (by decide) (cw_st (g := (fun j => cW (hd r1 j) (hd r2 j) (hd r3 j)))) ?_
    refine r_iinc (pc := 67) h (v := nI (i + 1)) (lv' := [(5, .int (nI (i + 1))), (0, .ref (a 0)), (1, .int (nI t)), (2, .int (nI r1)), (3, .int (nI r2)), (4, .int (nI r3))]) 0 d_D_choose_67 rfl (nI_inc i) (by decide) rfl ?_
    refine r_goto (pc := 70) h (tgt := 20) d_D_choose_70 (by decide) ?_
    exact ih
theorem cw_fl {t : Nat} : (cw G a hd wk sp ct ky nm).set (7 + t) (a (7 + t), rwL G (mix 16 (fun _ => 0) (hd t))) = cw G a (va_up hd t (mix 16 (fun _ => 0) (hd t))) wk sp ct ky nm := cw_sr
theorem cw_on {t k : Nat} {f : Nat → Int64} {z : Int64} : (cw G a (va_up hd t f) wk sp ct ky nm).set (7 + t) (a (7 + t), rwL G (vp_updL (va_up hd t f t) k z)) = cw G a (va_up hd t (vp_updL f k z)) wk sp ct ky nm := by
  rw [cw_sr, va_up_s, va_up2]
theorem c_only (t : Nat) (ht : t < 16) (x : Nat) (hx : x < 1024) : Ct l y_D_only (.code y_D_only b_D_only 3 none :: TT) (rmF 1 24) G [.ref (a 0), .int (nI t), .int (nI x)] (cw G a hd wk sp ct ky nm) none (cw G a (va_up hd t (vp_updL (mix 16 (fun _ => 0) (hd t)) (x / 64) (1 <<< ((nI (x % 64)).toInt64 &&& 63)))) wk sp ct ky nm) := by
  refine ct_intro (cc := b_D_only) (nL := 3) (by decide) [(0, .ref (a 0)), (1, .int (nI t)), (2, .int (nI x))] rfl (Nat.le_of_ble_eq_true rfl) ?_
  intro p e s m below meth c A h hr
  refine r_iload_n (pc := 0) h 1 d_D_only_0 rfl rfl ?_
  refine r_invSv (pc := 1) h (st := []) d_D_only_1 (c_checkRegister t ht) (r_cS h wc_D_checkRegister w_63 w_1 w_64 hd_D_checkRegister ⟨(Nat.le_of_ble_eq_true rfl), (Nat.le_of_ble_eq_true rfl)⟩ rfl rfl) rfl rfl (Nat.le_of_ble_eq_true rfl) ⟨(Nat.le_of_ble_eq_true rfl), (Nat.le_of_ble_eq_true rfl)⟩ rfl ?_
  refine r_iload_n (pc := 4) h 2 d_D_only_4 rfl rfl ?_
  refine r_invSv (pc := 5) h (st := []) d_D_only_5 (c_checkAssignment x hx) (r_cS h wc_D_checkAssignment w_153 w_1 w_154 hd_D_checkAssignment ⟨(Nat.le_of_ble_eq_true rfl), (Nat.le_of_ble_eq_true rfl)⟩ rfl rfl) rfl rfl (Nat.le_of_ble_eq_true rfl) ⟨(Nat.le_of_ble_eq_true rfl), (Nat.le_of_ble_eq_true rfl)⟩ rfl ?_
  refine r_aload_n (pc := 8) h 0 d_D_only_8 rfl rfl ?_
  refine r_get (pc := 9) h 0 0 d_D_only_9 cw_0 rfl (by decide) in_D (List.mem_cons_of_mem _ w_42) rfl ?_
  refine r_iload_n (pc := 12) h 1 d_D_only_12 rfl rfl ?_
  refine r_aaload (pc := 13) h 1 3 t d_D_only_13 cw_1 rfl rfl rfl ht (by decide) (cw_o ht) ?_
  refine r_lconst (pc := 14) h (v := 0) d_D_only_14 (by decide) ?_
  refine r_invSv (pc := 15) h (st := []) d_D_only_15 (Eq.mp (congrArg (fun z => Ct l y_A_fillJ (.code y_A_fillJ b_A_fillJ 5 none :: TT) (rmF 0 0) G [.ref (a (7 + t)), .long 0] (cw G a hd wk sp ct ky nm) none z) cw_fl) (c_fillJ (7 + t) (a (7 + t)) 16 (hd t) 0 (cw_r ht) (by decide))) (r_cS h wc_A_fillJ w_157 w_8 w_158 hd_A_fillJ ⟨(Nat.le_of_ble_eq_true rfl), (Nat.le_of_ble_eq_true rfl)⟩ rfl rfl) rfl rfl (Nat.le_of_ble_eq_true rfl) ⟨(Nat.le_of_ble_eq_true rfl), (Nat.le_of_ble_eq_true rfl)⟩ cw_adr ?_
  refine r_aload_n (pc := 18) h 0 d_D_only_18 rfl rfl ?_
  refine r_get (pc := 19) h 0 0 d_D_only_19 cw_0 rfl (by decide) in_D (List.mem_cons_of_mem _ w_42) rfl ?_
  refine r_iload_n (pc := 22) h 1 d_D_only_22 rfl rfl ?_
  refine r_aaload (pc := 23) h 1 3 t d_D_only_23 cw_1 rfl rfl rfl ht (by decide) (cw_o ht) ?_
  refine r_iload_n (pc := 24) h 2 d_D_only_24 rfl rfl ?_
  refine r_bipush (pc := 25) h (v := nI 6) d_D_only_25 (by decide) ?_
  refine r_ishr (pc := 27) h (z := nI (x / 64)) d_D_only_27 (nx_shr (x := x) (v := 6) (by omega) (by decide)) ?_
  refine r_lconst (pc := 28) h (v := 1) d_D_only_28 (by decide) ?_
  refine r_iload_n (pc := 29) h 2 d_D_only_29 rfl rfl ?_
  refine r_bipush (pc := 30) h (v := nI 63) d_D_only_30 (by decide) ?_
  refine r_iand (pc := 32) h (z := nI (x % 64)) d_D_only_32 (nx_63 (by omega)) ?_
  refine r_lshl (pc := 33) h (z := 1 <<< ((nI (x % 64)).toInt64 &&& 63)) d_D_only_33 rfl ?_
  refine r_lastore (pc := 34) h (7 + t) (ws' := (cw G a (va_up hd t (vp_updL (mix 16 (fun _ => 0) (hd t)) (x / 64) (1 <<< ((nI (x % 64)).toInt64 &&& 63)))) wk sp ct ky nm)) (x / 64) d_D_only_34 (cw_r ht) rfl (by omega) (by decide) cw_on ?_
  exact r_vret (pc := 35) h hr d_D_only_35
theorem c_cut (t : Nat) (ht : t < 16) (r1 v : Nat) (b : Bool) (h1 : r1 < 16) (hv : v < 10) : Ct l y_D_cut (.code y_D_cut b_D_cut 6 none :: TT) (rmF 3 67) G [.ref (a 0), .int (nI t), .int (nI r1), .int (nI v), .int (bI b)] (cw G a hd wk sp ct ky nm) none (cw G a (va_up hd t (mix 16 (mix 16 (fW (hd r1) v b) wk) (hd t))) (mix 16 (fW (hd r1) v b) wk) sp ct ky nm) := by
  refine ct_intro (cc := b_D_cut) (nL := 6) (by decide) [(0, .ref (a 0)), (1, .int (nI t)), (2, .int (nI r1)), (3, .int (nI v)), (4, .int (bI b))] rfl (Nat.le_of_ble_eq_true rfl) ?_
  intro p e s m below meth c A h hr
  refine r_iload_n (pc := 0) h 1 d_D_cut_0 rfl rfl ?_
  refine r_invSv (pc := 1) h (st := []) d_D_cut_1 (c_checkRegister t ht) (r_cS h wc_D_checkRegister w_63 w_1 w_64 hd_D_checkRegister ⟨(Nat.le_of_ble_eq_true rfl), (Nat.le_of_ble_eq_true rfl)⟩ rfl rfl) rfl rfl (Nat.le_of_ble_eq_true rfl) ⟨(Nat.le_of_ble_eq_true rfl), (Nat.le_of_ble_eq_true rfl)⟩ rfl ?_
  refine r_iload_n (pc := 4) h 2 d_D_cut_4 rfl rfl ?_
  refine r_invSv (pc := 5) h (st := []) d_D_cut_5 (c_checkRegister r1 h1) (r_cS h wc_D_checkRegister w_63 w_1 w_64 hd_D_checkRegister ⟨(Nat.le_of_ble_eq_true rfl), (Nat.le_of_ble_eq_true rfl)⟩ rfl rfl) rfl rfl (Nat.le_of_ble_eq_true rfl) ⟨(Nat.le_of_ble_eq_true rfl), (Nat.le_of_ble_eq_true rfl)⟩ rfl ?_
  refine r_iload_n (pc := 8) h 3 d_D_cut_8 rfl rfl ?_
  refine r_invSv (pc := 9) h (st := []) d_D_cut_9 (c_checkVariable v hv) (r_cS h wc_D_checkVariable w_133 w_1 w_134 hd_D_checkVariable ⟨(Nat.le_of_ble_eq_true rfl), (Nat.le_of_ble_eq_true rfl)⟩ rfl rfl) rfl rfl (Nat.le_of_ble_eq_true rfl) ⟨(Nat.le_of_ble_eq_true rfl), (Nat.le_of_ble_eq_true rfl)⟩ rfl ?_
  refine r_iconst (pc := 12) h (v := nI 0) d_D_cut_12 (by decide) ?_
  refine r_istore (pc := 13) h (lv' := [(5, .int (nI 0)), (0, .ref (a 0)), (1, .int (nI t)), (2, .int (nI r1)), (3, .int (nI v)), (4, .int (bI b))]) d_D_cut_13 (by decide) rfl ?_
  refine Wv.wld (ws' := (cw G a hd (mix 0 (fW (hd r1) v b) wk) sp ct ky nm)) (by rw [mix_0]) ?_
  refine Wv.loop 16 (fun i => (cw G a hd (mix i (fW (hd r1) v b) wk) sp ct ky nm)) (fun i => [(5, .int (nI i)), (0, .ref (a 0)), (1, .int (nI t)), (2, .int (nI r1)), (3, .int (nI v)), (4, .int (bI b))]) ?_ ?_
  · show Wv p l e _ s m _ below meth c G A _ _ _ _ (cw G a hd (mix 16 (fW (hd r1) v b) wk) sp ct ky nm) 15 [(5, .int (nI 16)), (0, .ref (a 0)), (1, .int (nI t)), (2, .int (nI r1)), (3, .int (nI v)), (4, .int (bI b))] []
    refine r_iload (pc := 15) h 0 d_D_cut_15 rfl ?_
    refine r_bipush (pc := 17) h (v := nI 16) d_D_cut_17 (by decide) ?_
    refine r_icmp_ge_t (pc := 19) h (tgt := 49) d_D_cut_19 (by decide) (nI_le (Nat.le_refl _) (by decide)) ?_
    refine r_aload_n (pc := 49) h 1 d_D_cut_49 rfl rfl ?_
    refine r_aload_n (pc := 50) h 1 d_D_cut_50 rfl rfl ?_
    refine r_get (pc := 51) h 0 1 d_D_cut_51 cw_0 rfl (by decide) in_D (List.mem_cons_of_mem _ w_43) rfl ?_
    refine r_iload_n (pc := 54) h 2 d_D_cut_54 rfl rfl ?_
    refine r_invVv (pc := 55) h 0 (st := []) d_D_cut_55 (c_store2 t ht) (r_cV h wc_D_store w_197 w_1 w_199 (TT_se (q := (y_D_store, 4)) 1 rfl) hd_D_store ⟨(Nat.le_of_ble_eq_true rfl), (Nat.le_of_ble_eq_true rfl)⟩ rfl rfl) cw_0 rfl rfl rfl (Nat.le_of_ble_eq_true rfl) ⟨(Nat.le_of_ble_eq_true rfl), (Nat.le_of_ble_eq_true rfl)⟩ cw_adr ?_
    exact r_vret (pc := 58) h hr d_D_cut_58
  · intro i hi ih
    have ih : Wv p l e _ s m _ below meth c G A _ _ _ _ (cw G a hd (mix (i + 1) (fW (hd r1) v b) wk) sp ct ky nm) 15 [(5, .int (nI (i + 1))), (0, .ref (a 0)), (1, .int (nI t)), (2, .int (nI r1)), (3, .int (nI v)), (4, .int (bI b))] [] := ih
    show Wv p l e _ s m _ below meth c G A _ _ _ _ (cw G a hd (mix i (fW (hd r1) v b) wk) sp ct ky nm) 15 [(5, .int (nI i)), (0, .ref (a 0)), (1, .int (nI t)), (2, .int (nI r1)), (3, .int (nI v)), (4, .int (bI b))] []
    refine r_iload (pc := 15) h 0 d_D_cut_15 rfl ?_
    refine r_bipush (pc := 17) h (v := nI 16) d_D_cut_17 (by decide) ?_
    refine r_icmp_ge_f (pc := 19) h (tgt := 49) d_D_cut_19 (by decide) (nI_ge hi (by decide)) ?_
    refine r_aload_n (pc := 22) h 1 d_D_cut_22 rfl rfl ?_
    refine r_get (pc := 23) h 0 1 d_D_cut_23 cw_0 rfl (by decide) in_D (List.mem_cons_of_mem _ w_43) rfl ?_
    refine r_iload (pc := 26) h 0 d_D_cut_26 rfl ?_
    refine r_aload_n (pc := 28) h 1 d_D_cut_28 rfl rfl ?_
    refine r_get (pc := 29) h 0 0 d_D_cut_29 cw_0 rfl (by decide) in_D (List.mem_cons_of_mem _ w_42) rfl ?_
    refine r_iload_n (pc := 32) h 3 d_D_cut_32 rfl rfl ?_
    refine r_aaload (pc := 33) h 1 3 r1 d_D_cut_33 cw_1 rfl rfl rfl h1 (by decide) (cw_o h1) ?_
    refine r_iload_n (pc := 34) h 4 d_D_cut_34 rfl rfl ?_
    refine r_iload (pc := 35) h 5 d_D_cut_35 rfl ?_
    refine r_iload (pc := 37) h 0 d_D_cut_37 rfl ?_
    refine r_invSa (pc := 39) h (st := [.int (nI i), .ref (a 2)]) d_D_cut_39 (c_fixedWord (7 + r1) (a (7 + r1)) v i b (hd r1) (cw_r h1) hv hi) (r_cS h wc_D_fixedWord w_191 w_1 w_192 hd_D_fixedWord ⟨(Nat.le_of_ble_eq_true rfl), (Nat.le_of_ble_eq_true rfl)⟩ rfl rfl) rfl rfl (Nat.le_of_ble_eq_true rfl) ⟨(Nat.le_of_ble_eq_true rfl), (Nat.le_of_ble_eq_true rfl)⟩ rfl ?_
    refine r_lastore (pc := 42) h 2 (ws' := (cw G a hd (mix (i + 1) (fW (hd r1) v b) wk) sp ct ky nm)) i d_D_cut_42 cw_2 rfl hi (by decide) (by rw [mix_updL i (fW (hd r1) v b) wk]; exact cw_s2) ?_
    refine r_iinc (pc := 43) h (v := nI (i + 1)) (lv' := [(5, .int (nI (i + 1))), (0, .ref (a 0)), (1, .int (nI t)), (2, .int (nI r1)), (3, .int (nI v)), (4, .int (bI b))]) 0 d_D_cut_43 rfl (nI_inc i) (by decide) rfl ?_
    refine r_goto (pc := 46) h (tgt := 15) d_D_cut_46 (by decide) ?_
    exact ih
theorem c_put (t : Nat) (ht : t < 16) (r1 v r2 : Nat) (h1 : r1 < 16) (hv : v < 10) (h2 : r2 < 16) : Ct l y_D_put (.code y_D_put b_D_put 10 none :: TT) (rmF 3 67) G [.ref (a 0), .int (nI t), .int (nI r1), .int (nI v), .int (nI r2)] (cw G a hd wk sp ct ky nm) none (cw G a (va_up hd t (mix 16 (mix 16 (fun j => cW (hd r2 j) (fW (hd r1) v true j) (fW (hd r1) v false j)) wk) (hd t))) (mix 16 (fun j => cW (hd r2 j) (fW (hd r1) v true j) (fW (hd r1) v false j)) wk) sp ct ky nm) := by
  refine ct_intro (cc := b_D_put) (nL := 10) (by decide) [(0, .ref (a 0)), (1, .int (nI t)), (2, .int (nI r1)), (3, .int (nI v)), (4, .int (nI r2))] rfl (Nat.le_of_ble_eq_true rfl) ?_
  intro p e s m below meth c A h hr
  refine r_iload_n (pc := 0) h 1 d_D_put_0 rfl rfl ?_
  refine r_invSv (pc := 1) h (st := []) d_D_put_1 (c_checkRegister t ht) (r_cS h wc_D_checkRegister w_63 w_1 w_64 hd_D_checkRegister ⟨(Nat.le_of_ble_eq_true rfl), (Nat.le_of_ble_eq_true rfl)⟩ rfl rfl) rfl rfl (Nat.le_of_ble_eq_true rfl) ⟨(Nat.le_of_ble_eq_true rfl), (Nat.le_of_ble_eq_true rfl)⟩ rfl ?_
  refine r_iload_n (pc := 4) h 2 d_D_put_4 rfl rfl ?_
  refine r_invSv (pc := 5) h (st := []) d_D_put_5 (c_checkRegister r1 h1) (r_cS h wc_D_checkRegister w_63 w_1 w_64 hd_D_checkRegister ⟨(Nat.le_of_ble_eq_true rfl), (Nat.le_of_ble_eq_true rfl)⟩ rfl rfl) rfl rfl (Nat.le_of_ble_eq_true rfl) ⟨(Nat.le_of_ble_eq_true rfl), (Nat.le_of_ble_eq_true rfl)⟩ rfl ?_
  refine r_iload_n (pc := 8) h 3 d_D_put_8 rfl rfl ?_
  refine r_invSv (pc := 9) h (st := []) d_D_put_9 (c_checkVariable v hv) (r_cS h wc_D_checkVariable w_133 w_1 w_134 hd_D_checkVariable ⟨(Nat.le_of_ble_eq_true rfl), (Nat.le_of_ble_eq_true rfl)⟩ rfl rfl) rfl rfl (Nat.le_of_ble_eq_true rfl) ⟨(Nat.le_of_ble_eq_true rfl), (Nat.le_of_ble_eq_true rfl)⟩ rfl ?_
  refine r_iload (pc := 12) h 4 d_D_put_12 rfl ?_
  refine r_invSv (pc := 14) h (st := []) d_D_put_14 (c_checkRegister r2 h2) (r_cS h wc_D_checkRegister w_63 w_1 w_64 hd_D_checkRegister ⟨(Nat.le_of_ble_eq_true rfl), (Nat.le_of_ble_eq_true rfl)⟩ rfl rfl) rfl rfl (Nat.le_of_ble_eq_true rfl) ⟨(Nat.le_of_ble_eq_true rfl), (Nat.le_of_ble_eq_true rfl)⟩ rfl ?_
  refine r_iconst (pc := 17) h (v := nI 0) d_D_put_17 (by decide) ?_
  refine r_istore (pc := 18) h (lv' := [(5, .int (nI 0)), (0, .ref (a 0)), (1, .int (nI t)), (2, .int (nI r1)), (3, .int (nI v)), (4, .int (nI r2))]) d_D_put_18 (by decide) rfl ?_
  refine Wv.wld (ws' := (cw G a hd (mix 0 (fun j => cW (hd r2 j) (fW (hd r1) v true j) (fW (hd r1) v false j)) wk) sp ct ky nm)) (by rw [mix_0]) ?_
  refine Wv.loop 16 (fun i => (cw G a hd (mix i (fun j => cW (hd r2 j) (fW (hd r1) v true j) (fW (hd r1) v false j)) wk) sp ct ky nm)) (fun i => [(5, .int (nI i)), (0, .ref (a 0)), (1, .int (nI t)), (2, .int (nI r1)), (3, .int (nI v)), (4, .int (nI r2))]) ?_ ?_
  · show Wv p l e _ s m _ below meth c G A _ _ _ _ (cw G a hd (mix 16 (fun j => cW (hd r2 j) (fW (hd r1) v true j) (fW (hd r1) v false j)) wk) sp ct ky nm) 20 [(5, .int (nI 16)), (0, .ref (a 0)), (1, .int (nI t)), (2, .int (nI r1)), (3, .int (nI v)), (4, .int (nI r2))] []
    refine r_iload (pc := 20) h 0 d_D_put_20 rfl ?_
    refine r_bipush (pc := 22) h (v := nI 16) d_D_put_22 (by decide) ?_
    refine r_icmp_ge_t (pc := 24) h (tgt := 87) d_D_put_24 (by decide) (nI_le (Nat.le_refl _) (by decide)) ?_
    refine r_aload_n (pc := 87) h 1 d_D_put_87 rfl rfl ?_
    refine r_aload_n (pc := 88) h 1 d_D_put_88 rfl rfl ?_
    refine r_get (pc := 89) h 0 1 d_D_put_89 cw_0 rfl (by decide) in_D (List.mem_cons_of_mem _ w_43) rfl ?_
    refine r_iload_n (pc := 92) h 2 d_D_put_92 rfl rfl ?_
    refine r_invVv (pc := 93) h 0 (st := []) d_D_put_93 (c_store2 t ht) (r_cV h wc_D_store w_197 w_1 w_199 (TT_se (q := (y_D_store, 4)) 1 rfl) hd_D_store ⟨(Nat.le_of_ble_eq_true rfl), (Nat.le_of_ble_eq_true rfl)⟩ rfl rfl) cw_0 rfl rfl rfl (Nat.le_of_ble_eq_true rfl) ⟨(Nat.le_of_ble_eq_true rfl), (Nat.le_of_ble_eq_true rfl)⟩ cw_adr ?_
    exact r_vret (pc := 96) h hr d_D_put_96
  · intro i hi ih
    have ih : Wv p l e _ s m _ below meth c G A _ _ _ _ (cw G a hd (mix (i + 1) (fun j => cW (hd r2 j) (fW (hd r1) v true j) (fW (hd r1) v false j)) wk) sp ct ky nm) 20 [(5, .int (nI (i + 1))), (0, .ref (a 0)), (1, .int (nI t)), (2, .int (nI r1)), (3, .int (nI v)), (4, .int (nI r2))] [] := ih
    show Wv p l e _ s m _ below meth c G A _ _ _ _ (cw G a hd (mix i (fun j => cW (hd r2 j) (fW (hd r1) v true j) (fW (hd r1) v false j)) wk) sp ct ky nm) 20 [(5, .int (nI i)), (0, .ref (a 0)), (1, .int (nI t)), (2, .int (nI r1)), (3, .int (nI v)), (4, .int (nI r2))] []
    refine r_iload (pc := 20) h 0 d_D_put_20 rfl ?_
    refine r_bipush (pc := 22) h (v := nI 16) d_D_put_22 (by decide) ?_
    refine r_icmp_ge_f (pc := 24) h (tgt := 87) d_D_put_24 (by decide) (nI_ge hi (by decide)) ?_
    refine r_aload_n (pc := 27) h 1 d_D_put_27 rfl rfl ?_
    refine r_get (pc := 28) h 0 0 d_D_put_28 cw_0 rfl (by decide) in_D (List.mem_cons_of_mem _ w_42) rfl ?_
    refine r_iload_n (pc := 31) h 3 d_D_put_31 rfl rfl ?_
    refine r_aaload (pc := 32) h 1 3 r1 d_D_put_32 cw_1 rfl rfl rfl h1 (by decide) (cw_o h1) ?_
    refine r_iload_n (pc := 33) h 4 d_D_put_33 rfl rfl ?_
    refine r_iconst (pc := 34) h (v := bI true) d_D_put_34 (by decide) ?_
    refine r_iload (pc := 35) h 0 d_D_put_35 rfl ?_
    refine r_invSa (pc := 37) h (st := []) d_D_put_37 (c_fixedWord (7 + r1) (a (7 + r1)) v i true (hd r1) (cw_r h1) hv hi) (r_cS h wc_D_fixedWord w_191 w_1 w_192 hd_D_fixedWord ⟨(Nat.le_of_ble_eq_true rfl), (Nat.le_of_ble_eq_true rfl)⟩ rfl rfl) rfl rfl (Nat.le_of_ble_eq_true rfl) ⟨(Nat.le_of_ble_eq_true rfl), (Nat.le_of_ble_eq_true rfl)⟩ rfl ?_
    refine r_lstore (pc := 40) h (lv' := [(6, .long (fW (hd r1) v true i)), (5, .int (nI i)), (0, .ref (a 0)), (1, .int (nI t)), (2, .int (nI r1)), (3, .int (nI v)), (4, .int (nI r2))]) d_D_put_40 (by decide) rfl ?_
    refine r_aload_n (pc := 42) h 2 d_D_put_42 rfl rfl ?_
    refine r_get (pc := 43) h 0 0 d_D_put_43 cw_0 rfl (by decide) in_D (List.mem_cons_of_mem _ w_42) rfl ?_
    refine r_iload_n (pc := 46) h 4 d_D_put_46 rfl rfl ?_
    refine r_aaload (pc := 47) h 1 3 r1 d_D_put_47 cw_1 rfl rfl rfl h1 (by decide) (cw_o h1) ?_
    refine r_iload_n (pc := 48) h 5 d_D_put_48 rfl rfl ?_
    refine r_iconst (pc := 49) h (v := bI false) d_D_put_49 (by decide) ?_
    refine r_iload (pc := 50) h 1 d_D_put_50 rfl ?_
    refine r_invSa (pc := 52) h (st := []) d_D_put_52 (c_fixedWord (7 + r1) (a (7 + r1)) v i false (hd r1) (cw_r h1) hv hi) (r_cS h wc_D_fixedWord w_191 w_1 w_192 hd_D_fixedWord ⟨(Nat.le_of_ble_eq_true rfl), (Nat.le_of_ble_eq_true rfl)⟩ rfl rfl) rfl rfl (Nat.le_of_ble_eq_true rfl) ⟨(Nat.le_of_ble_eq_true rfl), (Nat.le_of_ble_eq_true rfl)⟩ rfl ?_
    refine r_lstore (pc := 55) h (lv' := [(8, .long (fW (hd r1) v false i)), (6, .long (fW (hd r1) v true i)), (5, .int (nI i)), (0, .ref (a 0)), (1, .int (nI t)), (2, .int (nI r1)), (3, .int (nI v)), (4, .int (nI r2))]) d_D_put_55 (by decide) rfl ?_
    refine r_aload_n (pc := 57) h 3 d_D_put_57 rfl rfl ?_
    refine r_get (pc := 58) h 0 1 d_D_put_58 cw_0 rfl (by decide) in_D (List.mem_cons_of_mem _ w_43) rfl ?_
    refine r_iload (pc := 61) h 2 d_D_put_61 rfl ?_
    refine r_aload_n (pc := 63) h 3 d_D_put_63 rfl rfl ?_
    refine r_get (pc := 64) h 0 0 d_D_put_64 cw_0 rfl (by decide) in_D (List.mem_cons_of_mem _ w_42) rfl ?_
    refine r_iload (pc := 67) h 7 d_D_put_67 rfl ?_
    refine r_aaload (pc := 69) h 1 3 r2 d_D_put_69 cw_1 rfl rfl rfl h2 (by decide) (cw_o h2) ?_
    refine r_iload (pc := 70) h 2 d_D_put_70 rfl ?_
    refine r_laload (pc := 72) h (7 + r2) (z := hd r2 i) i d_D_put_72 (cw_r h2) rfl hi (by decide) rfl ?_
    refine r_lload (pc := 73) h 1 d_D_put_73 rfl ?_
    refine r_lload (pc := 75) h 0 d_D_put_75 rfl ?_
    refine r_invSa (pc := 77) h (st := [.int (nI i), .ref (a 2)]) d_D_put_77 (c_chosenWord (hd r2 i) (fW (hd r1) v true i) (fW (hd r1) v false i)) (r_cS h wc_D_chosenWord w_181 w_1 w_182 hd_D_chosenWord ⟨(Nat.le_of_ble_eq_true rfl), (Nat.le_of_ble_eq_true rfl)⟩ rfl rfl) rfl rfl (Nat.le_of_ble_eq_true rfl) ⟨(Nat.le_of_ble_eq_true rfl), (Nat.le_of_ble_eq_true rfl)⟩ rfl ?_
    refine r_lastore (pc := 80) h 2 (ws' := (cw G a hd (mix (i + 1) (fun j => cW (hd r2 j) (fW (hd r1) v true j) (fW (hd r1) v false j)) wk) sp ct ky nm)) i d_D_put_80 cw_2 rfl hi (by decide) (by rw [mix_updL i (fun j => cW (hd r2 j) (fW (hd r1) v true j) (fW (hd r1) v false j)) wk]; exact cw_s2) ?_
    refine r_iinc (pc := 81) h (v := nI (i + 1)) (lv' := [(5, .int (nI (i + 1))), (8, .long (fW (hd r1) v false i)), (6, .long (fW (hd r1) v true i)), (0, .ref (a 0)), (1, .int (nI t)), (2, .int (nI r1)), (3, .int (nI v)), (4, .int (nI r2))]) 2 d_D_put_81 rfl (nI_inc i) (by decide) rfl ?_
    refine r_goto (pc := 84) h (tgt := 20) d_D_put_84 (by decide) ?_
    refine Wv.sub [0, 3, 4, 5, 6, 7] rfl ?_
    exact ih
theorem c_bindWork (b : Bool) (v : Nat) (hv : v < 10) : Ct l y_D_bindWork (.code y_D_bindWork b_D_bindWork 6 none :: TT) (rmF 1 40) G [.ref (a 0), .int (nI v), .int (bI b)] (cw G a hd wk sp ct ky nm) none (cw G a hd (mix 16 (mix 16 (gB b wk v) sp) wk) (mix 16 (gB b wk v) sp) ct ky nm) := by
  cases b
  · exact c_bindWork_false v hv
  · exact c_bindWork_true v hv
theorem bnd_t {S v : Nat} {b : Bool} (h : S.testBit v = true) : bnd S b wk sp (v + 1) = (mix 16 (mix 16 (gB b (bnd S b wk sp v).1 v) (bnd S b wk sp v).2) (bnd S b wk sp v).1, mix 16 (gB b (bnd S b wk sp v).1 v) (bnd S b wk sp v).2) := if_pos h
theorem bnd_f {S v : Nat} {b : Bool} (h : S.testBit v = false) : bnd S b wk sp (v + 1) = bnd S b wk sp v := if_neg (by rw [h]; decide)
theorem c_bound (t : Nat) (ht : t < 16) (r1 S : Nat) (b : Bool) (h1 : r1 < 16) (hS : S < 1024) : Ct l y_D_bound (.code y_D_bound b_D_bound 6 none :: TT) (rmF 2 65) G [.ref (a 0), .int (nI t), .int (nI r1), .int (nI S), .int (bI b)] (cw G a hd wk sp ct ky nm) none (cw G a (va_up hd t (mix 16 (bnd S b (mix 16 (hd r1) wk) sp 10).1 (hd t))) ((bnd S b (mix 16 (hd r1) wk) sp 10).1) ((bnd S b (mix 16 (hd r1) wk) sp 10).2) ct ky nm) := by
  refine ct_intro (cc := b_D_bound) (nL := 6) (by decide) [(0, .ref (a 0)), (1, .int (nI t)), (2, .int (nI r1)), (3, .int (nI S)), (4, .int (bI b))] rfl (Nat.le_of_ble_eq_true rfl) ?_
  intro p e s m below meth c A h hr
  refine r_iload_n (pc := 0) h 1 d_D_bound_0 rfl rfl ?_
  refine r_invSv (pc := 1) h (st := []) d_D_bound_1 (c_checkRegister t ht) (r_cS h wc_D_checkRegister w_63 w_1 w_64 hd_D_checkRegister ⟨(Nat.le_of_ble_eq_true rfl), (Nat.le_of_ble_eq_true rfl)⟩ rfl rfl) rfl rfl (Nat.le_of_ble_eq_true rfl) ⟨(Nat.le_of_ble_eq_true rfl), (Nat.le_of_ble_eq_true rfl)⟩ rfl ?_
  refine r_iload_n (pc := 4) h 2 d_D_bound_4 rfl rfl ?_
  refine r_invSv (pc := 5) h (st := []) d_D_bound_5 (c_checkRegister r1 h1) (r_cS h wc_D_checkRegister w_63 w_1 w_64 hd_D_checkRegister ⟨(Nat.le_of_ble_eq_true rfl), (Nat.le_of_ble_eq_true rfl)⟩ rfl rfl) rfl rfl (Nat.le_of_ble_eq_true rfl) ⟨(Nat.le_of_ble_eq_true rfl), (Nat.le_of_ble_eq_true rfl)⟩ rfl ?_
  refine r_iload_n (pc := 8) h 3 d_D_bound_8 rfl rfl ?_
  refine r_invSv (pc := 9) h (st := []) d_D_bound_9 (c_checkSet S hS) (r_cS h wc_D_checkSet w_218 w_1 w_219 hd_D_checkSet ⟨(Nat.le_of_ble_eq_true rfl), (Nat.le_of_ble_eq_true rfl)⟩ rfl rfl) rfl rfl (Nat.le_of_ble_eq_true rfl) ⟨(Nat.le_of_ble_eq_true rfl), (Nat.le_of_ble_eq_true rfl)⟩ rfl ?_
  refine r_aload_n (pc := 12) h 0 d_D_bound_12 rfl rfl ?_
  refine r_get (pc := 13) h 0 0 d_D_bound_13 cw_0 rfl (by decide) in_D (List.mem_cons_of_mem _ w_42) rfl ?_
  refine r_iload_n (pc := 16) h 2 d_D_bound_16 rfl rfl ?_
  refine r_aaload (pc := 17) h 1 3 r1 d_D_bound_17 cw_1 rfl rfl rfl h1 (by decide) (cw_o h1) ?_
  refine r_iconst (pc := 18) h (v := 0) d_D_bound_18 (by decide) ?_
  refine r_aload_n (pc := 19) h 0 d_D_bound_19 rfl rfl ?_
  refine r_get (pc := 20) h 0 1 d_D_bound_20 cw_0 rfl (by decide) in_D (List.mem_cons_of_mem _ w_43) rfl ?_
  refine r_iconst (pc := 23) h (v := 0) d_D_bound_23 (by decide) ?_
  refine r_bipush (pc := 24) h (v := nI 16) d_D_bound_24 (by decide) ?_
  refine r_copyl (pc := 26) h (7 + r1) 2 (ws' := (cw G a hd (mix 16 (hd r1) wk) sp ct ky nm)) 16 d_D_bound_26 (List.mem_cons_of_mem _ w_201) (List.mem_cons_of_mem _ w_203) (List.mem_cons_of_mem _ w_202) (List.mem_cons_of_mem _ w_9) (cw_r h1) cw_2 rfl rfl rfl (by decide) (by decide) (by decide) (Nat.le_of_ble_eq_true rfl) (Nat.le_of_ble_eq_true rfl) (by rw [cpy_row]; exact cw_s2) ?_
  refine r_iconst (pc := 29) h (v := nI 0) d_D_bound_29 (by decide) ?_
  refine r_istore (pc := 30) h (lv' := [(5, .int (nI 0)), (0, .ref (a 0)), (1, .int (nI t)), (2, .int (nI r1)), (3, .int (nI S)), (4, .int (bI b))]) d_D_bound_30 (by decide) rfl ?_
  refine Wv.wld (ws' := (cw G a hd ((bnd S b (mix 16 (hd r1) wk) sp 0).1) ((bnd S b (mix 16 (hd r1) wk) sp 0).2) ct ky nm)) rfl ?_
  refine Wv.loop 10 (fun i => (cw G a hd ((bnd S b (mix 16 (hd r1) wk) sp i).1) ((bnd S b (mix 16 (hd r1) wk) sp i).2) ct ky nm)) (fun i => [(5, .int (nI i)), (0, .ref (a 0)), (1, .int (nI t)), (2, .int (nI r1)), (3, .int (nI S)), (4, .int (bI b))]) ?_ ?_
  · show Wv p l e _ s m _ below meth c G A _ _ _ _ (cw G a hd ((bnd S b (mix 16 (hd r1) wk) sp 10).1) ((bnd S b (mix 16 (hd r1) wk) sp 10).2) ct ky nm) 32 [(5, .int (nI 10)), (0, .ref (a 0)), (1, .int (nI t)), (2, .int (nI r1)), (3, .int (nI S)), (4, .int (bI b))] []
    refine r_iload (pc := 32) h 0 d_D_bound_32 rfl ?_
    refine r_bipush (pc := 34) h (v := nI 10) d_D_bound_34 (by decide) ?_
    refine r_icmp_ge_t (pc := 36) h (tgt := 62) d_D_bound_36 (by decide) (nI_le (Nat.le_refl _) (by decide)) ?_
    refine r_aload_n (pc := 62) h 1 d_D_bound_62 rfl rfl ?_
    refine r_aload_n (pc := 63) h 1 d_D_bound_63 rfl rfl ?_
    refine r_get (pc := 64) h 0 1 d_D_bound_64 cw_0 rfl (by decide) in_D (List.mem_cons_of_mem _ w_43) rfl ?_
    refine r_iload_n (pc := 67) h 2 d_D_bound_67 rfl rfl ?_
    refine r_invVv (pc := 68) h 0 (st := []) d_D_bound_68 (c_store2 t ht) (r_cV h wc_D_store w_197 w_1 w_199 (TT_se (q := (y_D_store, 4)) 1 rfl) hd_D_store ⟨(Nat.le_of_ble_eq_true rfl), (Nat.le_of_ble_eq_true rfl)⟩ rfl rfl) cw_0 rfl rfl rfl (Nat.le_of_ble_eq_true rfl) ⟨(Nat.le_of_ble_eq_true rfl), (Nat.le_of_ble_eq_true rfl)⟩ cw_adr ?_
    exact r_vret (pc := 71) h hr d_D_bound_71
  · intro i hi ih
    have ih : Wv p l e _ s m _ below meth c G A _ _ _ _ (cw G a hd ((bnd S b (mix 16 (hd r1) wk) sp (i + 1)).1) ((bnd S b (mix 16 (hd r1) wk) sp (i + 1)).2) ct ky nm) 32 [(5, .int (nI (i + 1))), (0, .ref (a 0)), (1, .int (nI t)), (2, .int (nI r1)), (3, .int (nI S)), (4, .int (bI b))] [] := ih
    show Wv p l e _ s m _ below meth c G A _ _ _ _ (cw G a hd ((bnd S b (mix 16 (hd r1) wk) sp i).1) ((bnd S b (mix 16 (hd r1) wk) sp i).2) ct ky nm) 32 [(5, .int (nI i)), (0, .ref (a 0)), (1, .int (nI t)), (2, .int (nI r1)), (3, .int (nI S)), (4, .int (bI b))] []
    refine r_iload (pc := 32) h 0 d_D_bound_32 rfl ?_
    refine r_bipush (pc := 34) h (v := nI 10) d_D_bound_34 (by decide) ?_
    refine r_icmp_ge_f (pc := 36) h (tgt := 62) d_D_bound_36 (by decide) (nI_ge hi (by decide)) ?_
    refine r_iload_n (pc := 39) h 4 d_D_bound_39 rfl rfl ?_
    refine r_iload (pc := 40) h 0 d_D_bound_40 rfl ?_
    refine r_invSa (pc := 42) h (st := []) d_D_bound_42 (c_isIn S i (by omega) (by omega)) (r_cS h wc_D_isIn w_142 w_1 w_143 hd_D_isIn ⟨(Nat.le_of_ble_eq_true rfl), (Nat.le_of_ble_eq_true rfl)⟩ rfl rfl) rfl rfl (Nat.le_of_ble_eq_true rfl) ⟨(Nat.le_of_ble_eq_true rfl), (Nat.le_of_ble_eq_true rfl)⟩ rfl ?_
    refine r_if_eq (pc := 45) h (tgt := 56) d_D_bound_45 (by decide) (fun q45 => ?_) (fun q45 => ?_)
    · have hb := (bI_0 _).mp q45
      refine Wv.wld (ws' := (cw G a hd ((bnd S b (mix 16 (hd r1) wk) sp (i + 1)).1) ((bnd S b (mix 16 (hd r1) wk) sp (i + 1)).2) ct ky nm)) (by rw [bnd_f hb]) ?_
      refine r_iinc (pc := 56) h (v := nI (i + 1)) (lv' := [(5, .int (nI (i + 1))), (0, .ref (a 0)), (1, .int (nI t)), (2, .int (nI r1)), (3, .int (nI S)), (4, .int (bI b))]) 0 d_D_bound_56 rfl (nI_inc i) (by decide) rfl ?_
      refine r_goto (pc := 59) h (tgt := 32) d_D_bound_59 (by decide) ?_
      exact ih
    · have hb : S.testBit i = true := by cases h9 : S.testBit i; exact absurd ((bI_0 _).mpr h9) q45; rfl
      refine r_aload_n (pc := 48) h 1 d_D_bound_48 rfl rfl ?_
      refine r_iload (pc := 49) h 0 d_D_bound_49 rfl ?_
      refine r_iload (pc := 51) h 5 d_D_bound_51 rfl ?_
      refine r_invVv (pc := 53) h 0 (st := []) d_D_bound_53 (c_bindWork b i hi) (r_cV h wc_D_bindWork w_222 w_1 w_224 (TT_se (q := (y_D_bindWork, 4)) 2 rfl) hd_D_bindWork ⟨(Nat.le_of_ble_eq_true rfl), (Nat.le_of_ble_eq_true rfl)⟩ rfl rfl) cw_0 rfl rfl rfl (Nat.le_of_ble_eq_true rfl) ⟨(Nat.le_of_ble_eq_true rfl), (Nat.le_of_ble_eq_true rfl)⟩ cw_adr ?_
      refine Wv.wld (ws' := (cw G a hd ((bnd S b (mix 16 (hd r1) wk) sp (i + 1)).1) ((bnd S b (mix 16 (hd r1) wk) sp (i + 1)).2) ct ky nm)) (by rw [bnd_t hb]) ?_
      refine r_iinc (pc := 56) h (v := nI (i + 1)) (lv' := [(5, .int (nI (i + 1))), (0, .ref (a 0)), (1, .int (nI t)), (2, .int (nI r1)), (3, .int (nI S)), (4, .int (bI b))]) 0 d_D_bound_56 rfl (nI_inc i) (by decide) rfl ?_
      refine r_goto (pc := 59) h (tgt := 32) d_D_bound_59 (by decide) ?_
      exact ih
theorem c_swap (t : Nat) (ht : t < 16) (r1 v w : Nat) (h1 : r1 < 16) (hv : v < 10) (hw : w < 10) : Ct l y_D_swap (.code y_D_swap b_D_swap 8 none :: TT) (rmF 2 62) G [.ref (a 0), .int (nI t), .int (nI r1), .int (nI v), .int (nI w)] (cw G a hd wk sp ct ky nm) none (cw G a (va_up hd t (mix 16 (mix 16 (fun j => cW (vW v j ^^^ vW w j) (tW (mix 16 (tW (hd r1) v) wk) w j) (hd r1 j)) sp) (hd t))) (mix 16 (tW (hd r1) v) wk) (mix 16 (fun j => cW (vW v j ^^^ vW w j) (tW (mix 16 (tW (hd r1) v) wk) w j) (hd r1 j)) sp) ct ky nm) := by
  refine ct_intro (cc := b_D_swap) (nL := 8) (by decide) [(0, .ref (a 0)), (1, .int (nI t)), (2, .int (nI r1)), (3, .int (nI v)), (4, .int (nI w))] rfl (Nat.le_of_ble_eq_true rfl) ?_
  intro p e s m below meth c A h hr
  refine r_iload_n (pc := 0) h 1 d_D_swap_0 rfl rfl ?_
  refine r_invSv (pc := 1) h (st := []) d_D_swap_1 (c_checkRegister t ht) (r_cS h wc_D_checkRegister w_63 w_1 w_64 hd_D_checkRegister ⟨(Nat.le_of_ble_eq_true rfl), (Nat.le_of_ble_eq_true rfl)⟩ rfl rfl) rfl rfl (Nat.le_of_ble_eq_true rfl) ⟨(Nat.le_of_ble_eq_true rfl), (Nat.le_of_ble_eq_true rfl)⟩ rfl ?_
  refine r_iload_n (pc := 4) h 2 d_D_swap_4 rfl rfl ?_
  refine r_invSv (pc := 5) h (st := []) d_D_swap_5 (c_checkRegister r1 h1) (r_cS h wc_D_checkRegister w_63 w_1 w_64 hd_D_checkRegister ⟨(Nat.le_of_ble_eq_true rfl), (Nat.le_of_ble_eq_true rfl)⟩ rfl rfl) rfl rfl (Nat.le_of_ble_eq_true rfl) ⟨(Nat.le_of_ble_eq_true rfl), (Nat.le_of_ble_eq_true rfl)⟩ rfl ?_
  refine r_iload_n (pc := 8) h 3 d_D_swap_8 rfl rfl ?_
  refine r_invSv (pc := 9) h (st := []) d_D_swap_9 (c_checkVariable v hv) (r_cS h wc_D_checkVariable w_133 w_1 w_134 hd_D_checkVariable ⟨(Nat.le_of_ble_eq_true rfl), (Nat.le_of_ble_eq_true rfl)⟩ rfl rfl) rfl rfl (Nat.le_of_ble_eq_true rfl) ⟨(Nat.le_of_ble_eq_true rfl), (Nat.le_of_ble_eq_true rfl)⟩ rfl ?_
  refine r_iload (pc := 12) h 4 d_D_swap_12 rfl ?_
  refine r_invSv (pc := 14) h (st := []) d_D_swap_14 (c_checkVariable w hw) (r_cS h wc_D_checkVariable w_133 w_1 w_134 hd_D_checkVariable ⟨(Nat.le_of_ble_eq_true rfl), (Nat.le_of_ble_eq_true rfl)⟩ rfl rfl) rfl rfl (Nat.le_of_ble_eq_true rfl) ⟨(Nat.le_of_ble_eq_true rfl), (Nat.le_of_ble_eq_true rfl)⟩ rfl ?_
  refine r_iconst (pc := 17) h (v := nI 0) d_D_swap_17 (by decide) ?_
  refine r_istore (pc := 18) h (lv' := [(5, .int (nI 0)), (0, .ref (a 0)), (1, .int (nI t)), (2, .int (nI r1)), (3, .int (nI v)), (4, .int (nI w))]) d_D_swap_18 (by decide) rfl ?_
  refine Wv.wld (ws' := (cw G a hd (mix 0 (tW (hd r1) v) wk) sp ct ky nm)) (by rw [mix_0]) ?_
  refine Wv.loop 16 (fun i => (cw G a hd (mix i (tW (hd r1) v) wk) sp ct ky nm)) (fun i => [(5, .int (nI i)), (0, .ref (a 0)), (1, .int (nI t)), (2, .int (nI r1)), (3, .int (nI v)), (4, .int (nI w))]) ?_ ?_
  · show Wv p l e _ s m _ below meth c G A _ _ _ _ (cw G a hd (mix 16 (tW (hd r1) v) wk) sp ct ky nm) 20 [(5, .int (nI 16)), (0, .ref (a 0)), (1, .int (nI t)), (2, .int (nI r1)), (3, .int (nI v)), (4, .int (nI w))] []
    refine r_iload (pc := 20) h 0 d_D_swap_20 rfl ?_
    refine r_bipush (pc := 22) h (v := nI 16) d_D_swap_22 (by decide) ?_
    refine r_icmp_ge_t (pc := 24) h (tgt := 52) d_D_swap_24 (by decide) (nI_le (Nat.le_refl _) (by decide)) ?_
    refine r_iconst (pc := 52) h (v := nI 0) d_D_swap_52 (by decide) ?_
    refine r_istore (pc := 53) h (lv' := [(5, .int (nI 0)), (0, .ref (a 0)), (1, .int (nI t)), (2, .int (nI r1)), (3, .int (nI v)), (4, .int (nI w))]) d_D_swap_53 (by decide) rfl ?_
    refine Wv.wld (ws' := (cw G a hd (mix 16 (tW (hd r1) v) wk) (mix 0 (fun j => cW (vW v j ^^^ vW w j) (tW (mix 16 (tW (hd r1) v) wk) w j) (hd r1 j)) sp) ct ky nm)) (by rw [mix_0]) ?_
    refine Wv.loop 16 (fun i => (cw G a hd (mix 16 (tW (hd r1) v) wk) (mix i (fun j => cW (vW v j ^^^ vW w j) (tW (mix 16 (tW (hd r1) v) wk) w j) (hd r1 j)) sp) ct ky nm)) (fun i => [(5, .int (nI i)), (0, .ref (a 0)), (1, .int (nI t)), (2, .int (nI r1)), (3, .int (nI v)), (4, .int (nI w))]) ?_ ?_
    · show Wv p l e _ s m _ below meth c G A _ _ _ _ (cw G a hd (mix 16 (tW (hd r1) v) wk) (mix 16 (fun j => cW (vW v j ^^^ vW w j) (tW (mix 16 (tW (hd r1) v) wk) w j) (hd r1 j)) sp) ct ky nm) 55 [(5, .int (nI 16)), (0, .ref (a 0)), (1, .int (nI t)), (2, .int (nI r1)), (3, .int (nI v)), (4, .int (nI w))] []
      refine r_iload (pc := 55) h 0 d_D_swap_55 rfl ?_
      refine r_bipush (pc := 57) h (v := nI 16) d_D_swap_57 (by decide) ?_
      refine r_icmp_ge_t (pc := 59) h (tgt := 116) d_D_swap_59 (by decide) (nI_le (Nat.le_refl _) (by decide)) ?_
      refine r_aload_n (pc := 116) h 1 d_D_swap_116 rfl rfl ?_
      refine r_aload_n (pc := 117) h 1 d_D_swap_117 rfl rfl ?_
      refine r_get (pc := 118) h 0 2 d_D_swap_118 cw_0 rfl (by decide) in_D (List.mem_cons_of_mem _ w_44) rfl ?_
      refine r_iload_n (pc := 121) h 2 d_D_swap_121 rfl rfl ?_
      refine r_invVv (pc := 122) h 0 (st := []) d_D_swap_122 (c_store3 t ht) (r_cV h wc_D_store w_197 w_1 w_199 (TT_se (q := (y_D_store, 4)) 1 rfl) hd_D_store ⟨(Nat.le_of_ble_eq_true rfl), (Nat.le_of_ble_eq_true rfl)⟩ rfl rfl) cw_0 rfl rfl rfl (Nat.le_of_ble_eq_true rfl) ⟨(Nat.le_of_ble_eq_true rfl), (Nat.le_of_ble_eq_true rfl)⟩ cw_adr ?_
      exact r_vret (pc := 125) h hr d_D_swap_125
    · intro i hi ih
      have ih : Wv p l e _ s m _ below meth c G A _ _ _ _ (cw G a hd (mix 16 (tW (hd r1) v) wk) (mix (i + 1) (fun j => cW (vW v j ^^^ vW w j) (tW (mix 16 (tW (hd r1) v) wk) w j) (hd r1 j)) sp) ct ky nm) 55 [(5, .int (nI (i + 1))), (0, .ref (a 0)), (1, .int (nI t)), (2, .int (nI r1)), (3, .int (nI v)), (4, .int (nI w))] [] := ih
      show Wv p l e _ s m _ below meth c G A _ _ _ _ (cw G a hd (mix 16 (tW (hd r1) v) wk) (mix i (fun j => cW (vW v j ^^^ vW w j) (tW (mix 16 (tW (hd r1) v) wk) w j) (hd r1 j)) sp) ct ky nm) 55 [(5, .int (nI i)), (0, .ref (a 0)), (1, .int (nI t)), (2, .int (nI r1)), (3, .int (nI v)), (4, .int (nI w))] []
      refine r_iload (pc := 55) h 0 d_D_swap_55 rfl ?_
      refine r_bipush (pc := 57) h (v := nI 16) d_D_swap_57 (by decide) ?_
      refine r_icmp_ge_f (pc := 59) h (tgt := 116) d_D_swap_59 (by decide) (nI_ge hi (by decide)) ?_
      refine r_iload_n (pc := 62) h 4 d_D_swap_62 rfl rfl ?_
      refine r_iload (pc := 63) h 0 d_D_swap_63 rfl ?_
      refine r_invSa (pc := 65) h (st := []) d_D_swap_65 (c_variableWord v i hv hi) (r_cS h wc_D_variableWord w_137 w_1 w_138 hd_D_variableWord ⟨(Nat.le_of_ble_eq_true rfl), (Nat.le_of_ble_eq_true rfl)⟩ rfl rfl) rfl rfl (Nat.le_of_ble_eq_true rfl) ⟨(Nat.le_of_ble_eq_true rfl), (Nat.le_of_ble_eq_true rfl)⟩ rfl ?_
      refine r_iload (pc := 68) h 5 d_D_swap_68 rfl ?_
      refine r_iload (pc := 70) h 0 d_D_swap_70 rfl ?_
      refine r_invSa (pc := 72) h (st := [.long (vW v i)]) d_D_swap_72 (c_variableWord w i hw hi) (r_cS h wc_D_variableWord w_137 w_1 w_138 hd_D_variableWord ⟨(Nat.le_of_ble_eq_true rfl), (Nat.le_of_ble_eq_true rfl)⟩ rfl rfl) rfl rfl (Nat.le_of_ble_eq_true rfl) ⟨(Nat.le_of_ble_eq_true rfl), (Nat.le_of_ble_eq_true rfl)⟩ rfl ?_
      refine r_lxor (pc := 75) h (z := (vW v i) ^^^ (vW w i)) d_D_swap_75 rfl ?_
      refine r_lstore (pc := 76) h (lv' := [(6, .long ((vW v i) ^^^ (vW w i))), (5, .int (nI i)), (0, .ref (a 0)), (1, .int (nI t)), (2, .int (nI r1)), (3, .int (nI v)), (4, .int (nI w))]) d_D_swap_76 (by decide) rfl ?_
      refine r_aload_n (pc := 78) h 2 d_D_swap_78 rfl rfl ?_
      refine r_get (pc := 79) h 0 2 d_D_swap_79 cw_0 rfl (by decide) in_D (List.mem_cons_of_mem _ w_44) rfl ?_
      refine r_iload (pc := 82) h 1 d_D_swap_82 rfl ?_
      refine r_lload (pc := 84) h 0 d_D_swap_84 rfl ?_
      refine r_aload_n (pc := 86) h 2 d_D_swap_86 rfl rfl ?_
      refine r_get (pc := 87) h 0 1 d_D_swap_87 cw_0 rfl (by decide) in_D (List.mem_cons_of_mem _ w_43) rfl ?_
      refine r_iload (pc := 90) h 6 d_D_swap_90 rfl ?_
      refine r_iload (pc := 92) h 1 d_D_swap_92 rfl ?_
      refine r_invSa (pc := 94) h (st := [.long ((vW v i) ^^^ (vW w i)), .int (nI i), .ref (a 3)]) d_D_swap_94 (c_turnedWord 2 (a 2) w i (mix 16 (tW (hd r1) v) wk) cw_2 hw hi) (r_cS h wc_D_turnedWord w_194 w_1 w_195 hd_D_turnedWord ⟨(Nat.le_of_ble_eq_true rfl), (Nat.le_of_ble_eq_true rfl)⟩ rfl rfl) rfl rfl (Nat.le_of_ble_eq_true rfl) ⟨(Nat.le_of_ble_eq_true rfl), (Nat.le_of_ble_eq_true rfl)⟩ rfl ?_
      refine r_aload_n (pc := 97) h 2 d_D_swap_97 rfl rfl ?_
      refine r_get (pc := 98) h 0 0 d_D_swap_98 cw_0 rfl (by decide) in_D (List.mem_cons_of_mem _ w_42) rfl ?_
      refine r_iload_n (pc := 101) h 4 d_D_swap_101 rfl rfl ?_
      refine r_aaload (pc := 102) h 1 3 r1 d_D_swap_102 cw_1 rfl rfl rfl h1 (by decide) (cw_o h1) ?_
      refine r_iload (pc := 103) h 1 d_D_swap_103 rfl ?_
      refine r_laload (pc := 105) h (7 + r1) (z := hd r1 i) i d_D_swap_105 (cw_r h1) rfl hi (by decide) rfl ?_
      refine r_invSa (pc := 106) h (st := [.int (nI i), .ref (a 3)]) d_D_swap_106 (c_chosenWord (vW v i ^^^ vW w i) (tW (mix 16 (tW (hd r1) v) wk) w i) (hd r1 i)) (r_cS h wc_D_chosenWord w_181 w_1 w_182 hd_D_chosenWord ⟨(Nat.le_of_ble_eq_true rfl), (Nat.le_of_ble_eq_true rfl)⟩ rfl rfl) rfl rfl (Nat.le_of_ble_eq_true rfl) ⟨(Nat.le_of_ble_eq_true rfl), (Nat.le_of_ble_eq_true rfl)⟩ rfl ?_
      refine r_lastore (pc := 109) h 3 (ws' := (cw G a hd (mix 16 (tW (hd r1) v) wk) (mix (i + 1) (fun j => cW (vW v j ^^^ vW w j) (tW (mix 16 (tW (hd r1) v) wk) w j) (hd r1 j)) sp) ct ky nm)) i d_D_swap_109 cw_3 rfl hi (by decide) (by rw [mix_updL i (fun j => cW (vW v j ^^^ vW w j) (tW (mix 16 (tW (hd r1) v) wk) w j) (hd r1 j)) sp]; exact cw_s3) ?_
      refine r_iinc (pc := 110) h (v := nI (i + 1)) (lv' := [(5, .int (nI (i + 1))), (6, .long ((vW v i) ^^^ (vW w i))), (0, .ref (a 0)), (1, .int (nI t)), (2, .int (nI r1)), (3, .int (nI v)), (4, .int (nI w))]) 1 d_D_swap_110 rfl (nI_inc i) (by decide) rfl ?_
      refine r_goto (pc := 113) h (tgt := 55) d_D_swap_113 (by decide) ?_
      refine Wv.sub [0, 2, 3, 4, 5, 6] rfl ?_
      exact ih
  · intro i hi ih
    have ih : Wv p l e _ s m _ below meth c G A _ _ _ _ (cw G a hd (mix (i + 1) (tW (hd r1) v) wk) sp ct ky nm) 20 [(5, .int (nI (i + 1))), (0, .ref (a 0)), (1, .int (nI t)), (2, .int (nI r1)), (3, .int (nI v)), (4, .int (nI w))] [] := ih
    show Wv p l e _ s m _ below meth c G A _ _ _ _ (cw G a hd (mix i (tW (hd r1) v) wk) sp ct ky nm) 20 [(5, .int (nI i)), (0, .ref (a 0)), (1, .int (nI t)), (2, .int (nI r1)), (3, .int (nI v)), (4, .int (nI w))] []
    refine r_iload (pc := 20) h 0 d_D_swap_20 rfl ?_
    refine r_bipush (pc := 22) h (v := nI 16) d_D_swap_22 (by decide) ?_
    refine r_icmp_ge_f (pc := 24) h (tgt := 52) d_D_swap_24 (by decide) (nI_ge hi (by decide)) ?_
    refine r_aload_n (pc := 27) h 1 d_D_swap_27 rfl rfl ?_
    refine r_get (pc := 28) h 0 1 d_D_swap_28 cw_0 rfl (by decide) in_D (List.mem_cons_of_mem _ w_43) rfl ?_
    refine r_iload (pc := 31) h 0 d_D_swap_31 rfl ?_
    refine r_aload_n (pc := 33) h 1 d_D_swap_33 rfl rfl ?_
    refine r_get (pc := 34) h 0 0 d_D_swap_34 cw_0 rfl (by decide) in_D (List.mem_cons_of_mem _ w_42) rfl ?_
    refine r_iload_n (pc := 37) h 3 d_D_swap_37 rfl rfl ?_
    refine r_aaload (pc := 38) h 1 3 r1 d_D_swap_38 cw_1 rfl rfl rfl h1 (by decide) (cw_o h1) ?_
    refine r_iload_n (pc := 39) h 4 d_D_swap_39 rfl rfl ?_
    refine r_iload (pc := 40) h 0 d_D_swap_40 rfl ?_
    refine r_invSa (pc := 42) h (st := [.int (nI i), .ref (a 2)]) d_D_swap_42 (c_turnedWord (7 + r1) (a (7 + r1)) v i (hd r1) (cw_r h1) hv hi) (r_cS h wc_D_turnedWord w_194 w_1 w_195 hd_D_turnedWord ⟨(Nat.le_of_ble_eq_true rfl), (Nat.le_of_ble_eq_true rfl)⟩ rfl rfl) rfl rfl (Nat.le_of_ble_eq_true rfl) ⟨(Nat.le_of_ble_eq_true rfl), (Nat.le_of_ble_eq_true rfl)⟩ rfl ?_
    refine r_lastore (pc := 45) h 2 (ws' := (cw G a hd (mix (i + 1) (tW (hd r1) v) wk) sp ct ky nm)) i d_D_swap_45 cw_2 rfl hi (by decide) (by rw [mix_updL i (tW (hd r1) v) wk]; exact cw_s2) ?_
    refine r_iinc (pc := 46) h (v := nI (i + 1)) (lv' := [(5, .int (nI (i + 1))), (0, .ref (a 0)), (1, .int (nI t)), (2, .int (nI r1)), (3, .int (nI v)), (4, .int (nI w))]) 0 d_D_swap_46 rfl (nI_inc i) (by decide) rfl ?_
    refine r_goto (pc := 49) h (tgt := 20) d_D_swap_49 (by decide) ?_
    exact ih
theorem c_is (r1 x : Nat) (h1 : r1 < 16) (hx : x < 1024) : Ct l y_D_is (.code y_D_is b_D_is 3 (some .boolean) :: TT) (rmF 1 23) G [.ref (a 0), .int (nI r1), .int (nI x)] (cw G a hd wk sp ct ky nm) (some (.int (bI (sv (hd r1) x)))) (cw G a hd wk sp ct ky nm) := by
  refine ct_intro (cc := b_D_is) (nL := 3) (by decide) [(0, .ref (a 0)), (1, .int (nI r1)), (2, .int (nI x))] rfl (Nat.le_of_ble_eq_true rfl) ?_
  intro p e s m below meth c A h hr
  refine r_iload_n (pc := 0) h 1 d_D_is_0 rfl rfl ?_
  refine r_invSv (pc := 1) h (st := []) d_D_is_1 (c_checkRegister r1 h1) (r_cS h wc_D_checkRegister w_63 w_1 w_64 hd_D_checkRegister ⟨(Nat.le_of_ble_eq_true rfl), (Nat.le_of_ble_eq_true rfl)⟩ rfl rfl) rfl rfl (Nat.le_of_ble_eq_true rfl) ⟨(Nat.le_of_ble_eq_true rfl), (Nat.le_of_ble_eq_true rfl)⟩ rfl ?_
  refine r_iload_n (pc := 4) h 2 d_D_is_4 rfl rfl ?_
  refine r_invSv (pc := 5) h (st := []) d_D_is_5 (c_checkAssignment x hx) (r_cS h wc_D_checkAssignment w_153 w_1 w_154 hd_D_checkAssignment ⟨(Nat.le_of_ble_eq_true rfl), (Nat.le_of_ble_eq_true rfl)⟩ rfl rfl) rfl rfl (Nat.le_of_ble_eq_true rfl) ⟨(Nat.le_of_ble_eq_true rfl), (Nat.le_of_ble_eq_true rfl)⟩ rfl ?_
  refine r_aload_n (pc := 8) h 0 d_D_is_8 rfl rfl ?_
  refine r_get (pc := 9) h 0 0 d_D_is_9 cw_0 rfl (by decide) in_D (List.mem_cons_of_mem _ w_42) rfl ?_
  refine r_iload_n (pc := 12) h 1 d_D_is_12 rfl rfl ?_
  refine r_aaload (pc := 13) h 1 3 r1 d_D_is_13 cw_1 rfl rfl rfl h1 (by decide) (cw_o h1) ?_
  refine r_iload_n (pc := 14) h 2 d_D_is_14 rfl rfl ?_
  refine r_invSa (pc := 15) h (st := []) d_D_is_15 (c_bitOf (7 + r1) (a (7 + r1)) x (hd r1) (cw_r h1) hx) (r_cS h wc_D_bitOf w_240 w_1 w_241 hd_D_bitOf ⟨(Nat.le_of_ble_eq_true rfl), (Nat.le_of_ble_eq_true rfl)⟩ rfl rfl) rfl rfl (Nat.le_of_ble_eq_true rfl) ⟨(Nat.le_of_ble_eq_true rfl), (Nat.le_of_ble_eq_true rfl)⟩ rfl ?_
  refine r_if_eq (pc := 18) h (tgt := 25) d_D_is_18 (by decide) (fun q18 => ?_) (fun q18 => ?_)
  · have hb := (bI_0 _).mp q18
    refine r_iconst (pc := 25) h (v := bI (sv (hd r1) x)) d_D_is_25 (by rw [hb]; decide) ?_
    exact r_zret (pc := 26) h hr (bI_nrw _) d_D_is_26
  · have hb : sv (hd r1) x = true := by cases h9 : sv (hd r1) x; exact absurd ((bI_0 _).mpr h9) q18; rfl
    refine r_iconst (pc := 21) h (v := bI (sv (hd r1) x)) d_D_is_21 (by rw [hb]; decide) ?_
    refine r_goto (pc := 22) h (tgt := 26) d_D_is_22 (by decide) ?_
    exact r_zret (pc := 26) h hr (bI_nrw _) d_D_is_26
theorem c_ways (r1 : Nat) (h1 : r1 < 16) : Ct l y_D_ways (.code y_D_ways b_D_ways 4 (some .int) :: TT) (rmF 1 21) G [.ref (a 0), .int (nI r1)] (cw G a hd wk sp ct ky nm) (some (.int (nI (wyN (hd r1) 16)))) (cw G a hd wk sp ct ky nm) := by
  refine ct_intro (cc := b_D_ways) (nL := 4) (by decide) [(0, .ref (a 0)), (1, .int (nI r1))] rfl (Nat.le_of_ble_eq_true rfl) ?_
  intro p e s m below meth c A h hr
  refine r_iload_n (pc := 0) h 1 d_D_ways_0 rfl rfl ?_
  refine r_invSv (pc := 1) h (st := []) d_D_ways_1 (c_checkRegister r1 h1) (r_cS h wc_D_checkRegister w_63 w_1 w_64 hd_D_checkRegister ⟨(Nat.le_of_ble_eq_true rfl), (Nat.le_of_ble_eq_true rfl)⟩ rfl rfl) rfl rfl (Nat.le_of_ble_eq_true rfl) ⟨(Nat.le_of_ble_eq_true rfl), (Nat.le_of_ble_eq_true rfl)⟩ rfl ?_
  refine r_iconst (pc := 4) h (v := nI (wyN (hd r1) 0)) d_D_ways_4 rfl ?_
  refine r_istore_n (pc := 5) h (lv' := [(2, .int (nI (wyN (hd r1) 0))), (0, .ref (a 0)), (1, .int (nI r1))]) d_D_ways_5 rfl (by decide) rfl ?_
  refine r_iconst (pc := 6) h (v := nI 0) d_D_ways_6 (by decide) ?_
  refine r_istore_n (pc := 7) h (lv' := [(3, .int (nI 0)), (2, .int (nI (wyN (hd r1) 0))), (0, .ref (a 0)), (1, .int (nI r1))]) d_D_ways_7 rfl (by decide) rfl ?_
  refine Wv.loop 16 (fun i => (cw G a hd wk sp ct ky nm)) (fun i => [(3, .int (nI i)), (2, .int (nI (wyN (hd r1) i))), (0, .ref (a 0)), (1, .int (nI r1))]) ?_ ?_
  · show Wv p l e _ s m _ below meth c G A _ _ _ _ (cw G a hd wk sp ct ky nm) 8 [(3, .int (nI 16)), (2, .int (nI (wyN (hd r1) 16))), (0, .ref (a 0)), (1, .int (nI r1))] []
    refine r_iload_n (pc := 8) h 0 d_D_ways_8 rfl rfl ?_
    refine r_bipush (pc := 9) h (v := nI 16) d_D_ways_9 (by decide) ?_
    refine r_icmp_ge_t (pc := 11) h (tgt := 34) d_D_ways_11 (by decide) (nI_le (Nat.le_refl _) (by decide)) ?_
    refine r_iload_n (pc := 34) h 1 d_D_ways_34 rfl rfl ?_
    exact r_iret (pc := 35) h hr d_D_ways_35
  · intro i hi ih
    have ih : Wv p l e _ s m _ below meth c G A _ _ _ _ (cw G a hd wk sp ct ky nm) 8 [(3, .int (nI (i + 1))), (2, .int (nI (wyN (hd r1) (i + 1)))), (0, .ref (a 0)), (1, .int (nI r1))] [] := ih
    show Wv p l e _ s m _ below meth c G A _ _ _ _ (cw G a hd wk sp ct ky nm) 8 [(3, .int (nI i)), (2, .int (nI (wyN (hd r1) i))), (0, .ref (a 0)), (1, .int (nI r1))] []
    refine r_iload_n (pc := 8) h 0 d_D_ways_8 rfl rfl ?_
    refine r_bipush (pc := 9) h (v := nI 16) d_D_ways_9 (by decide) ?_
    refine r_icmp_ge_f (pc := 11) h (tgt := 34) d_D_ways_11 (by decide) (nI_ge hi (by decide)) ?_
    refine r_iload_n (pc := 14) h 1 d_D_ways_14 rfl rfl ?_
    refine r_aload_n (pc := 15) h 2 d_D_ways_15 rfl rfl ?_
    refine r_get (pc := 16) h 0 0 d_D_ways_16 cw_0 rfl (by decide) in_D (List.mem_cons_of_mem _ w_42) rfl ?_
    refine r_iload_n (pc := 19) h 3 d_D_ways_19 rfl rfl ?_
    refine r_aaload (pc := 20) h 1 3 r1 d_D_ways_20 cw_1 rfl rfl rfl h1 (by decide) (cw_o h1) ?_
    refine r_iload_n (pc := 21) h 0 d_D_ways_21 rfl rfl ?_
    refine r_laload (pc := 22) h (7 + r1) (z := hd r1 i) i d_D_ways_22 (cw_r h1) rfl hi (by decide) rfl ?_
    refine r_invSa (pc := 23) h (st := [.int (nI (wyN (hd r1) i))]) d_D_ways_23 (c_bitCount (hd r1 i)) (r_cS h wc_J_bitCount w_250 w_10 w_251 hd_J_bitCount ⟨(Nat.le_of_ble_eq_true rfl), (Nat.le_of_ble_eq_true rfl)⟩ rfl rfl) rfl rfl (Nat.le_of_ble_eq_true rfl) ⟨(Nat.le_of_ble_eq_true rfl), (Nat.le_of_ble_eq_true rfl)⟩ rfl ?_
    refine r_iadd (pc := 26) h (z := nI (wyN (hd r1) (i + 1))) d_D_ways_26 (nI_add _ _) ?_
    refine r_istore_n (pc := 27) h (lv' := [(2, .int (nI (wyN (hd r1) (i + 1)))), (3, .int (nI i)), (0, .ref (a 0)), (1, .int (nI r1))]) d_D_ways_27 rfl (by decide) rfl ?_
    refine r_iinc (pc := 28) h (v := nI (i + 1)) (lv' := [(3, .int (nI (i + 1))), (2, .int (nI (wyN (hd r1) (i + 1)))), (0, .ref (a 0)), (1, .int (nI r1))]) 1 d_D_ways_28 rfl (nI_inc i) (by decide) rfl ?_
    refine r_goto (pc := 31) h (tgt := 8) d_D_ways_31 (by decide) ?_
    exact ih
theorem c_hangsOn {ws : va_W} (q0 b v : Nat) (f : Nat → Int64) (hq : ws[q0]? = some (b, rwL G f)) (hv : v < 10) : Ct l y_D_hangsOn (.code y_D_hangsOn b_D_hangsOn 3 (some .boolean) :: TT) (rmF 1 25) G [.ref b, .int (nI v)] ws (some (.int (bI (hgB f v)))) ws := by
  by_cases h : ∀ i, i < 16 → f i = tW f v i
  · rw [show hgB f v = false by unfold hgB; rw [bD_t h]; rfl]
    exact c_hangsOn_f q0 b v f hq hv h
  · rw [show hgB f v = true by unfold hgB; rw [bD_f h]; rfl]
    have hex : ∃ n, n < 16 ∧ f n ≠ tW f v n := Classical.byContradiction (fun q => h (fun i hi => Classical.byContradiction (fun z => q ⟨i, hi, z⟩)))
    obtain ⟨n, ⟨h1, h2⟩, h3⟩ := pk_least _ hex
    exact c_hangsOn_t q0 b v n f hq hv h1 (fun i hi => Classical.byContradiction (fun z => h3 i hi ⟨Nat.lt_trans hi h1, z⟩)) h2
theorem hgN_t {f : Nat → Int64} {v : Nat} (h : hgB f v = true) : hgN f (v + 1) = hgN f v ||| 2 ^ v := if_pos h
theorem hgN_f {f : Nat → Int64} {v : Nat} (h : hgB f v = false) : hgN f (v + 1) = hgN f v := if_neg (by rw [h]; decide)
theorem c_hangs (r1 : Nat) (h1 : r1 < 16) : Ct l y_D_hangs (.code y_D_hangs b_D_hangs 4 (some .int) :: TT) (rmF 2 47) G [.ref (a 0), .int (nI r1)] (cw G a hd wk sp ct ky nm) (some (.int (nI (hgN (hd r1) 10)))) (cw G a hd wk sp ct ky nm) := by
  refine ct_intro (cc := b_D_hangs) (nL := 4) (by decide) [(0, .ref (a 0)), (1, .int (nI r1))] rfl (Nat.le_of_ble_eq_true rfl) ?_
  intro p e s m below meth c A h hr
  refine r_iload_n (pc := 0) h 1 d_D_hangs_0 rfl rfl ?_
  refine r_invSv (pc := 1) h (st := []) d_D_hangs_1 (c_checkRegister r1 h1) (r_cS h wc_D_checkRegister w_63 w_1 w_64 hd_D_checkRegister ⟨(Nat.le_of_ble_eq_true rfl), (Nat.le_of_ble_eq_true rfl)⟩ rfl rfl) rfl rfl (Nat.le_of_ble_eq_true rfl) ⟨(Nat.le_of_ble_eq_true rfl), (Nat.le_of_ble_eq_true rfl)⟩ rfl ?_
  refine r_iconst (pc := 4) h (v := nI (hgN (hd r1) 0)) d_D_hangs_4 rfl ?_
  refine r_istore_n (pc := 5) h (lv' := [(2, .int (nI (hgN (hd r1) 0))), (0, .ref (a 0)), (1, .int (nI r1))]) d_D_hangs_5 rfl (by decide) rfl ?_
  refine r_iconst (pc := 6) h (v := nI 0) d_D_hangs_6 (by decide) ?_
  refine r_istore_n (pc := 7) h (lv' := [(3, .int (nI 0)), (2, .int (nI (hgN (hd r1) 0))), (0, .ref (a 0)), (1, .int (nI r1))]) d_D_hangs_7 rfl (by decide) rfl ?_
  refine Wv.loop 10 (fun i => (cw G a hd wk sp ct ky nm)) (fun i => [(3, .int (nI i)), (2, .int (nI (hgN (hd r1) i))), (0, .ref (a 0)), (1, .int (nI r1))]) ?_ ?_
  · show Wv p l e _ s m _ below meth c G A _ _ _ _ (cw G a hd wk sp ct ky nm) 8 [(3, .int (nI 10)), (2, .int (nI (hgN (hd r1) 10))), (0, .ref (a 0)), (1, .int (nI r1))] []
    refine r_iload_n (pc := 8) h 0 d_D_hangs_8 rfl rfl ?_
    refine r_bipush (pc := 9) h (v := nI 10) d_D_hangs_9 (by decide) ?_
    refine r_icmp_ge_t (pc := 11) h (tgt := 39) d_D_hangs_11 (by decide) (nI_le (Nat.le_refl _) (by decide)) ?_
    refine r_iload_n (pc := 39) h 1 d_D_hangs_39 rfl rfl ?_
    exact r_iret (pc := 40) h hr d_D_hangs_40
  · intro i hi ih
    have ih : Wv p l e _ s m _ below meth c G A _ _ _ _ (cw G a hd wk sp ct ky nm) 8 [(3, .int (nI (i + 1))), (2, .int (nI (hgN (hd r1) (i + 1)))), (0, .ref (a 0)), (1, .int (nI r1))] [] := ih
    show Wv p l e _ s m _ below meth c G A _ _ _ _ (cw G a hd wk sp ct ky nm) 8 [(3, .int (nI i)), (2, .int (nI (hgN (hd r1) i))), (0, .ref (a 0)), (1, .int (nI r1))] []
    refine r_iload_n (pc := 8) h 0 d_D_hangs_8 rfl rfl ?_
    refine r_bipush (pc := 9) h (v := nI 10) d_D_hangs_9 (by decide) ?_
    refine r_icmp_ge_f (pc := 11) h (tgt := 39) d_D_hangs_11 (by decide) (nI_ge hi (by decide)) ?_
    refine r_aload_n (pc := 14) h 2 d_D_hangs_14 rfl rfl ?_
    refine r_get (pc := 15) h 0 0 d_D_hangs_15 cw_0 rfl (by decide) in_D (List.mem_cons_of_mem _ w_42) rfl ?_
    refine r_iload_n (pc := 18) h 3 d_D_hangs_18 rfl rfl ?_
    refine r_aaload (pc := 19) h 1 3 r1 d_D_hangs_19 cw_1 rfl rfl rfl h1 (by decide) (cw_o h1) ?_
    refine r_iload_n (pc := 20) h 0 d_D_hangs_20 rfl rfl ?_
    refine r_invSa (pc := 21) h (st := []) d_D_hangs_21 (c_hangsOn (7 + r1) (a (7 + r1)) i (hd r1) (cw_r h1) hi) (r_cS h wc_D_hangsOn w_295 w_1 w_296 hd_D_hangsOn ⟨(Nat.le_of_ble_eq_true rfl), (Nat.le_of_ble_eq_true rfl)⟩ rfl rfl) rfl rfl (Nat.le_of_ble_eq_true rfl) ⟨(Nat.le_of_ble_eq_true rfl), (Nat.le_of_ble_eq_true rfl)⟩ rfl ?_
    refine r_if_eq (pc := 24) h (tgt := 33) d_D_hangs_24 (by decide) (fun q24 => ?_) (fun q24 => ?_)
    · have hb := (bI_0 _).mp q24
      refine Wv.lcl (lv' := [(3, .int (nI i)), (2, .int (nI (hgN (hd r1) (i + 1)))), (0, .ref (a 0)), (1, .int (nI r1))]) (by rw [hgN_f hb]) ?_
      refine r_iinc (pc := 33) h (v := nI (i + 1)) (lv' := [(3, .int (nI (i + 1))), (2, .int (nI (hgN (hd r1) (i + 1)))), (0, .ref (a 0)), (1, .int (nI r1))]) 0 d_D_hangs_33 rfl (nI_inc i) (by decide) rfl ?_
      refine r_goto (pc := 36) h (tgt := 8) d_D_hangs_36 (by decide) ?_
      exact ih
    · have hb : hgB (hd r1) i = true := by cases h9 : hgB (hd r1) i; exact absurd ((bI_0 _).mpr h9) q24; rfl
      refine r_iload_n (pc := 27) h 1 d_D_hangs_27 rfl rfl ?_
      refine r_iconst (pc := 28) h (v := nI 1) d_D_hangs_28 (by decide) ?_
      refine r_iload_n (pc := 29) h 0 d_D_hangs_29 rfl rfl ?_
      refine r_ishl (pc := 30) h (z := nI (2 ^ i)) d_D_hangs_30 (nx_pw (by omega)) ?_
      refine r_ior (pc := 31) h (z := nI (hgN (hd r1) i ||| 2 ^ i)) d_D_hangs_31 (nx_or _ _) ?_
      refine r_istore_n (pc := 32) h (lv' := [(2, .int (nI (hgN (hd r1) i ||| 2 ^ i))), (3, .int (nI i)), (0, .ref (a 0)), (1, .int (nI r1))]) d_D_hangs_32 rfl (by decide) rfl ?_
      refine Wv.lcl (lv' := [(2, .int (nI (hgN (hd r1) (i + 1)))), (3, .int (nI i)), (0, .ref (a 0)), (1, .int (nI r1))]) (by rw [hgN_t hb]) ?_
      refine r_iinc (pc := 33) h (v := nI (i + 1)) (lv' := [(3, .int (nI (i + 1))), (2, .int (nI (hgN (hd r1) (i + 1)))), (0, .ref (a 0)), (1, .int (nI r1))]) 1 d_D_hangs_33 rfl (nI_inc i) (by decide) rfl ?_
      refine r_goto (pc := 36) h (tgt := 8) d_D_hangs_36 (by decide) ?_
      exact ih
theorem c_same_t (r1 r2 : Nat) (h1 : r1 < 16) (h2 : r2 < 16) (he : ∀ i, i < 16 → hd r1 i = hd r2 i) : Ct l y_D_same (.code y_D_same b_D_same 4 (some .boolean) :: TT) (rmF 1 20) G [.ref (a 0), .int (nI r1), .int (nI r2)] (cw G a hd wk sp ct ky nm) (some (.int (bI true))) (cw G a hd wk sp ct ky nm) := by
  refine ct_intro (cc := b_D_same) (nL := 4) (by decide) [(0, .ref (a 0)), (1, .int (nI r1)), (2, .int (nI r2))] rfl (Nat.le_of_ble_eq_true rfl) ?_
  intro p e s m below meth c A h hr
  refine r_iload_n (pc := 0) h 1 d_D_same_0 rfl rfl ?_
  refine r_invSv (pc := 1) h (st := []) d_D_same_1 (c_checkRegister r1 h1) (r_cS h wc_D_checkRegister w_63 w_1 w_64 hd_D_checkRegister ⟨(Nat.le_of_ble_eq_true rfl), (Nat.le_of_ble_eq_true rfl)⟩ rfl rfl) rfl rfl (Nat.le_of_ble_eq_true rfl) ⟨(Nat.le_of_ble_eq_true rfl), (Nat.le_of_ble_eq_true rfl)⟩ rfl ?_
  refine r_iload_n (pc := 4) h 2 d_D_same_4 rfl rfl ?_
  refine r_invSv (pc := 5) h (st := []) d_D_same_5 (c_checkRegister r2 h2) (r_cS h wc_D_checkRegister w_63 w_1 w_64 hd_D_checkRegister ⟨(Nat.le_of_ble_eq_true rfl), (Nat.le_of_ble_eq_true rfl)⟩ rfl rfl) rfl rfl (Nat.le_of_ble_eq_true rfl) ⟨(Nat.le_of_ble_eq_true rfl), (Nat.le_of_ble_eq_true rfl)⟩ rfl ?_
  refine r_iconst (pc := 8) h (v := nI 0) d_D_same_8 (by decide) ?_
  refine r_istore_n (pc := 9) h (lv' := [(3, .int (nI 0)), (0, .ref (a 0)), (1, .int (nI r1)), (2, .int (nI r2))]) d_D_same_9 rfl (by decide) rfl ?_
  refine Wv.loop 16 (fun i => (cw G a hd wk sp ct ky nm)) (fun i => [(3, .int (nI i)), (0, .ref (a 0)), (1, .int (nI r1)), (2, .int (nI r2))]) ?_ ?_
  · show Wv p l e _ s m _ below meth c G A _ _ _ _ (cw G a hd wk sp ct ky nm) 10 [(3, .int (nI 16)), (0, .ref (a 0)), (1, .int (nI r1)), (2, .int (nI r2))] []
    refine r_iload_n (pc := 10) h 0 d_D_same_10 rfl rfl ?_
    refine r_bipush (pc := 11) h (v := nI 16) d_D_same_11 (by decide) ?_
    refine r_icmp_ge_t (pc := 13) h (tgt := 44) d_D_same_13 (by decide) (nI_le (Nat.le_refl _) (by decide)) ?_
    refine r_iconst (pc := 44) h (v := bI true) d_D_same_44 (by decide) ?_
    exact r_zret (pc := 45) h hr (bI_nrw _) d_D_same_45
  · intro i hi ih
    have ih : Wv p l e _ s m _ below meth c G A _ _ _ _ (cw G a hd wk sp ct ky nm) 10 [(3, .int (nI (i + 1))), (0, .ref (a 0)), (1, .int (nI r1)), (2, .int (nI r2))] [] := ih
    show Wv p l e _ s m _ below meth c G A _ _ _ _ (cw G a hd wk sp ct ky nm) 10 [(3, .int (nI i)), (0, .ref (a 0)), (1, .int (nI r1)), (2, .int (nI r2))] []
    refine r_iload_n (pc := 10) h 0 d_D_same_10 rfl rfl ?_
    refine r_bipush (pc := 11) h (v := nI 16) d_D_same_11 (by decide) ?_
    refine r_icmp_ge_f (pc := 13) h (tgt := 44) d_D_same_13 (by decide) (nI_ge hi (by decide)) ?_
    refine r_aload_n (pc := 16) h 1 d_D_same_16 rfl rfl ?_
    refine r_get (pc := 17) h 0 0 d_D_same_17 cw_0 rfl (by decide) in_D (List.mem_cons_of_mem _ w_42) rfl ?_
    refine r_iload_n (pc := 20) h 2 d_D_same_20 rfl rfl ?_
    refine r_aaload (pc := 21) h 1 3 r1 d_D_same_21 cw_1 rfl rfl rfl h1 (by decide) (cw_o h1) ?_
    refine r_iload_n (pc := 22) h 0 d_D_same_22 rfl rfl ?_
    refine r_laload (pc := 23) h (7 + r1) (z := hd r1 i) i d_D_same_23 (cw_r h1) rfl hi (by decide) rfl ?_
    refine r_aload_n (pc := 24) h 1 d_D_same_24 rfl rfl ?_
    refine r_get (pc := 25) h 0 0 d_D_same_25 cw_0 rfl (by decide) in_D (List.mem_cons_of_mem _ w_42) rfl ?_
    refine r_iload_n (pc := 28) h 3 d_D_same_28 rfl rfl ?_
    refine r_aaload (pc := 29) h 1 3 r2 d_D_same_29 cw_1 rfl rfl rfl h2 (by decide) (cw_o h2) ?_
    refine r_iload_n (pc := 30) h 0 d_D_same_30 rfl rfl ?_
    refine r_laload (pc := 31) h (7 + r2) (z := hd r2 i) i d_D_same_31 (cw_r h2) rfl hi (by decide) rfl ?_
    refine r_lcmp (pc := 32) h (z := 0) d_D_same_32 ((lg_0 _ _).mpr (he i hi)) ?_
    refine r_if_eq_t (pc := 33) h (tgt := 38) d_D_same_33 (by decide) rfl ?_
    refine r_iinc (pc := 38) h (v := nI (i + 1)) (lv' := [(3, .int (nI (i + 1))), (0, .ref (a 0)), (1, .int (nI r1)), (2, .int (nI r2))]) 0 d_D_same_38 rfl (nI_inc i) (by decide) rfl ?_
    refine r_goto (pc := 41) h (tgt := 10) d_D_same_41 (by decide) ?_
    exact ih
theorem c_same_f (r1 r2 n : Nat) (h1 : r1 < 16) (h2 : r2 < 16) (hn : n < 16) (he : ∀ i, i < n → hd r1 i = hd r2 i) (hne : hd r1 n ≠ hd r2 n) : Ct l y_D_same (.code y_D_same b_D_same 4 (some .boolean) :: TT) (rmF 1 20) G [.ref (a 0), .int (nI r1), .int (nI r2)] (cw G a hd wk sp ct ky nm) (some (.int (bI false))) (cw G a hd wk sp ct ky nm) := by
  refine ct_intro (cc := b_D_same) (nL := 4) (by decide) [(0, .ref (a 0)), (1, .int (nI r1)), (2, .int (nI r2))] rfl (Nat.le_of_ble_eq_true rfl) ?_
  intro p e s m below meth c A h hr
  refine r_iload_n (pc := 0) h 1 d_D_same_0 rfl rfl ?_
  refine r_invSv (pc := 1) h (st := []) d_D_same_1 (c_checkRegister r1 h1) (r_cS h wc_D_checkRegister w_63 w_1 w_64 hd_D_checkRegister ⟨(Nat.le_of_ble_eq_true rfl), (Nat.le_of_ble_eq_true rfl)⟩ rfl rfl) rfl rfl (Nat.le_of_ble_eq_true rfl) ⟨(Nat.le_of_ble_eq_true rfl), (Nat.le_of_ble_eq_true rfl)⟩ rfl ?_
  refine r_iload_n (pc := 4) h 2 d_D_same_4 rfl rfl ?_
  refine r_invSv (pc := 5) h (st := []) d_D_same_5 (c_checkRegister r2 h2) (r_cS h wc_D_checkRegister w_63 w_1 w_64 hd_D_checkRegister ⟨(Nat.le_of_ble_eq_true rfl), (Nat.le_of_ble_eq_true rfl)⟩ rfl rfl) rfl rfl (Nat.le_of_ble_eq_true rfl) ⟨(Nat.le_of_ble_eq_true rfl), (Nat.le_of_ble_eq_true rfl)⟩ rfl ?_
  refine r_iconst (pc := 8) h (v := nI 0) d_D_same_8 (by decide) ?_
  refine r_istore_n (pc := 9) h (lv' := [(3, .int (nI 0)), (0, .ref (a 0)), (1, .int (nI r1)), (2, .int (nI r2))]) d_D_same_9 rfl (by decide) rfl ?_
  refine Wv.loop n (fun i => (cw G a hd wk sp ct ky nm)) (fun i => [(3, .int (nI i)), (0, .ref (a 0)), (1, .int (nI r1)), (2, .int (nI r2))]) ?_ ?_
  · show Wv p l e _ s m _ below meth c G A _ _ _ _ (cw G a hd wk sp ct ky nm) 10 [(3, .int (nI n)), (0, .ref (a 0)), (1, .int (nI r1)), (2, .int (nI r2))] []
    refine r_iload_n (pc := 10) h 0 d_D_same_10 rfl rfl ?_
    refine r_bipush (pc := 11) h (v := nI 16) d_D_same_11 (by decide) ?_
    refine r_icmp_ge_f (pc := 13) h (tgt := 44) d_D_same_13 (by decide) (nI_ge hn (by decide)) ?_
    refine r_aload_n (pc := 16) h 1 d_D_same_16 rfl rfl ?_
    refine r_get (pc := 17) h 0 0 d_D_same_17 cw_0 rfl (by decide) in_D (List.mem_cons_of_mem _ w_42) rfl ?_
    refine r_iload_n (pc := 20) h 2 d_D_same_20 rfl rfl ?_
    refine r_aaload (pc := 21) h 1 3 r1 d_D_same_21 cw_1 rfl rfl rfl h1 (by decide) (cw_o h1) ?_
    refine r_iload_n (pc := 22) h 0 d_D_same_22 rfl rfl ?_
    refine r_laload (pc := 23) h (7 + r1) (z := hd r1 n) n d_D_same_23 (cw_r h1) rfl hn (by decide) rfl ?_
    refine r_aload_n (pc := 24) h 1 d_D_same_24 rfl rfl ?_
    refine r_get (pc := 25) h 0 0 d_D_same_25 cw_0 rfl (by decide) in_D (List.mem_cons_of_mem _ w_42) rfl ?_
    refine r_iload_n (pc := 28) h 3 d_D_same_28 rfl rfl ?_
    refine r_aaload (pc := 29) h 1 3 r2 d_D_same_29 cw_1 rfl rfl rfl h2 (by decide) (cw_o h2) ?_
    refine r_iload_n (pc := 30) h 0 d_D_same_30 rfl rfl ?_
    refine r_laload (pc := 31) h (7 + r2) (z := hd r2 n) n d_D_same_31 (cw_r h2) rfl hn (by decide) rfl ?_
    refine r_lcmp (pc := 32) h (z := lg_cmp (hd r1 n) (hd r2 n)) d_D_same_32 rfl ?_
    refine r_if_eq_f (pc := 33) h (tgt := 38) d_D_same_33 (by decide) (fun z => hne ((lg_0 _ _).mp z)) ?_
    refine r_iconst (pc := 36) h (v := bI false) d_D_same_36 (by decide) ?_
    exact r_zret (pc := 37) h hr (bI_nrw _) d_D_same_37
  · intro i hi ih
    have ih : Wv p l e _ s m _ below meth c G A _ _ _ _ (cw G a hd wk sp ct ky nm) 10 [(3, .int (nI (i + 1))), (0, .ref (a 0)), (1, .int (nI r1)), (2, .int (nI r2))] [] := ih
    show Wv p l e _ s m _ below meth c G A _ _ _ _ (cw G a hd wk sp ct ky nm) 10 [(3, .int (nI i)), (0, .ref (a 0)), (1, .int (nI r1)), (2, .int (nI r2))] []
    refine r_iload_n (pc := 10) h 0 d_D_same_10 rfl rfl ?_
    refine r_bipush (pc := 11) h (v := nI 16) d_D_same_11 (by decide) ?_
    refine r_icmp_ge_f (pc := 13) h (tgt := 44) d_D_same_13 (by decide) (nI_ge (Nat.lt_trans hi hn) (by decide)) ?_
    refine r_aload_n (pc := 16) h 1 d_D_same_16 rfl rfl ?_
    refine r_get (pc := 17) h 0 0 d_D_same_17 cw_0 rfl (by decide) in_D (List.mem_cons_of_mem _ w_42) rfl ?_
    refine r_iload_n (pc := 20) h 2 d_D_same_20 rfl rfl ?_
    refine r_aaload (pc := 21) h 1 3 r1 d_D_same_21 cw_1 rfl rfl rfl h1 (by decide) (cw_o h1) ?_
    refine r_iload_n (pc := 22) h 0 d_D_same_22 rfl rfl ?_
    refine r_laload (pc := 23) h (7 + r1) (z := hd r1 i) i d_D_same_23 (cw_r h1) rfl (Nat.lt_trans hi hn) (by decide) rfl ?_
    refine r_aload_n (pc := 24) h 1 d_D_same_24 rfl rfl ?_
    refine r_get (pc := 25) h 0 0 d_D_same_25 cw_0 rfl (by decide) in_D (List.mem_cons_of_mem _ w_42) rfl ?_
    refine r_iload_n (pc := 28) h 3 d_D_same_28 rfl rfl ?_
    refine r_aaload (pc := 29) h 1 3 r2 d_D_same_29 cw_1 rfl rfl rfl h2 (by decide) (cw_o h2) ?_
    refine r_iload_n (pc := 30) h 0 d_D_same_30 rfl rfl ?_
    refine r_laload (pc := 31) h (7 + r2) (z := hd r2 i) i d_D_same_31 (cw_r h2) rfl (Nat.lt_trans hi hn) (by decide) rfl ?_
    refine r_lcmp (pc := 32) h (z := 0) d_D_same_32 ((lg_0 _ _).mpr (he i hi)) ?_
    refine r_if_eq_t (pc := 33) h (tgt := 38) d_D_same_33 (by decide) rfl ?_
    refine r_iinc (pc := 38) h (v := nI (i + 1)) (lv' := [(3, .int (nI (i + 1))), (0, .ref (a 0)), (1, .int (nI r1)), (2, .int (nI r2))]) 0 d_D_same_38 rfl (nI_inc i) (by decide) rfl ?_
    refine r_goto (pc := 41) h (tgt := 10) d_D_same_41 (by decide) ?_
    exact ih
theorem c_same (r1 r2 : Nat) (h1 : r1 < 16) (h2 : r2 < 16) : Ct l y_D_same (.code y_D_same b_D_same 4 (some .boolean) :: TT) (rmF 1 20) G [.ref (a 0), .int (nI r1), .int (nI r2)] (cw G a hd wk sp ct ky nm) (some (.int (bI (bD (∀ i, i < 16 → hd r1 i = hd r2 i))))) (cw G a hd wk sp ct ky nm) := by
  by_cases h : ∀ i, i < 16 → hd r1 i = hd r2 i
  · rw [bD_t h]
    exact c_same_t r1 r2 h1 h2 h
  · rw [bD_f h]
    have hex : ∃ n, n < 16 ∧ hd r1 n ≠ hd r2 n := Classical.byContradiction (fun q => h (fun i hi => Classical.byContradiction (fun z => q ⟨i, hi, z⟩)))
    obtain ⟨n, ⟨g1, g2⟩, g3⟩ := pk_least _ hex
    exact c_same_f r1 r2 n h1 h2 g1 (fun i hi => Classical.byContradiction (fun z => g3 i hi ⟨Nat.lt_trans hi g1, z⟩)) g2
end CV
end
section
-- first
theorem row_eq {f g : Nat → Int64} : (∀ i, i < 16 → f i = g i) ↔ ∀ y, y < 1024 → sv f y = sv g y := by
  constructor
  · intro h y hy
    unfold sv
    rw [h (y / 64) (by omega)]
  · intro h i hi
    apply lb_ext
    intro k hk
    have h1 := h (64 * i + k) (by omega)
    unfold sv at h1
    rw [show (64 * i + k) / 64 = i by omega, show (64 * i + k) % 64 = k by omega] at h1
    exact h1
theorem sv_0 (y : Nat) : sv (fun _ => 0) y = false := lb_0 _
theorem row_0 {f : Nat → Int64} : (∀ i, i < 16 → f i = 0) ↔ ∀ y, y < 1024 → sv f y = false := by
  have h := row_eq (f := f) (g := fun _ => 0)
  constructor
  · intro h1 y hy
    rw [h.mp h1 y hy, sv_0]
  · intro h1
    exact h.mpr (fun y hy => by rw [h1 y hy, sv_0])
theorem sv_mix {g f : Nat → Int64} {x : Nat} (hx : x < 1024) : sv (mix 16 g f) x = sv g x := by
  unfold sv
  rw [mix_lt (show x / 64 < 16 by omega)]
/-- what narrowing to v false leaves -/
def nwG (wk : Nat → Int64) (v j : Nat) : Int64 := wk j &&& (vW v j ^^^ (-1))
theorem sv_nwG {wk : Nat → Int64} {v x : Nat} (hv : v < 10) (hx : x < 1024) : sv (nwG wk v) x = (sv wk x && !x.testBit v) := by
  have hm : x % 64 < 64 := Nat.mod_lt _ (by decide)
  have h1 := sv_vW hv hx
  unfold sv nwG at *
  rw [lb_and, lb_not _ hm, h1]
/-- work and spare along first, whose answer is x0 -/
def fsq (x0 : Nat) (wk sp : Nat → Int64) : Nat → (Nat → Int64) × (Nat → Int64)
  | 0 => (wk, sp)
  | v + 1 => if x0.testBit v = false then (mix 16 (mix 16 (nwG (fsq x0 wk sp v).1 v) (fsq x0 wk sp v).2) (fsq x0 wk sp v).1, mix 16 (nwG (fsq x0 wk sp v).1 v) (fsq x0 wk sp v).2) else ((fsq x0 wk sp v).1, mix 16 (nwG (fsq x0 wk sp v).1 v) (fsq x0 wk sp v).2)
theorem fsq_f {x0 v : Nat} {wk sp : Nat → Int64} (h : x0.testBit v = false) : fsq x0 wk sp (v + 1) = (mix 16 (mix 16 (nwG (fsq x0 wk sp v).1 v) (fsq x0 wk sp v).2) (fsq x0 wk sp v).1, mix 16 (nwG (fsq x0 wk sp v).1 v) (fsq x0 wk sp v).2) := if_pos h
theorem fsq_t {x0 v : Nat} {wk sp : Nat → Int64} (h : x0.testBit v = true) : fsq x0 wk sp (v + 1) = ((fsq x0 wk sp v).1, mix 16 (nwG (fsq x0 wk sp v).1 v) (fsq x0 wk sp v).2) := if_neg (by rw [h]; decide)
theorem fsq_inv {x0 : Nat} {r wk sp : Nat → Int64} (hF : isF (sv r) x0) (h0 : ∀ y, y < 1024 → sv wk y = sv r y) : ∀ v, v ≤ 10 → ∀ y, y < 1024 → (sv (fsq x0 wk sp v).1 y = true ↔ sv r y = true ∧ y % 2 ^ v = x0 % 2 ^ v)
  | 0, _, y, hy => by
    show sv wk y = true ↔ _
    rw [h0 y hy]
    simp [Nat.mod_one]
  | v + 1, hv, y, hy => by
    have ih := fsq_inv (sp := sp) hF h0 v (by omega)
    have hst := isF_step hF (show v < 10 by omega)
    rw [mod_succ]
    cases hb : x0.testBit v
    · rw [fsq_f hb]
      show sv (mix 16 (mix 16 _ _) _) y = true ↔ _
      rw [sv_mix hy, sv_mix hy, sv_nwG (by omega) hy, Bool.and_eq_true, ih y hy]
      constructor
      · rintro ⟨⟨h1, h2⟩, h3⟩
        exact ⟨h1, h2, by simpa using h3⟩
      · rintro ⟨h1, h2, h3⟩
        exact ⟨⟨h1, h2⟩, by rw [h3]; rfl⟩
    · rw [fsq_t hb]
      show sv (fsq x0 wk sp v).1 y = true ↔ _
      rw [ih y hy]
      constructor
      · rintro ⟨h1, h2⟩
        refine ⟨h1, h2, ?_⟩
        cases hyb : y.testBit v
        · exfalso
          have := hst.mp ⟨y, hy, ⟨h1, h2⟩, hyb⟩
          rw [hb] at this
          cases this
        · rfl
      · rintro ⟨h1, h2, -⟩
        exact ⟨h1, h2⟩
/-- nothing is left just if the first has v true -/
theorem fsq_0 {x0 v : Nat} {r wk sp : Nat → Int64} (hF : isF (sv r) x0) (h0 : ∀ y, y < 1024 → sv wk y = sv r y) (hv : v < 10) : (∀ i, i < 16 → nwG (fsq x0 wk sp v).1 v i = 0) ↔ x0.testBit v = true := by
  have ih := fsq_inv (sp := sp) hF h0 v (by omega)
  have hst := isF_step hF hv
  rw [row_0]
  constructor
  · intro h
    cases hb : x0.testBit v
    · exfalso
      obtain ⟨y, hy, h1, h2⟩ := hst.mpr hb
      have h3 := h y hy
      rw [sv_nwG hv hy, (ih y hy).mpr h1, h2] at h3
      cases h3
    · rfl
  · intro h y hy
    rw [sv_nwG hv hy]
    cases h1 : sv (fsq x0 wk sp v).1 y
    · rfl
    · cases h2 : y.testBit v
      · exfalso
        have := hst.mp ⟨y, hy, (ih y hy).mp h1, h2⟩
        rw [h] at this
        cases this
      · rfl
section CF
variable {l : Launch} {G : gG} {a : Nat → Nat} {hd : Nat → Nat → Int64} {wk sp : Nat → Int64} {ct : Int32} {ky nm : Nat → Int32}
theorem c_isEmptyWork : Ct l y_D_isEmptyWork (.code y_D_isEmptyWork b_D_isEmptyWork 2 (some .boolean) :: TT) (rmF 0 0) G [.ref (a 0)] (cw G a hd wk sp ct ky nm) (some (.int (bI (bD (∀ i, i < 16 → wk i = 0))))) (cw G a hd wk sp ct ky nm) := by
  by_cases h : ∀ i, i < 16 → wk i = 0
  · rw [bD_t h]
    exact c_isEmptyWork_t h
  · rw [bD_f h]
    have hex : ∃ n, n < 16 ∧ wk n ≠ 0 := Classical.byContradiction (fun q => h (fun i hi => Classical.byContradiction (fun z => q ⟨i, hi, z⟩)))
    obtain ⟨n, ⟨h1, h2⟩, h3⟩ := pk_least _ hex
    exact c_isEmptyWork_f n h1 (fun i hi => Classical.byContradiction (fun z => h3 i hi ⟨Nat.lt_trans hi h1, z⟩)) h2
theorem c_first (r1 x0 : Nat) (h1 : r1 < 16) (hF : isF (sv (hd r1)) x0) : Ct l y_D_first (.code y_D_first b_D_first 4 (some .int) :: TT) (rmF 3 66) G [.ref (a 0), .int (nI r1)] (cw G a hd wk sp ct ky nm) (some (.int (nI x0))) (cw G a hd ((fsq x0 (mix 16 (hd r1) wk) sp 10).1) ((fsq x0 (mix 16 (hd r1) wk) sp 10).2) ct ky nm) := by
  refine ct_intro (cc := b_D_first) (nL := 4) (by decide) [(0, .ref (a 0)), (1, .int (nI r1))] rfl (Nat.le_of_ble_eq_true rfl) ?_
  intro p e s m below meth c A h hr
  have h0 : ∀ y, y < 1024 → sv (mix 16 (hd r1) wk) y = sv (hd r1) y := fun y hy => sv_mix hy
  have hne : ¬ ∀ i, i < 16 → (mix 16 (hd r1) wk) i = 0 := fun z => by
    have h9 := row_0.mp z x0 hF.1
    rw [h0 x0 hF.1, hF.2.1] at h9
    cases h9
  refine r_iload_n (pc := 0) h 1 d_D_first_0 rfl rfl ?_
  refine r_invSv (pc := 1) h (st := []) d_D_first_1 (c_checkRegister r1 h1) (r_cS h wc_D_checkRegister w_63 w_1 w_64 hd_D_checkRegister ⟨(Nat.le_of_ble_eq_true rfl), (Nat.le_of_ble_eq_true rfl)⟩ rfl rfl) rfl rfl (Nat.le_of_ble_eq_true rfl) ⟨(Nat.le_of_ble_eq_true rfl), (Nat.le_of_ble_eq_true rfl)⟩ rfl ?_
  refine r_aload_n (pc := 4) h 0 d_D_first_4 rfl rfl ?_
  refine r_get (pc := 5) h 0 0 d_D_first_5 cw_0 rfl (by decide) in_D (List.mem_cons_of_mem _ w_42) rfl ?_
  refine r_iload_n (pc := 8) h 1 d_D_first_8 rfl rfl ?_
  refine r_aaload (pc := 9) h 1 3 r1 d_D_first_9 cw_1 rfl rfl rfl h1 (by decide) (cw_o h1) ?_
  refine r_iconst (pc := 10) h (v := 0) d_D_first_10 (by decide) ?_
  refine r_aload_n (pc := 11) h 0 d_D_first_11 rfl rfl ?_
  refine r_get (pc := 12) h 0 1 d_D_first_12 cw_0 rfl (by decide) in_D (List.mem_cons_of_mem _ w_43) rfl ?_
  refine r_iconst (pc := 15) h (v := 0) d_D_first_15 (by decide) ?_
  refine r_bipush (pc := 16) h (v := nI 16) d_D_first_16 (by decide) ?_
  refine r_copyl (pc := 18) h (7 + r1) 2 (ws' := (cw G a hd (mix 16 (hd r1) wk) sp ct ky nm)) 16 d_D_first_18 (List.mem_cons_of_mem _ w_201) (List.mem_cons_of_mem _ w_203) (List.mem_cons_of_mem _ w_202) (List.mem_cons_of_mem _ w_9) (cw_r h1) cw_2 rfl rfl rfl (by decide) (by decide) (by decide) (Nat.le_of_ble_eq_true rfl) (Nat.le_of_ble_eq_true rfl) (by rw [cpy_row]; exact cw_s2) ?_
  refine r_aload_n (pc := 21) h 0 d_D_first_21 rfl rfl ?_
  refine r_invVa (pc := 22) h 0 (st := []) d_D_first_22 c_isEmptyWork (r_cV h wc_D_isEmptyWork w_264 w_1 w_266 (TT_se (q := (y_D_isEmptyWork, 4)) 3 rfl) hd_D_isEmptyWork ⟨(Nat.le_of_ble_eq_true rfl), (Nat.le_of_ble_eq_true rfl)⟩ rfl rfl) cw_0 rfl rfl rfl (Nat.le_of_ble_eq_true rfl) ⟨(Nat.le_of_ble_eq_true rfl), (Nat.le_of_ble_eq_true rfl)⟩ cw_adr ?_
  refine r_if_eq_t (pc := 25) h (tgt := 38) d_D_first_25 (by decide) (by rw [bD_f hne]; decide) ?_
  refine r_iconst (pc := 38) h (v := nI (x0 % 2 ^ 0)) d_D_first_38 (by rw [Nat.pow_zero, Nat.mod_one]; decide) ?_
  refine r_istore_n (pc := 39) h (lv' := [(2, .int (nI (x0 % 2 ^ 0))), (0, .ref (a 0)), (1, .int (nI r1))]) d_D_first_39 rfl (by decide) rfl ?_
  refine r_iconst (pc := 40) h (v := nI 0) d_D_first_40 (by decide) ?_
  refine r_istore_n (pc := 41) h (lv' := [(3, .int (nI 0)), (2, .int (nI (x0 % 2 ^ 0))), (0, .ref (a 0)), (1, .int (nI r1))]) d_D_first_41 rfl (by decide) rfl ?_
  refine Wv.wld (ws' := (cw G a hd ((fsq x0 (mix 16 (hd r1) wk) sp 0).1) ((fsq x0 (mix 16 (hd r1) wk) sp 0).2) ct ky nm)) rfl ?_
  refine Wv.loop 10 (fun i => (cw G a hd ((fsq x0 (mix 16 (hd r1) wk) sp i).1) ((fsq x0 (mix 16 (hd r1) wk) sp i).2) ct ky nm)) (fun i => [(3, .int (nI i)), (2, .int (nI (x0 % 2 ^ i))), (0, .ref (a 0)), (1, .int (nI r1))]) ?_ ?_
  · show Wv p l e _ s m _ below meth c G A _ _ _ _ (cw G a hd ((fsq x0 (mix 16 (hd r1) wk) sp 10).1) ((fsq x0 (mix 16 (hd r1) wk) sp 10).2) ct ky nm) 42 [(3, .int (nI 10)), (2, .int (nI (x0 % 2 ^ 10))), (0, .ref (a 0)), (1, .int (nI r1))] []
    rw [show x0 % 2 ^ 10 = x0 from Nat.mod_eq_of_lt hF.1]
    refine r_iload_n (pc := 42) h 0 d_D_first_42 rfl rfl ?_
    refine r_bipush (pc := 43) h (v := nI 10) d_D_first_43 (by decide) ?_
    refine r_icmp_ge_t (pc := 45) h (tgt := 68) d_D_first_45 (by decide) (nI_le (Nat.le_refl _) (by decide)) ?_
    refine r_iload_n (pc := 68) h 1 d_D_first_68 rfl rfl ?_
    exact r_iret (pc := 69) h hr d_D_first_69
  · intro i hi ih
    have ih : Wv p l e _ s m _ below meth c G A _ _ _ _ (cw G a hd ((fsq x0 (mix 16 (hd r1) wk) sp (i + 1)).1) ((fsq x0 (mix 16 (hd r1) wk) sp (i + 1)).2) ct ky nm) 42 [(3, .int (nI (i + 1))), (2, .int (nI (x0 % 2 ^ (i + 1)))), (0, .ref (a 0)), (1, .int (nI r1))] [] := ih
    show Wv p l e _ s m _ below meth c G A _ _ _ _ (cw G a hd ((fsq x0 (mix 16 (hd r1) wk) sp i).1) ((fsq x0 (mix 16 (hd r1) wk) sp i).2) ct ky nm) 42 [(3, .int (nI i)), (2, .int (nI (x0 % 2 ^ i))), (0, .ref (a 0)), (1, .int (nI r1))] []
    refine r_iload_n (pc := 42) h 0 d_D_first_42 rfl rfl ?_
    refine r_bipush (pc := 43) h (v := nI 10) d_D_first_43 (by decide) ?_
    refine r_icmp_ge_f (pc := 45) h (tgt := 68) d_D_first_45 (by decide) (nI_ge hi (by decide)) ?_
    refine r_aload_n (pc := 48) h 2 d_D_first_48 rfl rfl ?_
    refine r_iload_n (pc := 49) h 0 d_D_first_49 rfl rfl ?_
    have hz := fsq_0 (sp := sp) hF h0 hi
    cases hb : x0.testBit i
    · rw [hb] at hz
      refine r_invVa (pc := 50) h 0 (st := []) d_D_first_50 (c_narrow_true i hi (fun z => absurd (hz.mp z) (by decide))) (r_cV h wc_D_narrowWorkToFalse w_284 w_1 w_286 (TT_se (q := (y_D_narrowWorkToFalse, 4)) 4 rfl) hd_D_narrowWorkToFalse ⟨(Nat.le_of_ble_eq_true rfl), (Nat.le_of_ble_eq_true rfl)⟩ rfl rfl) cw_0 rfl rfl rfl (Nat.le_of_ble_eq_true rfl) ⟨(Nat.le_of_ble_eq_true rfl), (Nat.le_of_ble_eq_true rfl)⟩ cw_adr ?_
      refine Wv.wld (ws' := (cw G a hd ((fsq x0 (mix 16 (hd r1) wk) sp (i + 1)).1) ((fsq x0 (mix 16 (hd r1) wk) sp (i + 1)).2) ct ky nm)) (by rw [fsq_f hb]; rfl) ?_
      refine r_if_ne_t (pc := 53) h (tgt := 62) d_D_first_53 (by decide) (by decide) ?_
      refine Wv.lcl (lv' := [(3, .int (nI i)), (2, .int (nI (x0 % 2 ^ (i + 1)))), (0, .ref (a 0)), (1, .int (nI r1))]) (by have h9 := mod_bit x0 i; rw [hb, if_neg (by decide), Nat.or_zero] at h9; rw [h9]) ?_
      refine r_iinc (pc := 62) h (v := nI (i + 1)) (lv' := [(3, .int (nI (i + 1))), (2, .int (nI (x0 % 2 ^ (i + 1)))), (0, .ref (a 0)), (1, .int (nI r1))]) 0 d_D_first_62 rfl (nI_inc i) (by decide) rfl ?_
      refine r_goto (pc := 65) h (tgt := 42) d_D_first_65 (by decide) ?_
      exact ih
    · rw [hb] at hz
      refine r_invVa (pc := 50) h 0 (st := []) d_D_first_50 (c_narrow_false i hi (hz.mpr rfl)) (r_cV h wc_D_narrowWorkToFalse w_284 w_1 w_286 (TT_se (q := (y_D_narrowWorkToFalse, 4)) 4 rfl) hd_D_narrowWorkToFalse ⟨(Nat.le_of_ble_eq_true rfl), (Nat.le_of_ble_eq_true rfl)⟩ rfl rfl) cw_0 rfl rfl rfl (Nat.le_of_ble_eq_true rfl) ⟨(Nat.le_of_ble_eq_true rfl), (Nat.le_of_ble_eq_true rfl)⟩ cw_adr ?_
      refine Wv.wld (ws' := (cw G a hd ((fsq x0 (mix 16 (hd r1) wk) sp (i + 1)).1) ((fsq x0 (mix 16 (hd r1) wk) sp (i + 1)).2) ct ky nm)) (by rw [fsq_t hb]; rfl) ?_
      refine r_if_ne_f (pc := 53) h (tgt := 62) d_D_first_53 (by decide) (by decide) ?_
      refine r_iload_n (pc := 56) h 1 d_D_first_56 rfl rfl ?_
      refine r_iconst (pc := 57) h (v := nI 1) d_D_first_57 (by decide) ?_
      refine r_iload_n (pc := 58) h 0 d_D_first_58 rfl rfl ?_
      refine r_ishl (pc := 59) h (z := nI (2 ^ i)) d_D_first_59 (nx_pw (by omega)) ?_
      refine r_ior (pc := 60) h (z := nI (x0 % 2 ^ (i + 1))) d_D_first_60 (by have h9 := mod_bit x0 i; rw [hb, if_pos rfl] at h9; rw [nx_or, h9]) ?_
      refine r_istore_n (pc := 61) h (lv' := [(2, .int (nI (x0 % 2 ^ (i + 1)))), (3, .int (nI i)), (0, .ref (a 0)), (1, .int (nI r1))]) d_D_first_61 rfl (by decide) rfl ?_
      refine r_iinc (pc := 62) h (v := nI (i + 1)) (lv' := [(3, .int (nI (i + 1))), (2, .int (nI (x0 % 2 ^ (i + 1)))), (0, .ref (a 0)), (1, .int (nI r1))]) 1 d_D_first_62 rfl (nI_inc i) (by decide) rfl ?_
      refine r_goto (pc := 65) h (tgt := 42) d_D_first_65 (by decide) ?_
      exact ih
end CF
end
section
-- the reference: small methods, and those that write
/-- outside of 0 .. n - 1 -/
def noR (n : Nat) (x : Int32) : Prop := x < 0 ∨ nI n ≤ x
/-- one of 0 .. n - 1 -/
def okR (n : Nat) (x : Int32) : Prop := ∃ j : Nat, j < n ∧ x = nI j
theorem bI_1 (b : Bool) : bI b = nI 1 ↔ b = true := by cases b <;> decide
theorem bI_T {b : Bool} (h : ¬ bI b = 0) : b = true := by
  cases b
  · exact absurd ((bI_0 _).mpr rfl) h
  · rfl
theorem bI_F {b : Bool} (h : bI b = 0) : b = false := (bI_0 b).mp h
theorem cpy_z (f g : Nat → Bool) : va_cpy (fun x => bI (f x)) (fun x => bI (g x)) 0 0 1024 = fun x => bI (mix 1024 f g x) := by
  funext j
  unfold va_cpy mix
  by_cases h : j < 1024 <;> simp [h]
theorem i32_nle {x y : Int32} (h : ¬ x ≤ y) : y < x := by
  rw [Int32.le_iff_toInt_le] at h
  rw [Int32.lt_iff_toInt_lt]
  omega
section MS
variable {l : Launch} {G : gG} {ws : va_W}
theorem c_none_f (r : Nat) (hr0 : r < 16) : Ct l y_M_none (.code y_M_none b_M_none 1 (some .boolean) :: TT) (rmF 0 0) G [.int (nI r)] ws (some (.int (bI false))) ws := by
  refine ct_intro (cc := b_M_none) (nL := 1) (by decide) [(0, .int (nI r))] rfl (Nat.le_of_ble_eq_true rfl) ?_
  intro p e s m below meth c A h hr
  refine r_iload_n (pc := 0) h 0 d_M_none_0 rfl rfl ?_
  refine r_if_lt_f (pc := 1) h (tgt := 10) d_M_none_1 (by decide) (nI_pos (by omega)) ?_
  refine r_iload_n (pc := 4) h 0 d_M_none_4 rfl rfl ?_
  refine r_bipush (pc := 5) h (v := nI 15) d_M_none_5 (by decide) ?_
  refine r_icmp_le_t (pc := 7) h (tgt := 14) d_M_none_7 (by decide) (nI_le (by omega) (by decide)) ?_
  refine r_iconst (pc := 14) h (v := bI false) d_M_none_14 (by decide) ?_
  exact r_zret (pc := 15) h hr (bI_nrw _) d_M_none_15
theorem c_none_t (x : Int32) (hx : noR 16 x) : Ct l y_M_none (.code y_M_none b_M_none 1 (some .boolean) :: TT) (rmF 0 0) G [.int x] ws (some (.int (bI true))) ws := by
  refine ct_intro (cc := b_M_none) (nL := 1) (by decide) [(0, .int x)] rfl (Nat.le_of_ble_eq_true rfl) ?_
  intro p e s m below meth c A h hr
  refine r_iload_n (pc := 0) h 0 d_M_none_0 rfl rfl ?_
  refine r_if_lt (pc := 1) h (tgt := 10) d_M_none_1 (by decide) (fun q1 => ?_) (fun q1 => ?_)
  · refine r_iconst (pc := 10) h (v := bI true) d_M_none_10 (by decide) ?_
    refine r_goto (pc := 11) h (tgt := 15) d_M_none_11 (by decide) ?_
    exact r_zret (pc := 15) h hr (bI_nrw _) d_M_none_15
  · refine r_iload_n (pc := 4) h 0 d_M_none_4 rfl rfl ?_
    refine r_bipush (pc := 5) h (v := nI 15) d_M_none_5 (by decide) ?_
    refine r_icmp_le_f (pc := 7) h (tgt := 14) d_M_none_7 (by decide) (hx.elim (fun z => absurd z q1) (fun z => fun q => absurd (Int32.le_iff_toInt_le.mp z) (by have h9 := Int32.le_iff_toInt_le.mp q; rw [nI_toInt (by decide)] at h9 ⊢; omega))) ?_
    refine r_iconst (pc := 10) h (v := bI true) d_M_none_10 (by decide) ?_
    refine r_goto (pc := 11) h (tgt := 15) d_M_none_11 (by decide) ?_
    exact r_zret (pc := 15) h hr (bI_nrw _) d_M_none_15
theorem c_outside_f (r : Nat) (hr0 : r < 10) : Ct l y_M_outside (.code y_M_outside b_M_outside 1 (some .boolean) :: TT) (rmF 0 0) G [.int (nI r)] ws (some (.int (bI false))) ws := by
  refine ct_intro (cc := b_M_outside) (nL := 1) (by decide) [(0, .int (nI r))] rfl (Nat.le_of_ble_eq_true rfl) ?_
  intro p e s m below meth c A h hr
  refine r_iload_n (pc := 0) h 0 d_M_outside_0 rfl rfl ?_
  refine r_if_lt_f (pc := 1) h (tgt := 10) d_M_outside_1 (by decide) (nI_pos (by omega)) ?_
  refine r_iload_n (pc := 4) h 0 d_M_outside_4 rfl rfl ?_
  refine r_bipush (pc := 5) h (v := nI 9) d_M_outside_5 (by decide) ?_
  refine r_icmp_le_t (pc := 7) h (tgt := 14) d_M_outside_7 (by decide) (nI_le (by omega) (by decide)) ?_
  refine r_iconst (pc := 14) h (v := bI false) d_M_outside_14 (by decide) ?_
  exact r_zret (pc := 15) h hr (bI_nrw _) d_M_outside_15
theorem c_outside_t (x : Int32) (hx : noR 10 x) : Ct l y_M_outside (.code y_M_outside b_M_outside 1 (some .boolean) :: TT) (rmF 0 0) G [.int x] ws (some (.int (bI true))) ws := by
  refine ct_intro (cc := b_M_outside) (nL := 1) (by decide) [(0, .int x)] rfl (Nat.le_of_ble_eq_true rfl) ?_
  intro p e s m below meth c A h hr
  refine r_iload_n (pc := 0) h 0 d_M_outside_0 rfl rfl ?_
  refine r_if_lt (pc := 1) h (tgt := 10) d_M_outside_1 (by decide) (fun q1 => ?_) (fun q1 => ?_)
  · refine r_iconst (pc := 10) h (v := bI true) d_M_outside_10 (by decide) ?_
    refine r_goto (pc := 11) h (tgt := 15) d_M_outside_11 (by decide) ?_
    exact r_zret (pc := 15) h hr (bI_nrw _) d_M_outside_15
  · refine r_iload_n (pc := 4) h 0 d_M_outside_4 rfl rfl ?_
    refine r_bipush (pc := 5) h (v := nI 9) d_M_outside_5 (by decide) ?_
    refine r_icmp_le_f (pc := 7) h (tgt := 14) d_M_outside_7 (by decide) (hx.elim (fun z => absurd z q1) (fun z => fun q => absurd (Int32.le_iff_toInt_le.mp z) (by have h9 := Int32.le_iff_toInt_le.mp q; rw [nI_toInt (by decide)] at h9 ⊢; omega))) ?_
    refine r_iconst (pc := 10) h (v := bI true) d_M_outside_10 (by decide) ?_
    refine r_goto (pc := 11) h (tgt := 15) d_M_outside_11 (by decide) ?_
    exact r_zret (pc := 15) h hr (bI_nrw _) d_M_outside_15
theorem c_beyond_f (r : Nat) (hr0 : r < 1024) : Ct l y_M_beyond (.code y_M_beyond b_M_beyond 1 (some .boolean) :: TT) (rmF 0 0) G [.int (nI r)] ws (some (.int (bI false))) ws := by
  refine ct_intro (cc := b_M_beyond) (nL := 1) (by decide) [(0, .int (nI r))] rfl (Nat.le_of_ble_eq_true rfl) ?_
  intro p e s m below meth c A h hr
  refine r_iload_n (pc := 0) h 0 d_M_beyond_0 rfl rfl ?_
  refine r_if_lt_f (pc := 1) h (tgt := 11) d_M_beyond_1 (by decide) (nI_pos (by omega)) ?_
  refine r_iload_n (pc := 4) h 0 d_M_beyond_4 rfl rfl ?_
  refine r_sipush (pc := 5) h (v := nI 1024) d_M_beyond_5 (by decide) ?_
  refine r_icmp_lt_t (pc := 8) h (tgt := 15) d_M_beyond_8 (by decide) (nI_lt hr0 (by decide)) ?_
  refine r_iconst (pc := 15) h (v := bI false) d_M_beyond_15 (by decide) ?_
  exact r_zret (pc := 16) h hr (bI_nrw _) d_M_beyond_16
theorem c_beyond_t (x : Int32) (hx : noR 1024 x) : Ct l y_M_beyond (.code y_M_beyond b_M_beyond 1 (some .boolean) :: TT) (rmF 0 0) G [.int x] ws (some (.int (bI true))) ws := by
  refine ct_intro (cc := b_M_beyond) (nL := 1) (by decide) [(0, .int x)] rfl (Nat.le_of_ble_eq_true rfl) ?_
  intro p e s m below meth c A h hr
  refine r_iload_n (pc := 0) h 0 d_M_beyond_0 rfl rfl ?_
  refine r_if_lt (pc := 1) h (tgt := 11) d_M_beyond_1 (by decide) (fun q1 => ?_) (fun q1 => ?_)
  · refine r_iconst (pc := 11) h (v := bI true) d_M_beyond_11 (by decide) ?_
    refine r_goto (pc := 12) h (tgt := 16) d_M_beyond_12 (by decide) ?_
    exact r_zret (pc := 16) h hr (bI_nrw _) d_M_beyond_16
  · refine r_iload_n (pc := 4) h 0 d_M_beyond_4 rfl rfl ?_
    refine r_sipush (pc := 5) h (v := nI 1024) d_M_beyond_5 (by decide) ?_
    refine r_icmp_lt_f (pc := 8) h (tgt := 15) d_M_beyond_8 (by decide) (hx.elim (fun z => absurd z q1) (fun z => by rw [Int32.not_lt]; exact z)) ?_
    refine r_iconst (pc := 11) h (v := bI true) d_M_beyond_11 (by decide) ?_
    refine r_goto (pc := 12) h (tgt := 16) d_M_beyond_12 (by decide) ?_
    exact r_zret (pc := 16) h hr (bI_nrw _) d_M_beyond_16
end MS
section MP
variable {l : Launch} {G : gG} {b : Nat → Nat} {th : Int32} {rg : Nat → Nat → Bool} {wk : Nat → Bool} {fi fa : Nat → Int32}
theorem c_thrown  : Ct l y_M_thrown (.code y_M_thrown b_M_thrown 1 (some .int) :: TT) (rmF 0 0) G [.ref (b 0)] (mw G b th rg wk fi fa) (some (.int th)) (mw G b th rg wk fi fa) := by
  refine ct_intro (cc := b_M_thrown) (nL := 1) (by decide) [(0, .ref (b 0))] rfl (Nat.le_of_ble_eq_true rfl) ?_
  intro p e s m below meth c A h hr
  refine r_aload_n (pc := 0) h 0 d_M_thrown_0 rfl rfl ?_
  refine r_get (pc := 1) h 0 0 d_M_thrown_1 mw_0 rfl (by decide) in_M (List.mem_cons_of_mem _ w_353) rfl ?_
  exact r_iret (pc := 4) h hr d_M_thrown_4
theorem c_bad_true  : Ct l y_M_bad (.code y_M_bad b_M_bad 2 (some .boolean) :: TT) (rmF 0 0) G [.ref (b 0), .int (bI true)] (mw G b th rg wk fi fa) (some (.int (bI true))) (mw G b (bI true) rg wk fi fa) := by
  refine ct_intro (cc := b_M_bad) (nL := 2) (by decide) [(0, .ref (b 0)), (1, .int (bI true))] rfl (Nat.le_of_ble_eq_true rfl) ?_
  intro p e s m below meth c A h hr
  refine r_aload_n (pc := 0) h 0 d_M_bad_0 rfl rfl ?_
  refine r_iload_n (pc := 1) h 1 d_M_bad_1 rfl rfl ?_
  refine r_if_eq_f (pc := 2) h (tgt := 9) d_M_bad_2 (by decide) (by decide) ?_
  refine r_iconst (pc := 5) h (v := bI true) d_M_bad_5 (by decide) ?_
  refine r_goto (pc := 6) h (tgt := 10) d_M_bad_6 (by decide) ?_
  refine r_put (pc := 10) h 0 0 (ty := .int) (ws' := (mw G b (bI true) rg wk fi fa)) t_M t_M_ok n_M d_M_bad_10 mw_0 rfl (by decide) in_M (List.mem_cons_of_mem _ w_353) rfl (by decide +kernel) rfl rfl (Nat.le_of_ble_eq_true rfl) mw_s0 ?_
  refine r_iload_n (pc := 13) h 1 d_M_bad_13 rfl rfl ?_
  exact r_zret (pc := 14) h hr (bI_nrw _) d_M_bad_14
theorem c_bad_false  : Ct l y_M_bad (.code y_M_bad b_M_bad 2 (some .boolean) :: TT) (rmF 0 0) G [.ref (b 0), .int (bI false)] (mw G b th rg wk fi fa) (some (.int (bI false))) (mw G b (bI false) rg wk fi fa) := by
  refine ct_intro (cc := b_M_bad) (nL := 2) (by decide) [(0, .ref (b 0)), (1, .int (bI false))] rfl (Nat.le_of_ble_eq_true rfl) ?_
  intro p e s m below meth c A h hr
  refine r_aload_n (pc := 0) h 0 d_M_bad_0 rfl rfl ?_
  refine r_iload_n (pc := 1) h 1 d_M_bad_1 rfl rfl ?_
  refine r_if_eq_t (pc := 2) h (tgt := 9) d_M_bad_2 (by decide) rfl ?_
  refine r_iconst (pc := 9) h (v := bI false) d_M_bad_9 (by decide) ?_
  refine r_put (pc := 10) h 0 0 (ty := .int) (ws' := (mw G b (bI false) rg wk fi fa)) t_M t_M_ok n_M d_M_bad_10 mw_0 rfl (by decide) in_M (List.mem_cons_of_mem _ w_353) rfl (by decide +kernel) rfl rfl (Nat.le_of_ble_eq_true rfl) mw_s0 ?_
  refine r_iload_n (pc := 13) h 1 d_M_bad_13 rfl rfl ?_
  exact r_zret (pc := 14) h hr (bI_nrw _) d_M_bad_14
theorem c_keep (t : Nat) (ht : t < 16) : Ct l y_M_keep (.code y_M_keep b_M_keep 2 none :: TT) (rmF 1 40) G [.ref (b 0), .int (nI t)] (mw G b th rg wk fi fa) none (mw G b th (va_up rg t (mix 1024 wk (rg t))) wk fi fa) := by
  refine ct_intro (cc := b_M_keep) (nL := 2) (by decide) [(0, .ref (b 0)), (1, .int (nI t))] rfl (Nat.le_of_ble_eq_true rfl) ?_
  intro p e s m below meth c A h hr
  refine r_aload_n (pc := 0) h 0 d_M_keep_0 rfl rfl ?_
  refine r_get (pc := 1) h 0 2 d_M_keep_1 mw_0 rfl (by decide) in_M (List.mem_cons_of_mem _ w_355) rfl ?_
  refine r_iconst (pc := 4) h (v := 0) d_M_keep_4 (by decide) ?_
  refine r_aload_n (pc := 5) h 0 d_M_keep_5 rfl rfl ?_
  refine r_get (pc := 6) h 0 1 d_M_keep_6 mw_0 rfl (by decide) in_M (List.mem_cons_of_mem _ w_354) rfl ?_
  refine r_iload_n (pc := 9) h 1 d_M_keep_9 rfl rfl ?_
  refine r_aaload (pc := 10) h 1 4 t d_M_keep_10 mw_1 rfl rfl rfl ht (by decide) (mw_o ht) ?_
  refine r_iconst (pc := 11) h (v := 0) d_M_keep_11 (by decide) ?_
  refine r_sipush (pc := 12) h (v := nI 1024) d_M_keep_12 (by decide) ?_
  refine r_copyz (pc := 15) h 2 (5 + t) (ws' := (mw G b th (va_up rg t (mix 1024 wk (rg t))) wk fi fa)) 1024 d_M_keep_15 (List.mem_cons_of_mem _ w_403) (List.mem_cons_of_mem _ w_203) (List.mem_cons_of_mem _ w_202) (List.mem_cons_of_mem _ w_9) mw_2 (mw_r ht) rfl rfl rfl (by decide) (by decide) (by decide) (fun i _ => bI_fit _) (Nat.le_of_ble_eq_true rfl) (Nat.le_of_ble_eq_true rfl) (by rw [cpy_z]; exact mw_sr) ?_
  exact r_vret (pc := 18) h hr d_M_keep_18
theorem mw_st {t i : Nat} {g : Nat → Bool} : (mw G b th (va_up rg t (mix i g (rg t))) wk fi fa).set (5 + t) (b (5 + t), .inl (G.2 2, 1024, .inl (upd (fun x => bI (va_up rg t (mix i g (rg t)) t x)) i (bI (g i))))) = mw G b th (va_up rg t (mix (i + 1) g (rg t))) wk fi fa := by
  rw [upd_b]
  refine mw_sr.trans ?_
  rw [va_up_s, mix_up, va_up2]
theorem mw_en {t : Nat} {g : Nat → Bool} : mw G b th rg wk fi fa = mw G b th (va_up rg t (mix 0 g (rg t))) wk fi fa := by rw [mix_0, va_up_id]
theorem m_variable (t : Nat) (ht : t < 16) (v : Nat) (hv : v < 10) : Ct l y_M_variable (.code y_M_variable b_M_variable 4 none :: TT) (rmF 1 21) G [.ref (b 0), .int (nI t), .int (nI v)] (mw G b th rg wk fi fa) none (mw G b (bI false) (va_up rg t (mix 1024 (fun x => x.testBit v) (rg t))) wk fi fa) := by
  refine ct_intro (cc := b_M_variable) (nL := 4) (by decide) [(0, .ref (b 0)), (1, .int (nI t)), (2, .int (nI v))] rfl (Nat.le_of_ble_eq_true rfl) ?_
  intro p e s m below meth c A h hr
  refine r_aload_n (pc := 0) h 0 d_M_variable_0 rfl rfl ?_
  refine r_iload_n (pc := 1) h 1 d_M_variable_1 rfl rfl ?_
  refine r_invSa (pc := 2) h (st := [.ref (b 0)]) d_M_variable_2 (c_none_f t ht) (r_cS h wc_M_none w_378 w_3 w_379 hd_M_none ⟨(Nat.le_of_ble_eq_true rfl), (Nat.le_of_ble_eq_true rfl)⟩ rfl rfl) rfl rfl (Nat.le_of_ble_eq_true rfl) ⟨(Nat.le_of_ble_eq_true rfl), (Nat.le_of_ble_eq_true rfl)⟩ rfl ?_
  refine r_if_ne_f (pc := 5) h (tgt := 15) d_M_variable_5 (by decide) rfl ?_
  refine r_iload_n (pc := 8) h 2 d_M_variable_8 rfl rfl ?_
  refine r_invSa (pc := 9) h (st := [.ref (b 0)]) d_M_variable_9 (c_outside_f v hv) (r_cS h wc_M_outside w_381 w_3 w_382 hd_M_outside ⟨(Nat.le_of_ble_eq_true rfl), (Nat.le_of_ble_eq_true rfl)⟩ rfl rfl) rfl rfl (Nat.le_of_ble_eq_true rfl) ⟨(Nat.le_of_ble_eq_true rfl), (Nat.le_of_ble_eq_true rfl)⟩ rfl ?_
  refine r_if_eq_t (pc := 12) h (tgt := 19) d_M_variable_12 (by decide) rfl ?_
  refine r_iconst (pc := 19) h (v := bI false) d_M_variable_19 (by decide) ?_
  refine r_invVa (pc := 20) h 0 (st := []) d_M_variable_20 c_bad_false (r_cV h wc_M_bad w_384 w_3 w_386 (TT_se (q := (y_M_bad, 5)) 10 rfl) hd_M_bad ⟨(Nat.le_of_ble_eq_true rfl), (Nat.le_of_ble_eq_true rfl)⟩ rfl rfl) mw_0 rfl rfl rfl (Nat.le_of_ble_eq_true rfl) ⟨(Nat.le_of_ble_eq_true rfl), (Nat.le_of_ble_eq_true rfl)⟩ mw_adr ?_
  refine r_if_eq_t (pc := 23) h (tgt := 27) d_M_variable_23 (by decide) rfl ?_
  refine r_iconst (pc := 27) h (v := nI 0) d_M_variable_27 (by decide) ?_
  refine r_istore_n (pc := 28) h (lv' := [(3, .int (nI 0)), (0, .ref (b 0)), (1, .int (nI t)), (2, .int (nI v))]) d_M_variable_28 rfl (by decide) rfl ?_
  refine Wv.wld (ws' := (mw G b (bI false) (va_up rg t (mix 0 (fun x => x.testBit v) (rg t))) wk fi fa)) mw_en ?_
  refine Wv.loop 1024 (fun i => (mw G b (bI false) (va_up rg t (mix i (fun x => x.testBit v) (rg t))) wk fi fa)) (fun i => [(3, .int (nI i)), (0, .ref (b 0)), (1, .int (nI t)), (2, .int (nI v))]) ?_ ?_
  · show Wv p l e _ s m _ below meth c G A _ _ _ _ (mw G b (bI false) (va_up rg t (mix 1024 (fun x => x.testBit v) (rg t))) wk fi fa) 29 [(3, .int (nI 1024)), (0, .ref (b 0)), (1, .int (nI t)), (2, .int (nI v))] []
    refine r_iload_n (pc := 29) h 0 d_M_variable_29 rfl rfl ?_
    refine r_sipush (pc := 30) h (v := nI 1024) d_M_variable_30 (by decide) ?_
    refine r_icmp_ge_t (pc := 33) h (tgt := 64) d_M_variable_33 (by decide) (nI_le (Nat.le_refl _) (by decide)) ?_
    exact r_vret (pc := 64) h hr d_M_variable_64
  · intro i hi ih
    have ih : Wv p l e _ s m _ below meth c G A _ _ _ _ (mw G b (bI false) (va_up rg t (mix (i + 1) (fun x => x.testBit v) (rg t))) wk fi fa) 29 [(3, .int (nI (i + 1))), (0, .ref (b 0)), (1, .int (nI t)), (2, .int (nI v))] [] := ih
    show Wv p l e _ s m _ below meth c G A _ _ _ _ (mw G b (bI false) (va_up rg t (mix i (fun x => x.testBit v) (rg t))) wk fi fa) 29 [(3, .int (nI i)), (0, .ref (b 0)), (1, .int (nI t)), (2, .int (nI v))] []
    refine r_iload_n (pc := 29) h 0 d_M_variable_29 rfl rfl ?_
    refine r_sipush (pc := 30) h (v := nI 1024) d_M_variable_30 (by decide) ?_
    refine r_icmp_ge_f (pc := 33) h (tgt := 64) d_M_variable_33 (by decide) (nI_ge hi (by decide)) ?_
    refine r_aload_n (pc := 36) h 1 d_M_variable_36 rfl rfl ?_
    refine r_get (pc := 37) h 0 1 d_M_variable_37 mw_0 rfl (by decide) in_M (List.mem_cons_of_mem _ w_354) rfl ?_
    refine r_iload_n (pc := 40) h 2 d_M_variable_40 rfl rfl ?_
    refine r_aaload (pc := 41) h 1 4 t d_M_variable_41 mw_1 rfl rfl rfl ht (by decide) (mw_o ht) ?_
    refine r_iload_n (pc := 42) h 0 d_M_variable_42 rfl rfl ?_
    refine r_iload_n (pc := 43) h 0 d_M_variable_43 rfl rfl ?_
    refine r_iload_n (pc := 44) h 3 d_M_variable_44 rfl rfl ?_
    refine r_ishr (pc := 45) h (z := (nI i) >>> ((nI v) &&& 31)) d_M_variable_45 rfl ?_
    refine r_iconst (pc := 46) h (v := nI 1) d_M_variable_46 (by decide) ?_
    refine r_iand (pc := 47) h (z := bI (i.testBit v)) d_M_variable_47 (nx_bit (by omega) (by omega)) ?_
    refine r_iconst (pc := 48) h (v := nI 1) d_M_variable_48 (by decide) ?_
    refine r_icmp_ne (pc := 49) h (tgt := 56) d_M_variable_49 (by decide) (fun q49 => ?_) (fun q49 => ?_)
    · refine r_iconst (pc := 56) h (v := bI (i.testBit v)) d_M_variable_56 (by cases h9 : i.testBit v; decide; exact absurd ((bI_1 _).mpr h9) q49) ?_
      refine r_bastore (pc := 57) h (5 + t) (ws' := (mw G b (bI false) (va_up rg t (mix (i + 1) (fun x => x.testBit v) (rg t))) wk fi fa)) i d_M_variable_57 (mw_r ht) rfl hi (by decide) (bI_nar _) (mw_st (g := (fun x => x.testBit v))) ?_
      refine r_iinc (pc := 58) h (v := nI (i + 1)) (lv' := [(3, .int (nI (i + 1))), (0, .ref (b 0)), (1, .int (nI t)), (2, .int (nI v))]) 0 d_M_variable_58 rfl (nI_inc i) (by decide) rfl ?_
      refine r_goto (pc := 61) h (tgt := 29) d_M_variable_61 (by decide) ?_
      exact ih
    · refine r_iconst (pc := 52) h (v := bI (i.testBit v)) d_M_variable_52 (by rw [(bI_1 _).mp q49]; decide) ?_
      refine r_goto (pc := 53) h (tgt := 57) d_M_variable_53 (by decide) ?_
      refine r_bastore (pc := 57) h (5 + t) (ws' := (mw G b (bI false) (va_up rg t (mix (i + 1) (fun x => x.testBit v) (rg t))) wk fi fa)) i d_M_variable_57 (mw_r ht) rfl hi (by decide) (bI_nar _) (mw_st (g := (fun x => x.testBit v))) ?_
      refine r_iinc (pc := 58) h (v := nI (i + 1)) (lv' := [(3, .int (nI (i + 1))), (0, .ref (b 0)), (1, .int (nI t)), (2, .int (nI v))]) 0 d_M_variable_58 rfl (nI_inc i) (by decide) rfl ?_
      refine r_goto (pc := 61) h (tgt := 29) d_M_variable_61 (by decide) ?_
      exact ih
theorem x_variable (t v : Int32)  (hB : ¬ (okR 16 t ∧ okR 10 v)) : Ct l y_M_variable (.code y_M_variable b_M_variable 4 none :: TT) (rmF 1 21) G [.ref (b 0), .int t, .int v] (mw G b th rg wk fi fa) none (mw G b (bI true) rg wk fi fa) := by
  refine ct_intro (cc := b_M_variable) (nL := 4) (by decide) [(0, .ref (b 0)), (1, .int t), (2, .int v)] rfl (Nat.le_of_ble_eq_true rfl) ?_
  intro p e s m below meth c A h hr
  refine r_aload_n (pc := 0) h 0 d_M_variable_0 rfl rfl ?_
  refine r_iload_n (pc := 1) h 1 d_M_variable_1 rfl rfl ?_
  rcases pk_ix t (n := 16) (by decide) with hN | hN | ⟨j2, hj2, hN2⟩
  · refine r_invSa (pc := 2) h (st := [.ref (b 0)]) d_M_variable_2 (c_none_t t (Or.inl hN)) (r_cS h wc_M_none w_378 w_3 w_379 hd_M_none ⟨(Nat.le_of_ble_eq_true rfl), (Nat.le_of_ble_eq_true rfl)⟩ rfl rfl) rfl rfl (Nat.le_of_ble_eq_true rfl) ⟨(Nat.le_of_ble_eq_true rfl), (Nat.le_of_ble_eq_true rfl)⟩ rfl ?_
    refine r_if_ne_t (pc := 5) h (tgt := 15) d_M_variable_5 (by decide) (by decide) ?_
    refine r_iconst (pc := 15) h (v := bI true) d_M_variable_15 (by decide) ?_
    refine r_goto (pc := 16) h (tgt := 20) d_M_variable_16 (by decide) ?_
    refine r_invVa (pc := 20) h 0 (st := []) d_M_variable_20 c_bad_true (r_cV h wc_M_bad w_384 w_3 w_386 (TT_se (q := (y_M_bad, 5)) 10 rfl) hd_M_bad ⟨(Nat.le_of_ble_eq_true rfl), (Nat.le_of_ble_eq_true rfl)⟩ rfl rfl) mw_0 rfl rfl rfl (Nat.le_of_ble_eq_true rfl) ⟨(Nat.le_of_ble_eq_true rfl), (Nat.le_of_ble_eq_true rfl)⟩ mw_adr ?_
    refine r_if_eq_f (pc := 23) h (tgt := 27) d_M_variable_23 (by decide) (by decide) ?_
    exact r_vret (pc := 26) h hr d_M_variable_26
  · refine r_invSa (pc := 2) h (st := [.ref (b 0)]) d_M_variable_2 (c_none_t t (Or.inr hN)) (r_cS h wc_M_none w_378 w_3 w_379 hd_M_none ⟨(Nat.le_of_ble_eq_true rfl), (Nat.le_of_ble_eq_true rfl)⟩ rfl rfl) rfl rfl (Nat.le_of_ble_eq_true rfl) ⟨(Nat.le_of_ble_eq_true rfl), (Nat.le_of_ble_eq_true rfl)⟩ rfl ?_
    refine r_if_ne_t (pc := 5) h (tgt := 15) d_M_variable_5 (by decide) (by decide) ?_
    refine r_iconst (pc := 15) h (v := bI true) d_M_variable_15 (by decide) ?_
    refine r_goto (pc := 16) h (tgt := 20) d_M_variable_16 (by decide) ?_
    refine r_invVa (pc := 20) h 0 (st := []) d_M_variable_20 c_bad_true (r_cV h wc_M_bad w_384 w_3 w_386 (TT_se (q := (y_M_bad, 5)) 10 rfl) hd_M_bad ⟨(Nat.le_of_ble_eq_true rfl), (Nat.le_of_ble_eq_true rfl)⟩ rfl rfl) mw_0 rfl rfl rfl (Nat.le_of_ble_eq_true rfl) ⟨(Nat.le_of_ble_eq_true rfl), (Nat.le_of_ble_eq_true rfl)⟩ mw_adr ?_
    refine r_if_eq_f (pc := 23) h (tgt := 27) d_M_variable_23 (by decide) (by decide) ?_
    exact r_vret (pc := 26) h hr d_M_variable_26
  · subst hN2
    refine r_invSa (pc := 2) h (st := [.ref (b 0)]) d_M_variable_2 (c_none_f j2 hj2) (r_cS h wc_M_none w_378 w_3 w_379 hd_M_none ⟨(Nat.le_of_ble_eq_true rfl), (Nat.le_of_ble_eq_true rfl)⟩ rfl rfl) rfl rfl (Nat.le_of_ble_eq_true rfl) ⟨(Nat.le_of_ble_eq_true rfl), (Nat.le_of_ble_eq_true rfl)⟩ rfl ?_
    refine r_if_ne_f (pc := 5) h (tgt := 15) d_M_variable_5 (by decide) rfl ?_
    refine r_iload_n (pc := 8) h 2 d_M_variable_8 rfl rfl ?_
    rcases pk_ix v (n := 10) (by decide) with hN | hN | ⟨j9, hj9, hN9⟩
    · refine r_invSa (pc := 9) h (st := [.ref (b 0)]) d_M_variable_9 (c_outside_t v (Or.inl hN)) (r_cS h wc_M_outside w_381 w_3 w_382 hd_M_outside ⟨(Nat.le_of_ble_eq_true rfl), (Nat.le_of_ble_eq_true rfl)⟩ rfl rfl) rfl rfl (Nat.le_of_ble_eq_true rfl) ⟨(Nat.le_of_ble_eq_true rfl), (Nat.le_of_ble_eq_true rfl)⟩ rfl ?_
      refine r_if_eq_f (pc := 12) h (tgt := 19) d_M_variable_12 (by decide) (by decide) ?_
      refine r_iconst (pc := 15) h (v := bI true) d_M_variable_15 (by decide) ?_
      refine r_goto (pc := 16) h (tgt := 20) d_M_variable_16 (by decide) ?_
      refine r_invVa (pc := 20) h 0 (st := []) d_M_variable_20 c_bad_true (r_cV h wc_M_bad w_384 w_3 w_386 (TT_se (q := (y_M_bad, 5)) 10 rfl) hd_M_bad ⟨(Nat.le_of_ble_eq_true rfl), (Nat.le_of_ble_eq_true rfl)⟩ rfl rfl) mw_0 rfl rfl rfl (Nat.le_of_ble_eq_true rfl) ⟨(Nat.le_of_ble_eq_true rfl), (Nat.le_of_ble_eq_true rfl)⟩ mw_adr ?_
      refine r_if_eq_f (pc := 23) h (tgt := 27) d_M_variable_23 (by decide) (by decide) ?_
      exact r_vret (pc := 26) h hr d_M_variable_26
    · refine r_invSa (pc := 9) h (st := [.ref (b 0)]) d_M_variable_9 (c_outside_t v (Or.inr hN)) (r_cS h wc_M_outside w_381 w_3 w_382 hd_M_outside ⟨(Nat.le_of_ble_eq_true rfl), (Nat.le_of_ble_eq_true rfl)⟩ rfl rfl) rfl rfl (Nat.le_of_ble_eq_true rfl) ⟨(Nat.le_of_ble_eq_true rfl), (Nat.le_of_ble_eq_true rfl)⟩ rfl ?_
      refine r_if_eq_f (pc := 12) h (tgt := 19) d_M_variable_12 (by decide) (by decide) ?_
      refine r_iconst (pc := 15) h (v := bI true) d_M_variable_15 (by decide) ?_
      refine r_goto (pc := 16) h (tgt := 20) d_M_variable_16 (by decide) ?_
      refine r_invVa (pc := 20) h 0 (st := []) d_M_variable_20 c_bad_true (r_cV h wc_M_bad w_384 w_3 w_386 (TT_se (q := (y_M_bad, 5)) 10 rfl) hd_M_bad ⟨(Nat.le_of_ble_eq_true rfl), (Nat.le_of_ble_eq_true rfl)⟩ rfl rfl) mw_0 rfl rfl rfl (Nat.le_of_ble_eq_true rfl) ⟨(Nat.le_of_ble_eq_true rfl), (Nat.le_of_ble_eq_true rfl)⟩ mw_adr ?_
      refine r_if_eq_f (pc := 23) h (tgt := 27) d_M_variable_23 (by decide) (by decide) ?_
      exact r_vret (pc := 26) h hr d_M_variable_26
    · exfalso
      exact hB ⟨⟨j2, hj2, rfl⟩, ⟨j9, hj9, hN9⟩⟩
noncomputable def eqB (x : Nat) (y : Nat) : Bool := bD (y = x)
theorem m_only (t : Nat) (ht : t < 16) (x : Nat) (hx : x < 1024) : Ct l y_M_only (.code y_M_only b_M_only 4 none :: TT) (rmF 1 21) G [.ref (b 0), .int (nI t), .int (nI x)] (mw G b th rg wk fi fa) none (mw G b (bI false) (va_up rg t (mix 1024 (eqB x) (rg t))) wk fi fa) := by
  refine ct_intro (cc := b_M_only) (nL := 4) (by decide) [(0, .ref (b 0)), (1, .int (nI t)), (2, .int (nI x))] rfl (Nat.le_of_ble_eq_true rfl) ?_
  intro p e s m below meth c A h hr
  refine r_aload_n (pc := 0) h 0 d_M_only_0 rfl rfl ?_
  refine r_iload_n (pc := 1) h 1 d_M_only_1 rfl rfl ?_
  refine r_invSa (pc := 2) h (st := [.ref (b 0)]) d_M_only_2 (c_none_f t ht) (r_cS h wc_M_none w_378 w_3 w_379 hd_M_none ⟨(Nat.le_of_ble_eq_true rfl), (Nat.le_of_ble_eq_true rfl)⟩ rfl rfl) rfl rfl (Nat.le_of_ble_eq_true rfl) ⟨(Nat.le_of_ble_eq_true rfl), (Nat.le_of_ble_eq_true rfl)⟩ rfl ?_
  refine r_if_ne_f (pc := 5) h (tgt := 15) d_M_only_5 (by decide) rfl ?_
  refine r_iload_n (pc := 8) h 2 d_M_only_8 rfl rfl ?_
  refine r_invSa (pc := 9) h (st := [.ref (b 0)]) d_M_only_9 (c_beyond_f x hx) (r_cS h wc_M_beyond w_392 w_3 w_393 hd_M_beyond ⟨(Nat.le_of_ble_eq_true rfl), (Nat.le_of_ble_eq_true rfl)⟩ rfl rfl) rfl rfl (Nat.le_of_ble_eq_true rfl) ⟨(Nat.le_of_ble_eq_true rfl), (Nat.le_of_ble_eq_true rfl)⟩ rfl ?_
  refine r_if_eq_t (pc := 12) h (tgt := 19) d_M_only_12 (by decide) rfl ?_
  refine r_iconst (pc := 19) h (v := bI false) d_M_only_19 (by decide) ?_
  refine r_invVa (pc := 20) h 0 (st := []) d_M_only_20 c_bad_false (r_cV h wc_M_bad w_384 w_3 w_386 (TT_se (q := (y_M_bad, 5)) 10 rfl) hd_M_bad ⟨(Nat.le_of_ble_eq_true rfl), (Nat.le_of_ble_eq_true rfl)⟩ rfl rfl) mw_0 rfl rfl rfl (Nat.le_of_ble_eq_true rfl) ⟨(Nat.le_of_ble_eq_true rfl), (Nat.le_of_ble_eq_true rfl)⟩ mw_adr ?_
  refine r_if_eq_t (pc := 23) h (tgt := 27) d_M_only_23 (by decide) rfl ?_
  refine r_iconst (pc := 27) h (v := nI 0) d_M_only_27 (by decide) ?_
  refine r_istore_n (pc := 28) h (lv' := [(3, .int (nI 0)), (0, .ref (b 0)), (1, .int (nI t)), (2, .int (nI x))]) d_M_only_28 rfl (by decide) rfl ?_
  refine Wv.wld (ws' := (mw G b (bI false) (va_up rg t (mix 0 (eqB x) (rg t))) wk fi fa)) mw_en ?_
  refine Wv.loop 1024 (fun i => (mw G b (bI false) (va_up rg t (mix i (eqB x) (rg t))) wk fi fa)) (fun i => [(3, .int (nI i)), (0, .ref (b 0)), (1, .int (nI t)), (2, .int (nI x))]) ?_ ?_
  · show Wv p l e _ s m _ below meth c G A _ _ _ _ (mw G b (bI false) (va_up rg t (mix 1024 (eqB x) (rg t))) wk fi fa) 29 [(3, .int (nI 1024)), (0, .ref (b 0)), (1, .int (nI t)), (2, .int (nI x))] []
    refine r_iload_n (pc := 29) h 0 d_M_only_29 rfl rfl ?_
    refine r_sipush (pc := 30) h (v := nI 1024) d_M_only_30 (by decide) ?_
    refine r_icmp_ge_t (pc := 33) h (tgt := 60) d_M_only_33 (by decide) (nI_le (Nat.le_refl _) (by decide)) ?_
    exact r_vret (pc := 60) h hr d_M_only_60
  · intro i hi ih
    have ih : Wv p l e _ s m _ below meth c G A _ _ _ _ (mw G b (bI false) (va_up rg t (mix (i + 1) (eqB x) (rg t))) wk fi fa) 29 [(3, .int (nI (i + 1))), (0, .ref (b 0)), (1, .int (nI t)), (2, .int (nI x))] [] := ih
    show Wv p l e _ s m _ below meth c G A _ _ _ _ (mw G b (bI false) (va_up rg t (mix i (eqB x) (rg t))) wk fi fa) 29 [(3, .int (nI i)), (0, .ref (b 0)), (1, .int (nI t)), (2, .int (nI x))] []
    refine r_iload_n (pc := 29) h 0 d_M_only_29 rfl rfl ?_
    refine r_sipush (pc := 30) h (v := nI 1024) d_M_only_30 (by decide) ?_
    refine r_icmp_ge_f (pc := 33) h (tgt := 60) d_M_only_33 (by decide) (nI_ge hi (by decide)) ?_
    refine r_aload_n (pc := 36) h 1 d_M_only_36 rfl rfl ?_
    refine r_get (pc := 37) h 0 1 d_M_only_37 mw_0 rfl (by decide) in_M (List.mem_cons_of_mem _ w_354) rfl ?_
    refine r_iload_n (pc := 40) h 2 d_M_only_40 rfl rfl ?_
    refine r_aaload (pc := 41) h 1 4 t d_M_only_41 mw_1 rfl rfl rfl ht (by decide) (mw_o ht) ?_
    refine r_iload_n (pc := 42) h 0 d_M_only_42 rfl rfl ?_
    refine r_iload_n (pc := 43) h 0 d_M_only_43 rfl rfl ?_
    refine r_iload_n (pc := 44) h 3 d_M_only_44 rfl rfl ?_
    refine r_icmp_ne (pc := 45) h (tgt := 52) d_M_only_45 (by decide) (fun q45 => ?_) (fun q45 => ?_)
    · refine r_iconst (pc := 52) h (v := bI (eqB x i)) d_M_only_52 (by rw [show eqB x i = false from bD_f (fun z => q45 (by rw [z]))]; decide) ?_
      refine r_bastore (pc := 53) h (5 + t) (ws' := (mw G b (bI false) (va_up rg t (mix (i + 1) (eqB x) (rg t))) wk fi fa)) i d_M_only_53 (mw_r ht) rfl hi (by decide) (bI_nar _) (mw_st (g := (eqB x))) ?_
      refine r_iinc (pc := 54) h (v := nI (i + 1)) (lv' := [(3, .int (nI (i + 1))), (0, .ref (b 0)), (1, .int (nI t)), (2, .int (nI x))]) 0 d_M_only_54 rfl (nI_inc i) (by decide) rfl ?_
      refine r_goto (pc := 57) h (tgt := 29) d_M_only_57 (by decide) ?_
      exact ih
    · refine r_iconst (pc := 48) h (v := bI (eqB x i)) d_M_only_48 (by rw [show eqB x i = true from bD_t ((nI_eq (by omega) (by omega)).mp q45)]; decide) ?_
      refine r_goto (pc := 49) h (tgt := 53) d_M_only_49 (by decide) ?_
      refine r_bastore (pc := 53) h (5 + t) (ws' := (mw G b (bI false) (va_up rg t (mix (i + 1) (eqB x) (rg t))) wk fi fa)) i d_M_only_53 (mw_r ht) rfl hi (by decide) (bI_nar _) (mw_st (g := (eqB x))) ?_
      refine r_iinc (pc := 54) h (v := nI (i + 1)) (lv' := [(3, .int (nI (i + 1))), (0, .ref (b 0)), (1, .int (nI t)), (2, .int (nI x))]) 0 d_M_only_54 rfl (nI_inc i) (by decide) rfl ?_
      refine r_goto (pc := 57) h (tgt := 29) d_M_only_57 (by decide) ?_
      exact ih
theorem x_only (t x : Int32)  (hB : ¬ (okR 16 t ∧ okR 1024 x)) : Ct l y_M_only (.code y_M_only b_M_only 4 none :: TT) (rmF 1 21) G [.ref (b 0), .int t, .int x] (mw G b th rg wk fi fa) none (mw G b (bI true) rg wk fi fa) := by
  refine ct_intro (cc := b_M_only) (nL := 4) (by decide) [(0, .ref (b 0)), (1, .int t), (2, .int x)] rfl (Nat.le_of_ble_eq_true rfl) ?_
  intro p e s m below meth c A h hr
  refine r_aload_n (pc := 0) h 0 d_M_only_0 rfl rfl ?_
  refine r_iload_n (pc := 1) h 1 d_M_only_1 rfl rfl ?_
  rcases pk_ix t (n := 16) (by decide) with hN | hN | ⟨j2, hj2, hN2⟩
  · refine r_invSa (pc := 2) h (st := [.ref (b 0)]) d_M_only_2 (c_none_t t (Or.inl hN)) (r_cS h wc_M_none w_378 w_3 w_379 hd_M_none ⟨(Nat.le_of_ble_eq_true rfl), (Nat.le_of_ble_eq_true rfl)⟩ rfl rfl) rfl rfl (Nat.le_of_ble_eq_true rfl) ⟨(Nat.le_of_ble_eq_true rfl), (Nat.le_of_ble_eq_true rfl)⟩ rfl ?_
    refine r_if_ne_t (pc := 5) h (tgt := 15) d_M_only_5 (by decide) (by decide) ?_
    refine r_iconst (pc := 15) h (v := bI true) d_M_only_15 (by decide) ?_
    refine r_goto (pc := 16) h (tgt := 20) d_M_only_16 (by decide) ?_
    refine r_invVa (pc := 20) h 0 (st := []) d_M_only_20 c_bad_true (r_cV h wc_M_bad w_384 w_3 w_386 (TT_se (q := (y_M_bad, 5)) 10 rfl) hd_M_bad ⟨(Nat.le_of_ble_eq_true rfl), (Nat.le_of_ble_eq_true rfl)⟩ rfl rfl) mw_0 rfl rfl rfl (Nat.le_of_ble_eq_true rfl) ⟨(Nat.le_of_ble_eq_true rfl), (Nat.le_of_ble_eq_true rfl)⟩ mw_adr ?_
    refine r_if_eq_f (pc := 23) h (tgt := 27) d_M_only_23 (by decide) (by decide) ?_
    exact r_vret (pc := 26) h hr d_M_only_26
  · refine r_invSa (pc := 2) h (st := [.ref (b 0)]) d_M_only_2 (c_none_t t (Or.inr hN)) (r_cS h wc_M_none w_378 w_3 w_379 hd_M_none ⟨(Nat.le_of_ble_eq_true rfl), (Nat.le_of_ble_eq_true rfl)⟩ rfl rfl) rfl rfl (Nat.le_of_ble_eq_true rfl) ⟨(Nat.le_of_ble_eq_true rfl), (Nat.le_of_ble_eq_true rfl)⟩ rfl ?_
    refine r_if_ne_t (pc := 5) h (tgt := 15) d_M_only_5 (by decide) (by decide) ?_
    refine r_iconst (pc := 15) h (v := bI true) d_M_only_15 (by decide) ?_
    refine r_goto (pc := 16) h (tgt := 20) d_M_only_16 (by decide) ?_
    refine r_invVa (pc := 20) h 0 (st := []) d_M_only_20 c_bad_true (r_cV h wc_M_bad w_384 w_3 w_386 (TT_se (q := (y_M_bad, 5)) 10 rfl) hd_M_bad ⟨(Nat.le_of_ble_eq_true rfl), (Nat.le_of_ble_eq_true rfl)⟩ rfl rfl) mw_0 rfl rfl rfl (Nat.le_of_ble_eq_true rfl) ⟨(Nat.le_of_ble_eq_true rfl), (Nat.le_of_ble_eq_true rfl)⟩ mw_adr ?_
    refine r_if_eq_f (pc := 23) h (tgt := 27) d_M_only_23 (by decide) (by decide) ?_
    exact r_vret (pc := 26) h hr d_M_only_26
  · subst hN2
    refine r_invSa (pc := 2) h (st := [.ref (b 0)]) d_M_only_2 (c_none_f j2 hj2) (r_cS h wc_M_none w_378 w_3 w_379 hd_M_none ⟨(Nat.le_of_ble_eq_true rfl), (Nat.le_of_ble_eq_true rfl)⟩ rfl rfl) rfl rfl (Nat.le_of_ble_eq_true rfl) ⟨(Nat.le_of_ble_eq_true rfl), (Nat.le_of_ble_eq_true rfl)⟩ rfl ?_
    refine r_if_ne_f (pc := 5) h (tgt := 15) d_M_only_5 (by decide) rfl ?_
    refine r_iload_n (pc := 8) h 2 d_M_only_8 rfl rfl ?_
    rcases pk_ix x (n := 1024) (by decide) with hN | hN | ⟨j9, hj9, hN9⟩
    · refine r_invSa (pc := 9) h (st := [.ref (b 0)]) d_M_only_9 (c_beyond_t x (Or.inl hN)) (r_cS h wc_M_beyond w_392 w_3 w_393 hd_M_beyond ⟨(Nat.le_of_ble_eq_true rfl), (Nat.le_of_ble_eq_true rfl)⟩ rfl rfl) rfl rfl (Nat.le_of_ble_eq_true rfl) ⟨(Nat.le_of_ble_eq_true rfl), (Nat.le_of_ble_eq_true rfl)⟩ rfl ?_
      refine r_if_eq_f (pc := 12) h (tgt := 19) d_M_only_12 (by decide) (by decide) ?_
      refine r_iconst (pc := 15) h (v := bI true) d_M_only_15 (by decide) ?_
      refine r_goto (pc := 16) h (tgt := 20) d_M_only_16 (by decide) ?_
      refine r_invVa (pc := 20) h 0 (st := []) d_M_only_20 c_bad_true (r_cV h wc_M_bad w_384 w_3 w_386 (TT_se (q := (y_M_bad, 5)) 10 rfl) hd_M_bad ⟨(Nat.le_of_ble_eq_true rfl), (Nat.le_of_ble_eq_true rfl)⟩ rfl rfl) mw_0 rfl rfl rfl (Nat.le_of_ble_eq_true rfl) ⟨(Nat.le_of_ble_eq_true rfl), (Nat.le_of_ble_eq_true rfl)⟩ mw_adr ?_
      refine r_if_eq_f (pc := 23) h (tgt := 27) d_M_only_23 (by decide) (by decide) ?_
      exact r_vret (pc := 26) h hr d_M_only_26
    · refine r_invSa (pc := 9) h (st := [.ref (b 0)]) d_M_only_9 (c_beyond_t x (Or.inr hN)) (r_cS h wc_M_beyond w_392 w_3 w_393 hd_M_beyond ⟨(Nat.le_of_ble_eq_true rfl), (Nat.le_of_ble_eq_true rfl)⟩ rfl rfl) rfl rfl (Nat.le_of_ble_eq_true rfl) ⟨(Nat.le_of_ble_eq_true rfl), (Nat.le_of_ble_eq_true rfl)⟩ rfl ?_
      refine r_if_eq_f (pc := 12) h (tgt := 19) d_M_only_12 (by decide) (by decide) ?_
      refine r_iconst (pc := 15) h (v := bI true) d_M_only_15 (by decide) ?_
      refine r_goto (pc := 16) h (tgt := 20) d_M_only_16 (by decide) ?_
      refine r_invVa (pc := 20) h 0 (st := []) d_M_only_20 c_bad_true (r_cV h wc_M_bad w_384 w_3 w_386 (TT_se (q := (y_M_bad, 5)) 10 rfl) hd_M_bad ⟨(Nat.le_of_ble_eq_true rfl), (Nat.le_of_ble_eq_true rfl)⟩ rfl rfl) mw_0 rfl rfl rfl (Nat.le_of_ble_eq_true rfl) ⟨(Nat.le_of_ble_eq_true rfl), (Nat.le_of_ble_eq_true rfl)⟩ mw_adr ?_
      refine r_if_eq_f (pc := 23) h (tgt := 27) d_M_only_23 (by decide) (by decide) ?_
      exact r_vret (pc := 26) h hr d_M_only_26
    · exfalso
      exact hB ⟨⟨j2, hj2, rfl⟩, ⟨j9, hj9, hN9⟩⟩
theorem m_choose (t : Nat) (ht : t < 16) (r1 r2 r3 : Nat) (h1 : r1 < 16) (h2 : r2 < 16) (h3 : r3 < 16) : Ct l y_M_choose (.code y_M_choose b_M_choose 6 none :: TT) (rmF 2 61) G [.ref (b 0), .int (nI t), .int (nI r1), .int (nI r2), .int (nI r3)] (mw G b th rg wk fi fa) none (mw G b (bI false) (va_up rg t (mix 1024 (mix 1024 (fun x => if rg r1 x = true then rg r2 x else rg r3 x) wk) (rg t))) (mix 1024 (fun x => if rg r1 x = true then rg r2 x else rg r3 x) wk) fi fa) := by
  refine ct_intro (cc := b_M_choose) (nL := 6) (by decide) [(0, .ref (b 0)), (1, .int (nI t)), (2, .int (nI r1)), (3, .int (nI r2)), (4, .int (nI r3))] rfl (Nat.le_of_ble_eq_true rfl) ?_
  intro p e s m below meth c A h hr
  refine r_aload_n (pc := 0) h 0 d_M_choose_0 rfl rfl ?_
  refine r_iload_n (pc := 1) h 1 d_M_choose_1 rfl rfl ?_
  refine r_invSa (pc := 2) h (st := [.ref (b 0)]) d_M_choose_2 (c_none_f t ht) (r_cS h wc_M_none w_378 w_3 w_379 hd_M_none ⟨(Nat.le_of_ble_eq_true rfl), (Nat.le_of_ble_eq_true rfl)⟩ rfl rfl) rfl rfl (Nat.le_of_ble_eq_true rfl) ⟨(Nat.le_of_ble_eq_true rfl), (Nat.le_of_ble_eq_true rfl)⟩ rfl ?_
  refine r_if_ne_f (pc := 5) h (tgt := 30) d_M_choose_5 (by decide) rfl ?_
  refine r_iload_n (pc := 8) h 2 d_M_choose_8 rfl rfl ?_
  refine r_invSa (pc := 9) h (st := [.ref (b 0)]) d_M_choose_9 (c_none_f r1 h1) (r_cS h wc_M_none w_378 w_3 w_379 hd_M_none ⟨(Nat.le_of_ble_eq_true rfl), (Nat.le_of_ble_eq_true rfl)⟩ rfl rfl) rfl rfl (Nat.le_of_ble_eq_true rfl) ⟨(Nat.le_of_ble_eq_true rfl), (Nat.le_of_ble_eq_true rfl)⟩ rfl ?_
  refine r_if_ne_f (pc := 12) h (tgt := 30) d_M_choose_12 (by decide) rfl ?_
  refine r_iload_n (pc := 15) h 3 d_M_choose_15 rfl rfl ?_
  refine r_invSa (pc := 16) h (st := [.ref (b 0)]) d_M_choose_16 (c_none_f r2 h2) (r_cS h wc_M_none w_378 w_3 w_379 hd_M_none ⟨(Nat.le_of_ble_eq_true rfl), (Nat.le_of_ble_eq_true rfl)⟩ rfl rfl) rfl rfl (Nat.le_of_ble_eq_true rfl) ⟨(Nat.le_of_ble_eq_true rfl), (Nat.le_of_ble_eq_true rfl)⟩ rfl ?_
  refine r_if_ne_f (pc := 19) h (tgt := 30) d_M_choose_19 (by decide) rfl ?_
  refine r_iload (pc := 22) h 4 d_M_choose_22 rfl ?_
  refine r_invSa (pc := 24) h (st := [.ref (b 0)]) d_M_choose_24 (c_none_f r3 h3) (r_cS h wc_M_none w_378 w_3 w_379 hd_M_none ⟨(Nat.le_of_ble_eq_true rfl), (Nat.le_of_ble_eq_true rfl)⟩ rfl rfl) rfl rfl (Nat.le_of_ble_eq_true rfl) ⟨(Nat.le_of_ble_eq_true rfl), (Nat.le_of_ble_eq_true rfl)⟩ rfl ?_
  refine r_if_eq_t (pc := 27) h (tgt := 34) d_M_choose_27 (by decide) rfl ?_
  refine r_iconst (pc := 34) h (v := bI false) d_M_choose_34 (by decide) ?_
  refine r_invVa (pc := 35) h 0 (st := []) d_M_choose_35 c_bad_false (r_cV h wc_M_bad w_384 w_3 w_386 (TT_se (q := (y_M_bad, 5)) 10 rfl) hd_M_bad ⟨(Nat.le_of_ble_eq_true rfl), (Nat.le_of_ble_eq_true rfl)⟩ rfl rfl) mw_0 rfl rfl rfl (Nat.le_of_ble_eq_true rfl) ⟨(Nat.le_of_ble_eq_true rfl), (Nat.le_of_ble_eq_true rfl)⟩ mw_adr ?_
  refine r_if_eq_t (pc := 38) h (tgt := 42) d_M_choose_38 (by decide) rfl ?_
  refine r_iconst (pc := 42) h (v := nI 0) d_M_choose_42 (by decide) ?_
  refine r_istore (pc := 43) h (lv' := [(5, .int (nI 0)), (0, .ref (b 0)), (1, .int (nI t)), (2, .int (nI r1)), (3, .int (nI r2)), (4, .int (nI r3))]) d_M_choose_43 (by decide) rfl ?_
  refine Wv.wld (ws' := (mw G b (bI false) rg (mix 0 (fun x => if rg r1 x = true then rg r2 x else rg r3 x) wk) fi fa)) (by rw [mix_0]) ?_
  refine Wv.loop 1024 (fun i => (mw G b (bI false) rg (mix i (fun x => if rg r1 x = true then rg r2 x else rg r3 x) wk) fi fa)) (fun i => [(5, .int (nI i)), (0, .ref (b 0)), (1, .int (nI t)), (2, .int (nI r1)), (3, .int (nI r2)), (4, .int (nI r3))]) ?_ ?_
  · show Wv p l e _ s m _ below meth c G A _ _ _ _ (mw G b (bI false) rg (mix 1024 (fun x => if rg r1 x = true then rg r2 x else rg r3 x) wk) fi fa) 45 [(5, .int (nI 1024)), (0, .ref (b 0)), (1, .int (nI t)), (2, .int (nI r1)), (3, .int (nI r2)), (4, .int (nI r3))] []
    refine r_iload (pc := 45) h 0 d_M_choose_45 rfl ?_
    refine r_sipush (pc := 47) h (v := nI 1024) d_M_choose_47 (by decide) ?_
    refine r_icmp_ge_t (pc := 50) h (tgt := 100) d_M_choose_50 (by decide) (nI_le (Nat.le_refl _) (by decide)) ?_
    refine r_aload_n (pc := 100) h 1 d_M_choose_100 rfl rfl ?_
    refine r_iload_n (pc := 101) h 2 d_M_choose_101 rfl rfl ?_
    refine r_invVv (pc := 102) h 0 (st := []) d_M_choose_102 (c_keep t ht) (r_cV h wc_M_keep w_399 w_3 w_401 (TT_se (q := (y_M_keep, 5)) 11 rfl) hd_M_keep ⟨(Nat.le_of_ble_eq_true rfl), (Nat.le_of_ble_eq_true rfl)⟩ rfl rfl) mw_0 rfl rfl rfl (Nat.le_of_ble_eq_true rfl) ⟨(Nat.le_of_ble_eq_true rfl), (Nat.le_of_ble_eq_true rfl)⟩ mw_adr ?_
    exact r_vret (pc := 105) h hr d_M_choose_105
  · intro i hi ih
    have ih : Wv p l e _ s m _ below meth c G A _ _ _ _ (mw G b (bI false) rg (mix (i + 1) (fun x => if rg r1 x = true then rg r2 x else rg r3 x) wk) fi fa) 45 [(5, .int (nI (i + 1))), (0, .ref (b 0)), (1, .int (nI t)), (2, .int (nI r1)), (3, .int (nI r2)), (4, .int (nI r3))] [] := ih
    show Wv p l e _ s m _ below meth c G A _ _ _ _ (mw G b (bI false) rg (mix i (fun x => if rg r1 x = true then rg r2 x else rg r3 x) wk) fi fa) 45 [(5, .int (nI i)), (0, .ref (b 0)), (1, .int (nI t)), (2, .int (nI r1)), (3, .int (nI r2)), (4, .int (nI r3))] []
    refine r_iload (pc := 45) h 0 d_M_choose_45 rfl ?_
    refine r_sipush (pc := 47) h (v := nI 1024) d_M_choose_47 (by decide) ?_
    refine r_icmp_ge_f (pc := 50) h (tgt := 100) d_M_choose_50 (by decide) (nI_ge hi (by decide)) ?_
    refine r_aload_n (pc := 53) h 1 d_M_choose_53 rfl rfl ?_
    refine r_get (pc := 54) h 0 2 d_M_choose_54 mw_0 rfl (by decide) in_M (List.mem_cons_of_mem _ w_355) rfl ?_
    refine r_iload (pc := 57) h 0 d_M_choose_57 rfl ?_
    refine r_aload_n (pc := 59) h 1 d_M_choose_59 rfl rfl ?_
    refine r_get (pc := 60) h 0 1 d_M_choose_60 mw_0 rfl (by decide) in_M (List.mem_cons_of_mem _ w_354) rfl ?_
    refine r_iload_n (pc := 63) h 3 d_M_choose_63 rfl rfl ?_
    refine r_aaload (pc := 64) h 1 4 r1 d_M_choose_64 mw_1 rfl rfl rfl h1 (by decide) (mw_o h1) ?_
    refine r_iload (pc := 65) h 0 d_M_choose_65 rfl ?_
    refine r_baload (pc := 67) h (5 + r1) (z := bI (rg r1 i)) i d_M_choose_67 (mw_r h1) rfl hi (by decide) rfl ?_
    refine r_if_eq (pc := 68) h (tgt := 83) d_M_choose_68 (by decide) (fun q68 => ?_) (fun q68 => ?_)
    · have hb68 := bI_F q68
      refine r_aload_n (pc := 83) h 1 d_M_choose_83 rfl rfl ?_
      refine r_get (pc := 84) h 0 1 d_M_choose_84 mw_0 rfl (by decide) in_M (List.mem_cons_of_mem _ w_354) rfl ?_
      refine r_iload (pc := 87) h 5 d_M_choose_87 rfl ?_
      refine r_aaload (pc := 89) h 1 4 r3 d_M_choose_89 mw_1 rfl rfl rfl h3 (by decide) (mw_o h3) ?_
      refine r_iload (pc := 90) h 0 d_M_choose_90 rfl ?_
      refine r_baload (pc := 92) h (5 + r3) (z := bI (rg r3 i)) i d_M_choose_92 (mw_r h3) rfl hi (by decide) rfl ?_
      refine Wv.top (v' := .int (bI (if rg r1 i = true then rg r2 i else rg r3 i))) (by rw [if_neg (by rw [hb68]; decide)]) ?_
      refine r_bastore (pc := 93) h 2 (ws' := (mw G b (bI false) rg (mix (i + 1) (fun x => if rg r1 x = true then rg r2 x else rg r3 x) wk) fi fa)) i d_M_choose_93 mw_2 rfl hi (by decide) (bI_nar _) (by rw [upd_b, mix_up i (fun x => if rg r1 x = true then rg r2 x else rg r3 x) wk]; exact mw_s2) ?_
      refine r_iinc (pc := 94) h (v := nI (i + 1)) (lv' := [(5, .int (nI (i + 1))), (0, .ref (b 0)), (1, .int (nI t)), (2, .int (nI r1)), (3, .int (nI r2)), (4, .int (nI r3))]) 0 d_M_choose_94 rfl (nI_inc i) (by decide) rfl ?_
      refine r_goto (pc := 97) h (tgt := 45) d_M_choose_97 (by decide) ?_
      exact ih
    · have hb68 := bI_T q68
      refine r_aload_n (pc := 71) h 1 d_M_choose_71 rfl rfl ?_
      refine r_get (pc := 72) h 0 1 d_M_choose_72 mw_0 rfl (by decide) in_M (List.mem_cons_of_mem _ w_354) rfl ?_
      refine r_iload_n (pc := 75) h 4 d_M_choose_75 rfl rfl ?_
      refine r_aaload (pc := 76) h 1 4 r2 d_M_choose_76 mw_1 rfl rfl rfl h2 (by decide) (mw_o h2) ?_
      refine r_iload (pc := 77) h 0 d_M_choose_77 rfl ?_
      refine r_baload (pc := 79) h (5 + r2) (z := bI (rg r2 i)) i d_M_choose_79 (mw_r h2) rfl hi (by decide) rfl ?_
      refine r_goto (pc := 80) h (tgt := 93) d_M_choose_80 (by decide) ?_
      refine Wv.top (v' := .int (bI (if rg r1 i = true then rg r2 i else rg r3 i))) (by rw [if_pos hb68]) ?_
      refine r_bastore (pc := 93) h 2 (ws' := (mw G b (bI false) rg (mix (i + 1) (fun x => if rg r1 x = true then rg r2 x else rg r3 x) wk) fi fa)) i d_M_choose_93 mw_2 rfl hi (by decide) (bI_nar _) (by rw [upd_b, mix_up i (fun x => if rg r1 x = true then rg r2 x else rg r3 x) wk]; exact mw_s2) ?_
      refine r_iinc (pc := 94) h (v := nI (i + 1)) (lv' := [(5, .int (nI (i + 1))), (0, .ref (b 0)), (1, .int (nI t)), (2, .int (nI r1)), (3, .int (nI r2)), (4, .int (nI r3))]) 0 d_M_choose_94 rfl (nI_inc i) (by decide) rfl ?_
      refine r_goto (pc := 97) h (tgt := 45) d_M_choose_97 (by decide) ?_
      exact ih
theorem x_choose (t r1 r2 r3 : Int32)  (hB : ¬ (okR 16 t ∧ okR 16 r1 ∧ okR 16 r2 ∧ okR 16 r3)) : Ct l y_M_choose (.code y_M_choose b_M_choose 6 none :: TT) (rmF 2 61) G [.ref (b 0), .int t, .int r1, .int r2, .int r3] (mw G b th rg wk fi fa) none (mw G b (bI true) rg wk fi fa) := by
  refine ct_intro (cc := b_M_choose) (nL := 6) (by decide) [(0, .ref (b 0)), (1, .int t), (2, .int r1), (3, .int r2), (4, .int r3)] rfl (Nat.le_of_ble_eq_true rfl) ?_
  intro p e s m below meth c A h hr
  refine r_aload_n (pc := 0) h 0 d_M_choose_0 rfl rfl ?_
  refine r_iload_n (pc := 1) h 1 d_M_choose_1 rfl rfl ?_
  rcases pk_ix t (n := 16) (by decide) with hN | hN | ⟨j2, hj2, hN2⟩
  · refine r_invSa (pc := 2) h (st := [.ref (b 0)]) d_M_choose_2 (c_none_t t (Or.inl hN)) (r_cS h wc_M_none w_378 w_3 w_379 hd_M_none ⟨(Nat.le_of_ble_eq_true rfl), (Nat.le_of_ble_eq_true rfl)⟩ rfl rfl) rfl rfl (Nat.le_of_ble_eq_true rfl) ⟨(Nat.le_of_ble_eq_true rfl), (Nat.le_of_ble_eq_true rfl)⟩ rfl ?_
    refine r_if_ne_t (pc := 5) h (tgt := 30) d_M_choose_5 (by decide) (by decide) ?_
    refine r_iconst (pc := 30) h (v := bI true) d_M_choose_30 (by decide) ?_
    refine r_goto (pc := 31) h (tgt := 35) d_M_choose_31 (by decide) ?_
    refine r_invVa (pc := 35) h 0 (st := []) d_M_choose_35 c_bad_true (r_cV h wc_M_bad w_384 w_3 w_386 (TT_se (q := (y_M_bad, 5)) 10 rfl) hd_M_bad ⟨(Nat.le_of_ble_eq_true rfl), (Nat.le_of_ble_eq_true rfl)⟩ rfl rfl) mw_0 rfl rfl rfl (Nat.le_of_ble_eq_true rfl) ⟨(Nat.le_of_ble_eq_true rfl), (Nat.le_of_ble_eq_true rfl)⟩ mw_adr ?_
    refine r_if_eq_f (pc := 38) h (tgt := 42) d_M_choose_38 (by decide) (by decide) ?_
    exact r_vret (pc := 41) h hr d_M_choose_41
  · refine r_invSa (pc := 2) h (st := [.ref (b 0)]) d_M_choose_2 (c_none_t t (Or.inr hN)) (r_cS h wc_M_none w_378 w_3 w_379 hd_M_none ⟨(Nat.le_of_ble_eq_true rfl), (Nat.le_of_ble_eq_true rfl)⟩ rfl rfl) rfl rfl (Nat.le_of_ble_eq_true rfl) ⟨(Nat.le_of_ble_eq_true rfl), (Nat.le_of_ble_eq_true rfl)⟩ rfl ?_
    refine r_if_ne_t (pc := 5) h (tgt := 30) d_M_choose_5 (by decide) (by decide) ?_
    refine r_iconst (pc := 30) h (v := bI true) d_M_choose_30 (by decide) ?_
    refine r_goto (pc := 31) h (tgt := 35) d_M_choose_31 (by decide) ?_
    refine r_invVa (pc := 35) h 0 (st := []) d_M_choose_35 c_bad_true (r_cV h wc_M_bad w_384 w_3 w_386 (TT_se (q := (y_M_bad, 5)) 10 rfl) hd_M_bad ⟨(Nat.le_of_ble_eq_true rfl), (Nat.le_of_ble_eq_true rfl)⟩ rfl rfl) mw_0 rfl rfl rfl (Nat.le_of_ble_eq_true rfl) ⟨(Nat.le_of_ble_eq_true rfl), (Nat.le_of_ble_eq_true rfl)⟩ mw_adr ?_
    refine r_if_eq_f (pc := 38) h (tgt := 42) d_M_choose_38 (by decide) (by decide) ?_
    exact r_vret (pc := 41) h hr d_M_choose_41
  · subst hN2
    refine r_invSa (pc := 2) h (st := [.ref (b 0)]) d_M_choose_2 (c_none_f j2 hj2) (r_cS h wc_M_none w_378 w_3 w_379 hd_M_none ⟨(Nat.le_of_ble_eq_true rfl), (Nat.le_of_ble_eq_true rfl)⟩ rfl rfl) rfl rfl (Nat.le_of_ble_eq_true rfl) ⟨(Nat.le_of_ble_eq_true rfl), (Nat.le_of_ble_eq_true rfl)⟩ rfl ?_
    refine r_if_ne_f (pc := 5) h (tgt := 30) d_M_choose_5 (by decide) rfl ?_
    refine r_iload_n (pc := 8) h 2 d_M_choose_8 rfl rfl ?_
    rcases pk_ix r1 (n := 16) (by decide) with hN | hN | ⟨j9, hj9, hN9⟩
    · refine r_invSa (pc := 9) h (st := [.ref (b 0)]) d_M_choose_9 (c_none_t r1 (Or.inl hN)) (r_cS h wc_M_none w_378 w_3 w_379 hd_M_none ⟨(Nat.le_of_ble_eq_true rfl), (Nat.le_of_ble_eq_true rfl)⟩ rfl rfl) rfl rfl (Nat.le_of_ble_eq_true rfl) ⟨(Nat.le_of_ble_eq_true rfl), (Nat.le_of_ble_eq_true rfl)⟩ rfl ?_
      refine r_if_ne_t (pc := 12) h (tgt := 30) d_M_choose_12 (by decide) (by decide) ?_
      refine r_iconst (pc := 30) h (v := bI true) d_M_choose_30 (by decide) ?_
      refine r_goto (pc := 31) h (tgt := 35) d_M_choose_31 (by decide) ?_
      refine r_invVa (pc := 35) h 0 (st := []) d_M_choose_35 c_bad_true (r_cV h wc_M_bad w_384 w_3 w_386 (TT_se (q := (y_M_bad, 5)) 10 rfl) hd_M_bad ⟨(Nat.le_of_ble_eq_true rfl), (Nat.le_of_ble_eq_true rfl)⟩ rfl rfl) mw_0 rfl rfl rfl (Nat.le_of_ble_eq_true rfl) ⟨(Nat.le_of_ble_eq_true rfl), (Nat.le_of_ble_eq_true rfl)⟩ mw_adr ?_
      refine r_if_eq_f (pc := 38) h (tgt := 42) d_M_choose_38 (by decide) (by decide) ?_
      exact r_vret (pc := 41) h hr d_M_choose_41
    · refine r_invSa (pc := 9) h (st := [.ref (b 0)]) d_M_choose_9 (c_none_t r1 (Or.inr hN)) (r_cS h wc_M_none w_378 w_3 w_379 hd_M_none ⟨(Nat.le_of_ble_eq_true rfl), (Nat.le_of_ble_eq_true rfl)⟩ rfl rfl) rfl rfl (Nat.le_of_ble_eq_true rfl) ⟨(Nat.le_of_ble_eq_true rfl), (Nat.le_of_ble_eq_true rfl)⟩ rfl ?_
      refine r_if_ne_t (pc := 12) h (tgt := 30) d_M_choose_12 (by decide) (by decide) ?_
      refine r_iconst (pc := 30) h (v := bI true) d_M_choose_30 (by decide) ?_
      refine r_goto (pc := 31) h (tgt := 35) d_M_choose_31 (by decide) ?_
      refine r_invVa (pc := 35) h 0 (st := []) d_M_choose_35 c_bad_true (r_cV h wc_M_bad w_384 w_3 w_386 (TT_se (q := (y_M_bad, 5)) 10 rfl) hd_M_bad ⟨(Nat.le_of_ble_eq_true rfl), (Nat.le_of_ble_eq_true rfl)⟩ rfl rfl) mw_0 rfl rfl rfl (Nat.le_of_ble_eq_true rfl) ⟨(Nat.le_of_ble_eq_true rfl), (Nat.le_of_ble_eq_true rfl)⟩ mw_adr ?_
      refine r_if_eq_f (pc := 38) h (tgt := 42) d_M_choose_38 (by decide) (by decide) ?_
      exact r_vret (pc := 41) h hr d_M_choose_41
    · subst hN9
      refine r_invSa (pc := 9) h (st := [.ref (b 0)]) d_M_choose_9 (c_none_f j9 hj9) (r_cS h wc_M_none w_378 w_3 w_379 hd_M_none ⟨(Nat.le_of_ble_eq_true rfl), (Nat.le_of_ble_eq_true rfl)⟩ rfl rfl) rfl rfl (Nat.le_of_ble_eq_true rfl) ⟨(Nat.le_of_ble_eq_true rfl), (Nat.le_of_ble_eq_true rfl)⟩ rfl ?_
      refine r_if_ne_f (pc := 12) h (tgt := 30) d_M_choose_12 (by decide) rfl ?_
      refine r_iload_n (pc := 15) h 3 d_M_choose_15 rfl rfl ?_
      rcases pk_ix r2 (n := 16) (by decide) with hN | hN | ⟨j16, hj16, hN16⟩
      · refine r_invSa (pc := 16) h (st := [.ref (b 0)]) d_M_choose_16 (c_none_t r2 (Or.inl hN)) (r_cS h wc_M_none w_378 w_3 w_379 hd_M_none ⟨(Nat.le_of_ble_eq_true rfl), (Nat.le_of_ble_eq_true rfl)⟩ rfl rfl) rfl rfl (Nat.le_of_ble_eq_true rfl) ⟨(Nat.le_of_ble_eq_true rfl), (Nat.le_of_ble_eq_true rfl)⟩ rfl ?_
        refine r_if_ne_t (pc := 19) h (tgt := 30) d_M_choose_19 (by decide) (by decide) ?_
        refine r_iconst (pc := 30) h (v := bI true) d_M_choose_30 (by decide) ?_
        refine r_goto (pc := 31) h (tgt := 35) d_M_choose_31 (by decide) ?_
        refine r_invVa (pc := 35) h 0 (st := []) d_M_choose_35 c_bad_true (r_cV h wc_M_bad w_384 w_3 w_386 (TT_se (q := (y_M_bad, 5)) 10 rfl) hd_M_bad ⟨(Nat.le_of_ble_eq_true rfl), (Nat.le_of_ble_eq_true rfl)⟩ rfl rfl) mw_0 rfl rfl rfl (Nat.le_of_ble_eq_true rfl) ⟨(Nat.le_of_ble_eq_true rfl), (Nat.le_of_ble_eq_true rfl)⟩ mw_adr ?_
        refine r_if_eq_f (pc := 38) h (tgt := 42) d_M_choose_38 (by decide) (by decide) ?_
        exact r_vret (pc := 41) h hr d_M_choose_41
      · refine r_invSa (pc := 16) h (st := [.ref (b 0)]) d_M_choose_16 (c_none_t r2 (Or.inr hN)) (r_cS h wc_M_none w_378 w_3 w_379 hd_M_none ⟨(Nat.le_of_ble_eq_true rfl), (Nat.le_of_ble_eq_true rfl)⟩ rfl rfl) rfl rfl (Nat.le_of_ble_eq_true rfl) ⟨(Nat.le_of_ble_eq_true rfl), (Nat.le_of_ble_eq_true rfl)⟩ rfl ?_
        refine r_if_ne_t (pc := 19) h (tgt := 30) d_M_choose_19 (by decide) (by decide) ?_
        refine r_iconst (pc := 30) h (v := bI true) d_M_choose_30 (by decide) ?_
        refine r_goto (pc := 31) h (tgt := 35) d_M_choose_31 (by decide) ?_
        refine r_invVa (pc := 35) h 0 (st := []) d_M_choose_35 c_bad_true (r_cV h wc_M_bad w_384 w_3 w_386 (TT_se (q := (y_M_bad, 5)) 10 rfl) hd_M_bad ⟨(Nat.le_of_ble_eq_true rfl), (Nat.le_of_ble_eq_true rfl)⟩ rfl rfl) mw_0 rfl rfl rfl (Nat.le_of_ble_eq_true rfl) ⟨(Nat.le_of_ble_eq_true rfl), (Nat.le_of_ble_eq_true rfl)⟩ mw_adr ?_
        refine r_if_eq_f (pc := 38) h (tgt := 42) d_M_choose_38 (by decide) (by decide) ?_
        exact r_vret (pc := 41) h hr d_M_choose_41
      · subst hN16
        refine r_invSa (pc := 16) h (st := [.ref (b 0)]) d_M_choose_16 (c_none_f j16 hj16) (r_cS h wc_M_none w_378 w_3 w_379 hd_M_none ⟨(Nat.le_of_ble_eq_true rfl), (Nat.le_of_ble_eq_true rfl)⟩ rfl rfl) rfl rfl (Nat.le_of_ble_eq_true rfl) ⟨(Nat.le_of_ble_eq_true rfl), (Nat.le_of_ble_eq_true rfl)⟩ rfl ?_
        refine r_if_ne_f (pc := 19) h (tgt := 30) d_M_choose_19 (by decide) rfl ?_
        refine r_iload (pc := 22) h 4 d_M_choose_22 rfl ?_
        rcases pk_ix r3 (n := 16) (by decide) with hN | hN | ⟨j24, hj24, hN24⟩
        · refine r_invSa (pc := 24) h (st := [.ref (b 0)]) d_M_choose_24 (c_none_t r3 (Or.inl hN)) (r_cS h wc_M_none w_378 w_3 w_379 hd_M_none ⟨(Nat.le_of_ble_eq_true rfl), (Nat.le_of_ble_eq_true rfl)⟩ rfl rfl) rfl rfl (Nat.le_of_ble_eq_true rfl) ⟨(Nat.le_of_ble_eq_true rfl), (Nat.le_of_ble_eq_true rfl)⟩ rfl ?_
          refine r_if_eq_f (pc := 27) h (tgt := 34) d_M_choose_27 (by decide) (by decide) ?_
          refine r_iconst (pc := 30) h (v := bI true) d_M_choose_30 (by decide) ?_
          refine r_goto (pc := 31) h (tgt := 35) d_M_choose_31 (by decide) ?_
          refine r_invVa (pc := 35) h 0 (st := []) d_M_choose_35 c_bad_true (r_cV h wc_M_bad w_384 w_3 w_386 (TT_se (q := (y_M_bad, 5)) 10 rfl) hd_M_bad ⟨(Nat.le_of_ble_eq_true rfl), (Nat.le_of_ble_eq_true rfl)⟩ rfl rfl) mw_0 rfl rfl rfl (Nat.le_of_ble_eq_true rfl) ⟨(Nat.le_of_ble_eq_true rfl), (Nat.le_of_ble_eq_true rfl)⟩ mw_adr ?_
          refine r_if_eq_f (pc := 38) h (tgt := 42) d_M_choose_38 (by decide) (by decide) ?_
          exact r_vret (pc := 41) h hr d_M_choose_41
        · refine r_invSa (pc := 24) h (st := [.ref (b 0)]) d_M_choose_24 (c_none_t r3 (Or.inr hN)) (r_cS h wc_M_none w_378 w_3 w_379 hd_M_none ⟨(Nat.le_of_ble_eq_true rfl), (Nat.le_of_ble_eq_true rfl)⟩ rfl rfl) rfl rfl (Nat.le_of_ble_eq_true rfl) ⟨(Nat.le_of_ble_eq_true rfl), (Nat.le_of_ble_eq_true rfl)⟩ rfl ?_
          refine r_if_eq_f (pc := 27) h (tgt := 34) d_M_choose_27 (by decide) (by decide) ?_
          refine r_iconst (pc := 30) h (v := bI true) d_M_choose_30 (by decide) ?_
          refine r_goto (pc := 31) h (tgt := 35) d_M_choose_31 (by decide) ?_
          refine r_invVa (pc := 35) h 0 (st := []) d_M_choose_35 c_bad_true (r_cV h wc_M_bad w_384 w_3 w_386 (TT_se (q := (y_M_bad, 5)) 10 rfl) hd_M_bad ⟨(Nat.le_of_ble_eq_true rfl), (Nat.le_of_ble_eq_true rfl)⟩ rfl rfl) mw_0 rfl rfl rfl (Nat.le_of_ble_eq_true rfl) ⟨(Nat.le_of_ble_eq_true rfl), (Nat.le_of_ble_eq_true rfl)⟩ mw_adr ?_
          refine r_if_eq_f (pc := 38) h (tgt := 42) d_M_choose_38 (by decide) (by decide) ?_
          exact r_vret (pc := 41) h hr d_M_choose_41
        · exfalso
          exact hB ⟨⟨j2, hj2, rfl⟩, ⟨j9, hj9, rfl⟩, ⟨j16, hj16, rfl⟩, ⟨j24, hj24, hN24⟩⟩
theorem m_cut_true (t : Nat) (ht : t < 16) (r1 v : Nat) (h1 : r1 < 16) (hv : v < 10) : Ct l y_M_cut (.code y_M_cut b_M_cut 6 none :: TT) (rmF 2 61) G [.ref (b 0), .int (nI t), .int (nI r1), .int (nI v), .int (bI true)] (mw G b th rg wk fi fa) none (mw G b (bI false) (va_up rg t (mix 1024 (mix 1024 (fun x => rg r1 (sb x v true)) wk) (rg t))) (mix 1024 (fun x => rg r1 (sb x v true)) wk) fi fa) := by
  refine ct_intro (cc := b_M_cut) (nL := 6) (by decide) [(0, .ref (b 0)), (1, .int (nI t)), (2, .int (nI r1)), (3, .int (nI v)), (4, .int (bI true))] rfl (Nat.le_of_ble_eq_true rfl) ?_
  intro p e s m below meth c A h hr
  refine r_aload_n (pc := 0) h 0 d_M_cut_0 rfl rfl ?_
  refine r_iload_n (pc := 1) h 1 d_M_cut_1 rfl rfl ?_
  refine r_invSa (pc := 2) h (st := [.ref (b 0)]) d_M_cut_2 (c_none_f t ht) (r_cS h wc_M_none w_378 w_3 w_379 hd_M_none ⟨(Nat.le_of_ble_eq_true rfl), (Nat.le_of_ble_eq_true rfl)⟩ rfl rfl) rfl rfl (Nat.le_of_ble_eq_true rfl) ⟨(Nat.le_of_ble_eq_true rfl), (Nat.le_of_ble_eq_true rfl)⟩ rfl ?_
  refine r_if_ne_f (pc := 5) h (tgt := 22) d_M_cut_5 (by decide) rfl ?_
  refine r_iload_n (pc := 8) h 2 d_M_cut_8 rfl rfl ?_
  refine r_invSa (pc := 9) h (st := [.ref (b 0)]) d_M_cut_9 (c_none_f r1 h1) (r_cS h wc_M_none w_378 w_3 w_379 hd_M_none ⟨(Nat.le_of_ble_eq_true rfl), (Nat.le_of_ble_eq_true rfl)⟩ rfl rfl) rfl rfl (Nat.le_of_ble_eq_true rfl) ⟨(Nat.le_of_ble_eq_true rfl), (Nat.le_of_ble_eq_true rfl)⟩ rfl ?_
  refine r_if_ne_f (pc := 12) h (tgt := 22) d_M_cut_12 (by decide) rfl ?_
  refine r_iload_n (pc := 15) h 3 d_M_cut_15 rfl rfl ?_
  refine r_invSa (pc := 16) h (st := [.ref (b 0)]) d_M_cut_16 (c_outside_f v hv) (r_cS h wc_M_outside w_381 w_3 w_382 hd_M_outside ⟨(Nat.le_of_ble_eq_true rfl), (Nat.le_of_ble_eq_true rfl)⟩ rfl rfl) rfl rfl (Nat.le_of_ble_eq_true rfl) ⟨(Nat.le_of_ble_eq_true rfl), (Nat.le_of_ble_eq_true rfl)⟩ rfl ?_
  refine r_if_eq_t (pc := 19) h (tgt := 26) d_M_cut_19 (by decide) rfl ?_
  refine r_iconst (pc := 26) h (v := bI false) d_M_cut_26 (by decide) ?_
  refine r_invVa (pc := 27) h 0 (st := []) d_M_cut_27 c_bad_false (r_cV h wc_M_bad w_384 w_3 w_386 (TT_se (q := (y_M_bad, 5)) 10 rfl) hd_M_bad ⟨(Nat.le_of_ble_eq_true rfl), (Nat.le_of_ble_eq_true rfl)⟩ rfl rfl) mw_0 rfl rfl rfl (Nat.le_of_ble_eq_true rfl) ⟨(Nat.le_of_ble_eq_true rfl), (Nat.le_of_ble_eq_true rfl)⟩ mw_adr ?_
  refine r_if_eq_t (pc := 30) h (tgt := 34) d_M_cut_30 (by decide) rfl ?_
  refine r_iconst (pc := 34) h (v := nI 0) d_M_cut_34 (by decide) ?_
  refine r_istore (pc := 35) h (lv' := [(5, .int (nI 0)), (0, .ref (b 0)), (1, .int (nI t)), (2, .int (nI r1)), (3, .int (nI v)), (4, .int (bI true))]) d_M_cut_35 (by decide) rfl ?_
  refine Wv.wld (ws' := (mw G b (bI false) rg (mix 0 (fun x => rg r1 (sb x v true)) wk) fi fa)) (by rw [mix_0]) ?_
  refine Wv.loop 1024 (fun i => (mw G b (bI false) rg (mix i (fun x => rg r1 (sb x v true)) wk) fi fa)) (fun i => [(5, .int (nI i)), (0, .ref (b 0)), (1, .int (nI t)), (2, .int (nI r1)), (3, .int (nI v)), (4, .int (bI true))]) ?_ ?_
  · show Wv p l e _ s m _ below meth c G A _ _ _ _ (mw G b (bI false) rg (mix 1024 (fun x => rg r1 (sb x v true)) wk) fi fa) 37 [(5, .int (nI 1024)), (0, .ref (b 0)), (1, .int (nI t)), (2, .int (nI r1)), (3, .int (nI v)), (4, .int (bI true))] []
    refine r_iload (pc := 37) h 0 d_M_cut_37 rfl ?_
    refine r_sipush (pc := 39) h (v := nI 1024) d_M_cut_39 (by decide) ?_
    refine r_icmp_ge_t (pc := 42) h (tgt := 87) d_M_cut_42 (by decide) (nI_le (Nat.le_refl _) (by decide)) ?_
    refine r_aload_n (pc := 87) h 1 d_M_cut_87 rfl rfl ?_
    refine r_iload_n (pc := 88) h 2 d_M_cut_88 rfl rfl ?_
    refine r_invVv (pc := 89) h 0 (st := []) d_M_cut_89 (c_keep t ht) (r_cV h wc_M_keep w_399 w_3 w_401 (TT_se (q := (y_M_keep, 5)) 11 rfl) hd_M_keep ⟨(Nat.le_of_ble_eq_true rfl), (Nat.le_of_ble_eq_true rfl)⟩ rfl rfl) mw_0 rfl rfl rfl (Nat.le_of_ble_eq_true rfl) ⟨(Nat.le_of_ble_eq_true rfl), (Nat.le_of_ble_eq_true rfl)⟩ mw_adr ?_
    exact r_vret (pc := 92) h hr d_M_cut_92
  · intro i hi ih
    have ih : Wv p l e _ s m _ below meth c G A _ _ _ _ (mw G b (bI false) rg (mix (i + 1) (fun x => rg r1 (sb x v true)) wk) fi fa) 37 [(5, .int (nI (i + 1))), (0, .ref (b 0)), (1, .int (nI t)), (2, .int (nI r1)), (3, .int (nI v)), (4, .int (bI true))] [] := ih
    show Wv p l e _ s m _ below meth c G A _ _ _ _ (mw G b (bI false) rg (mix i (fun x => rg r1 (sb x v true)) wk) fi fa) 37 [(5, .int (nI i)), (0, .ref (b 0)), (1, .int (nI t)), (2, .int (nI r1)), (3, .int (nI v)), (4, .int (bI true))] []
    refine r_iload (pc := 37) h 0 d_M_cut_37 rfl ?_
    refine r_sipush (pc := 39) h (v := nI 1024) d_M_cut_39 (by decide) ?_
    refine r_icmp_ge_f (pc := 42) h (tgt := 87) d_M_cut_42 (by decide) (nI_ge hi (by decide)) ?_
    refine r_aload_n (pc := 45) h 1 d_M_cut_45 rfl rfl ?_
    refine r_get (pc := 46) h 0 2 d_M_cut_46 mw_0 rfl (by decide) in_M (List.mem_cons_of_mem _ w_355) rfl ?_
    refine r_iload (pc := 49) h 0 d_M_cut_49 rfl ?_
    refine r_aload_n (pc := 51) h 1 d_M_cut_51 rfl rfl ?_
    refine r_get (pc := 52) h 0 1 d_M_cut_52 mw_0 rfl (by decide) in_M (List.mem_cons_of_mem _ w_354) rfl ?_
    refine r_iload_n (pc := 55) h 3 d_M_cut_55 rfl rfl ?_
    refine r_aaload (pc := 56) h 1 4 r1 d_M_cut_56 mw_1 rfl rfl rfl h1 (by decide) (mw_o h1) ?_
    refine r_iload (pc := 57) h 5 d_M_cut_57 rfl ?_
    refine r_if_eq_f (pc := 59) h (tgt := 71) d_M_cut_59 (by decide) (by decide) ?_
    refine r_iload (pc := 62) h 0 d_M_cut_62 rfl ?_
    refine r_iconst (pc := 64) h (v := nI 1) d_M_cut_64 (by decide) ?_
    refine r_iload_n (pc := 65) h 4 d_M_cut_65 rfl rfl ?_
    refine r_ishl (pc := 66) h (z := nI (2 ^ v)) d_M_cut_66 (nx_pw (by omega)) ?_
    refine r_ior (pc := 67) h (z := nI (sb i v true)) d_M_cut_67 (by rw [nx_or, sb_or]) ?_
    refine r_goto (pc := 68) h (tgt := 79) d_M_cut_68 (by decide) ?_
    refine r_baload (pc := 79) h (5 + r1) (z := bI (rg r1 (sb i v true))) (sb i v true) d_M_cut_79 (mw_r h1) rfl (sb_lt hi hv) (by decide) rfl ?_
    refine r_bastore (pc := 80) h 2 (ws' := (mw G b (bI false) rg (mix (i + 1) (fun x => rg r1 (sb x v true)) wk) fi fa)) i d_M_cut_80 mw_2 rfl hi (by decide) (bI_nar _) (by rw [upd_b, mix_up i (fun x => rg r1 (sb x v true)) wk]; exact mw_s2) ?_
    refine r_iinc (pc := 81) h (v := nI (i + 1)) (lv' := [(5, .int (nI (i + 1))), (0, .ref (b 0)), (1, .int (nI t)), (2, .int (nI r1)), (3, .int (nI v)), (4, .int (bI true))]) 0 d_M_cut_81 rfl (nI_inc i) (by decide) rfl ?_
    refine r_goto (pc := 84) h (tgt := 37) d_M_cut_84 (by decide) ?_
    exact ih
theorem m_cut_false (t : Nat) (ht : t < 16) (r1 v : Nat) (h1 : r1 < 16) (hv : v < 10) : Ct l y_M_cut (.code y_M_cut b_M_cut 6 none :: TT) (rmF 2 61) G [.ref (b 0), .int (nI t), .int (nI r1), .int (nI v), .int (bI false)] (mw G b th rg wk fi fa) none (mw G b (bI false) (va_up rg t (mix 1024 (mix 1024 (fun x => rg r1 (sb x v false)) wk) (rg t))) (mix 1024 (fun x => rg r1 (sb x v false)) wk) fi fa) := by
  refine ct_intro (cc := b_M_cut) (nL := 6) (by decide) [(0, .ref (b 0)), (1, .int (nI t)), (2, .int (nI r1)), (3, .int (nI v)), (4, .int (bI false))] rfl (Nat.le_of_ble_eq_true rfl) ?_
  intro p e s m below meth c A h hr
  refine r_aload_n (pc := 0) h 0 d_M_cut_0 rfl rfl ?_
  refine r_iload_n (pc := 1) h 1 d_M_cut_1 rfl rfl ?_
  refine r_invSa (pc := 2) h (st := [.ref (b 0)]) d_M_cut_2 (c_none_f t ht) (r_cS h wc_M_none w_378 w_3 w_379 hd_M_none ⟨(Nat.le_of_ble_eq_true rfl), (Nat.le_of_ble_eq_true rfl)⟩ rfl rfl) rfl rfl (Nat.le_of_ble_eq_true rfl) ⟨(Nat.le_of_ble_eq_true rfl), (Nat.le_of_ble_eq_true rfl)⟩ rfl ?_
  refine r_if_ne_f (pc := 5) h (tgt := 22) d_M_cut_5 (by decide) rfl ?_
  refine r_iload_n (pc := 8) h 2 d_M_cut_8 rfl rfl ?_
  refine r_invSa (pc := 9) h (st := [.ref (b 0)]) d_M_cut_9 (c_none_f r1 h1) (r_cS h wc_M_none w_378 w_3 w_379 hd_M_none ⟨(Nat.le_of_ble_eq_true rfl), (Nat.le_of_ble_eq_true rfl)⟩ rfl rfl) rfl rfl (Nat.le_of_ble_eq_true rfl) ⟨(Nat.le_of_ble_eq_true rfl), (Nat.le_of_ble_eq_true rfl)⟩ rfl ?_
  refine r_if_ne_f (pc := 12) h (tgt := 22) d_M_cut_12 (by decide) rfl ?_
  refine r_iload_n (pc := 15) h 3 d_M_cut_15 rfl rfl ?_
  refine r_invSa (pc := 16) h (st := [.ref (b 0)]) d_M_cut_16 (c_outside_f v hv) (r_cS h wc_M_outside w_381 w_3 w_382 hd_M_outside ⟨(Nat.le_of_ble_eq_true rfl), (Nat.le_of_ble_eq_true rfl)⟩ rfl rfl) rfl rfl (Nat.le_of_ble_eq_true rfl) ⟨(Nat.le_of_ble_eq_true rfl), (Nat.le_of_ble_eq_true rfl)⟩ rfl ?_
  refine r_if_eq_t (pc := 19) h (tgt := 26) d_M_cut_19 (by decide) rfl ?_
  refine r_iconst (pc := 26) h (v := bI false) d_M_cut_26 (by decide) ?_
  refine r_invVa (pc := 27) h 0 (st := []) d_M_cut_27 c_bad_false (r_cV h wc_M_bad w_384 w_3 w_386 (TT_se (q := (y_M_bad, 5)) 10 rfl) hd_M_bad ⟨(Nat.le_of_ble_eq_true rfl), (Nat.le_of_ble_eq_true rfl)⟩ rfl rfl) mw_0 rfl rfl rfl (Nat.le_of_ble_eq_true rfl) ⟨(Nat.le_of_ble_eq_true rfl), (Nat.le_of_ble_eq_true rfl)⟩ mw_adr ?_
  refine r_if_eq_t (pc := 30) h (tgt := 34) d_M_cut_30 (by decide) rfl ?_
  refine r_iconst (pc := 34) h (v := nI 0) d_M_cut_34 (by decide) ?_
  refine r_istore (pc := 35) h (lv' := [(5, .int (nI 0)), (0, .ref (b 0)), (1, .int (nI t)), (2, .int (nI r1)), (3, .int (nI v)), (4, .int (bI false))]) d_M_cut_35 (by decide) rfl ?_
  refine Wv.wld (ws' := (mw G b (bI false) rg (mix 0 (fun x => rg r1 (sb x v false)) wk) fi fa)) (by rw [mix_0]) ?_
  refine Wv.loop 1024 (fun i => (mw G b (bI false) rg (mix i (fun x => rg r1 (sb x v false)) wk) fi fa)) (fun i => [(5, .int (nI i)), (0, .ref (b 0)), (1, .int (nI t)), (2, .int (nI r1)), (3, .int (nI v)), (4, .int (bI false))]) ?_ ?_
  · show Wv p l e _ s m _ below meth c G A _ _ _ _ (mw G b (bI false) rg (mix 1024 (fun x => rg r1 (sb x v false)) wk) fi fa) 37 [(5, .int (nI 1024)), (0, .ref (b 0)), (1, .int (nI t)), (2, .int (nI r1)), (3, .int (nI v)), (4, .int (bI false))] []
    refine r_iload (pc := 37) h 0 d_M_cut_37 rfl ?_
    refine r_sipush (pc := 39) h (v := nI 1024) d_M_cut_39 (by decide) ?_
    refine r_icmp_ge_t (pc := 42) h (tgt := 87) d_M_cut_42 (by decide) (nI_le (Nat.le_refl _) (by decide)) ?_
    refine r_aload_n (pc := 87) h 1 d_M_cut_87 rfl rfl ?_
    refine r_iload_n (pc := 88) h 2 d_M_cut_88 rfl rfl ?_
    refine r_invVv (pc := 89) h 0 (st := []) d_M_cut_89 (c_keep t ht) (r_cV h wc_M_keep w_399 w_3 w_401 (TT_se (q := (y_M_keep, 5)) 11 rfl) hd_M_keep ⟨(Nat.le_of_ble_eq_true rfl), (Nat.le_of_ble_eq_true rfl)⟩ rfl rfl) mw_0 rfl rfl rfl (Nat.le_of_ble_eq_true rfl) ⟨(Nat.le_of_ble_eq_true rfl), (Nat.le_of_ble_eq_true rfl)⟩ mw_adr ?_
    exact r_vret (pc := 92) h hr d_M_cut_92
  · intro i hi ih
    have ih : Wv p l e _ s m _ below meth c G A _ _ _ _ (mw G b (bI false) rg (mix (i + 1) (fun x => rg r1 (sb x v false)) wk) fi fa) 37 [(5, .int (nI (i + 1))), (0, .ref (b 0)), (1, .int (nI t)), (2, .int (nI r1)), (3, .int (nI v)), (4, .int (bI false))] [] := ih
    show Wv p l e _ s m _ below meth c G A _ _ _ _ (mw G b (bI false) rg (mix i (fun x => rg r1 (sb x v false)) wk) fi fa) 37 [(5, .int (nI i)), (0, .ref (b 0)), (1, .int (nI t)), (2, .int (nI r1)), (3, .int (nI v)), (4, .int (bI false))] []
    refine r_iload (pc := 37) h 0 d_M_cut_37 rfl ?_
    refine r_sipush (pc := 39) h (v := nI 1024) d_M_cut_39 (by decide) ?_
    refine r_icmp_ge_f (pc := 42) h (tgt := 87) d_M_cut_42 (by decide) (nI_ge hi (by decide)) ?_
    refine r_aload_n (pc := 45) h 1 d_M_cut_45 rfl rfl ?_
    refine r_get (pc := 46) h 0 2 d_M_cut_46 mw_0 rfl (by decide) in_M (List.mem_cons_of_mem _ w_355) rfl ?_
    refine r_iload (pc := 49) h 0 d_M_cut_49 rfl ?_
    refine r_aload_n (pc := 51) h 1 d_M_cut_51 rfl rfl ?_
    refine r_get (pc := 52) h 0 1 d_M_cut_52 mw_0 rfl (by decide) in_M (List.mem_cons_of_mem _ w_354) rfl ?_
    refine r_iload_n (pc := 55) h 3 d_M_cut_55 rfl rfl ?_
    refine r_aaload (pc := 56) h 1 4 r1 d_M_cut_56 mw_1 rfl rfl rfl h1 (by decide) (mw_o h1) ?_
    refine r_iload (pc := 57) h 5 d_M_cut_57 rfl ?_
    refine r_if_eq_t (pc := 59) h (tgt := 71) d_M_cut_59 (by decide) rfl ?_
    refine r_iload (pc := 71) h 0 d_M_cut_71 rfl ?_
    refine r_iconst (pc := 73) h (v := nI 1) d_M_cut_73 (by decide) ?_
    refine r_iload_n (pc := 74) h 4 d_M_cut_74 rfl rfl ?_
    refine r_ishl (pc := 75) h (z := nI (2 ^ v)) d_M_cut_75 (nx_pw (by omega)) ?_
    refine r_iconst (pc := 76) h (v := (-1)) d_M_cut_76 (by decide) ?_
    refine r_ixor (pc := 77) h (z := nI (2 ^ v ^^^ 4294967295)) d_M_cut_77 (by rw [nx_m1, nx_xor]) ?_
    refine r_iand (pc := 78) h (z := nI (sb i v false)) d_M_cut_78 (by rw [nx_and, sb_and (by omega)]) ?_
    refine r_baload (pc := 79) h (5 + r1) (z := bI (rg r1 (sb i v false))) (sb i v false) d_M_cut_79 (mw_r h1) rfl (sb_lt hi hv) (by decide) rfl ?_
    refine r_bastore (pc := 80) h 2 (ws' := (mw G b (bI false) rg (mix (i + 1) (fun x => rg r1 (sb x v false)) wk) fi fa)) i d_M_cut_80 mw_2 rfl hi (by decide) (bI_nar _) (by rw [upd_b, mix_up i (fun x => rg r1 (sb x v false)) wk]; exact mw_s2) ?_
    refine r_iinc (pc := 81) h (v := nI (i + 1)) (lv' := [(5, .int (nI (i + 1))), (0, .ref (b 0)), (1, .int (nI t)), (2, .int (nI r1)), (3, .int (nI v)), (4, .int (bI false))]) 0 d_M_cut_81 rfl (nI_inc i) (by decide) rfl ?_
    refine r_goto (pc := 84) h (tgt := 37) d_M_cut_84 (by decide) ?_
    exact ih
theorem x_cut (t r1 v : Int32) (z : Int32) (hB : ¬ (okR 16 t ∧ okR 16 r1 ∧ okR 10 v)) : Ct l y_M_cut (.code y_M_cut b_M_cut 6 none :: TT) (rmF 2 61) G [.ref (b 0), .int t, .int r1, .int v, .int z] (mw G b th rg wk fi fa) none (mw G b (bI true) rg wk fi fa) := by
  refine ct_intro (cc := b_M_cut) (nL := 6) (by decide) [(0, .ref (b 0)), (1, .int t), (2, .int r1), (3, .int v), (4, .int z)] rfl (Nat.le_of_ble_eq_true rfl) ?_
  intro p e s m below meth c A h hr
  refine r_aload_n (pc := 0) h 0 d_M_cut_0 rfl rfl ?_
  refine r_iload_n (pc := 1) h 1 d_M_cut_1 rfl rfl ?_
  rcases pk_ix t (n := 16) (by decide) with hN | hN | ⟨j2, hj2, hN2⟩
  · refine r_invSa (pc := 2) h (st := [.ref (b 0)]) d_M_cut_2 (c_none_t t (Or.inl hN)) (r_cS h wc_M_none w_378 w_3 w_379 hd_M_none ⟨(Nat.le_of_ble_eq_true rfl), (Nat.le_of_ble_eq_true rfl)⟩ rfl rfl) rfl rfl (Nat.le_of_ble_eq_true rfl) ⟨(Nat.le_of_ble_eq_true rfl), (Nat.le_of_ble_eq_true rfl)⟩ rfl ?_
    refine r_if_ne_t (pc := 5) h (tgt := 22) d_M_cut_5 (by decide) (by decide) ?_
    refine r_iconst (pc := 22) h (v := bI true) d_M_cut_22 (by decide) ?_
    refine r_goto (pc := 23) h (tgt := 27) d_M_cut_23 (by decide) ?_
    refine r_invVa (pc := 27) h 0 (st := []) d_M_cut_27 c_bad_true (r_cV h wc_M_bad w_384 w_3 w_386 (TT_se (q := (y_M_bad, 5)) 10 rfl) hd_M_bad ⟨(Nat.le_of_ble_eq_true rfl), (Nat.le_of_ble_eq_true rfl)⟩ rfl rfl) mw_0 rfl rfl rfl (Nat.le_of_ble_eq_true rfl) ⟨(Nat.le_of_ble_eq_true rfl), (Nat.le_of_ble_eq_true rfl)⟩ mw_adr ?_
    refine r_if_eq_f (pc := 30) h (tgt := 34) d_M_cut_30 (by decide) (by decide) ?_
    exact r_vret (pc := 33) h hr d_M_cut_33
  · refine r_invSa (pc := 2) h (st := [.ref (b 0)]) d_M_cut_2 (c_none_t t (Or.inr hN)) (r_cS h wc_M_none w_378 w_3 w_379 hd_M_none ⟨(Nat.le_of_ble_eq_true rfl), (Nat.le_of_ble_eq_true rfl)⟩ rfl rfl) rfl rfl (Nat.le_of_ble_eq_true rfl) ⟨(Nat.le_of_ble_eq_true rfl), (Nat.le_of_ble_eq_true rfl)⟩ rfl ?_
    refine r_if_ne_t (pc := 5) h (tgt := 22) d_M_cut_5 (by decide) (by decide) ?_
    refine r_iconst (pc := 22) h (v := bI true) d_M_cut_22 (by decide) ?_
    refine r_goto (pc := 23) h (tgt := 27) d_M_cut_23 (by decide) ?_
    refine r_invVa (pc := 27) h 0 (st := []) d_M_cut_27 c_bad_true (r_cV h wc_M_bad w_384 w_3 w_386 (TT_se (q := (y_M_bad, 5)) 10 rfl) hd_M_bad ⟨(Nat.le_of_ble_eq_true rfl), (Nat.le_of_ble_eq_true rfl)⟩ rfl rfl) mw_0 rfl rfl rfl (Nat.le_of_ble_eq_true rfl) ⟨(Nat.le_of_ble_eq_true rfl), (Nat.le_of_ble_eq_true rfl)⟩ mw_adr ?_
    refine r_if_eq_f (pc := 30) h (tgt := 34) d_M_cut_30 (by decide) (by decide) ?_
    exact r_vret (pc := 33) h hr d_M_cut_33
  · subst hN2
    refine r_invSa (pc := 2) h (st := [.ref (b 0)]) d_M_cut_2 (c_none_f j2 hj2) (r_cS h wc_M_none w_378 w_3 w_379 hd_M_none ⟨(Nat.le_of_ble_eq_true rfl), (Nat.le_of_ble_eq_true rfl)⟩ rfl rfl) rfl rfl (Nat.le_of_ble_eq_true rfl) ⟨(Nat.le_of_ble_eq_true rfl), (Nat.le_of_ble_eq_true rfl)⟩ rfl ?_
    refine r_if_ne_f (pc := 5) h (tgt := 22) d_M_cut_5 (by decide) rfl ?_
    refine r_iload_n (pc := 8) h 2 d_M_cut_8 rfl rfl ?_
    rcases pk_ix r1 (n := 16) (by decide) with hN | hN | ⟨j9, hj9, hN9⟩
    · refine r_invSa (pc := 9) h (st := [.ref (b 0)]) d_M_cut_9 (c_none_t r1 (Or.inl hN)) (r_cS h wc_M_none w_378 w_3 w_379 hd_M_none ⟨(Nat.le_of_ble_eq_true rfl), (Nat.le_of_ble_eq_true rfl)⟩ rfl rfl) rfl rfl (Nat.le_of_ble_eq_true rfl) ⟨(Nat.le_of_ble_eq_true rfl), (Nat.le_of_ble_eq_true rfl)⟩ rfl ?_
      refine r_if_ne_t (pc := 12) h (tgt := 22) d_M_cut_12 (by decide) (by decide) ?_
      refine r_iconst (pc := 22) h (v := bI true) d_M_cut_22 (by decide) ?_
      refine r_goto (pc := 23) h (tgt := 27) d_M_cut_23 (by decide) ?_
      refine r_invVa (pc := 27) h 0 (st := []) d_M_cut_27 c_bad_true (r_cV h wc_M_bad w_384 w_3 w_386 (TT_se (q := (y_M_bad, 5)) 10 rfl) hd_M_bad ⟨(Nat.le_of_ble_eq_true rfl), (Nat.le_of_ble_eq_true rfl)⟩ rfl rfl) mw_0 rfl rfl rfl (Nat.le_of_ble_eq_true rfl) ⟨(Nat.le_of_ble_eq_true rfl), (Nat.le_of_ble_eq_true rfl)⟩ mw_adr ?_
      refine r_if_eq_f (pc := 30) h (tgt := 34) d_M_cut_30 (by decide) (by decide) ?_
      exact r_vret (pc := 33) h hr d_M_cut_33
    · refine r_invSa (pc := 9) h (st := [.ref (b 0)]) d_M_cut_9 (c_none_t r1 (Or.inr hN)) (r_cS h wc_M_none w_378 w_3 w_379 hd_M_none ⟨(Nat.le_of_ble_eq_true rfl), (Nat.le_of_ble_eq_true rfl)⟩ rfl rfl) rfl rfl (Nat.le_of_ble_eq_true rfl) ⟨(Nat.le_of_ble_eq_true rfl), (Nat.le_of_ble_eq_true rfl)⟩ rfl ?_
      refine r_if_ne_t (pc := 12) h (tgt := 22) d_M_cut_12 (by decide) (by decide) ?_
      refine r_iconst (pc := 22) h (v := bI true) d_M_cut_22 (by decide) ?_
      refine r_goto (pc := 23) h (tgt := 27) d_M_cut_23 (by decide) ?_
      refine r_invVa (pc := 27) h 0 (st := []) d_M_cut_27 c_bad_true (r_cV h wc_M_bad w_384 w_3 w_386 (TT_se (q := (y_M_bad, 5)) 10 rfl) hd_M_bad ⟨(Nat.le_of_ble_eq_true rfl), (Nat.le_of_ble_eq_true rfl)⟩ rfl rfl) mw_0 rfl rfl rfl (Nat.le_of_ble_eq_true rfl) ⟨(Nat.le_of_ble_eq_true rfl), (Nat.le_of_ble_eq_true rfl)⟩ mw_adr ?_
      refine r_if_eq_f (pc := 30) h (tgt := 34) d_M_cut_30 (by decide) (by decide) ?_
      exact r_vret (pc := 33) h hr d_M_cut_33
    · subst hN9
      refine r_invSa (pc := 9) h (st := [.ref (b 0)]) d_M_cut_9 (c_none_f j9 hj9) (r_cS h wc_M_none w_378 w_3 w_379 hd_M_none ⟨(Nat.le_of_ble_eq_true rfl), (Nat.le_of_ble_eq_true rfl)⟩ rfl rfl) rfl rfl (Nat.le_of_ble_eq_true rfl) ⟨(Nat.le_of_ble_eq_true rfl), (Nat.le_of_ble_eq_true rfl)⟩ rfl ?_
      refine r_if_ne_f (pc := 12) h (tgt := 22) d_M_cut_12 (by decide) rfl ?_
      refine r_iload_n (pc := 15) h 3 d_M_cut_15 rfl rfl ?_
      rcases pk_ix v (n := 10) (by decide) with hN | hN | ⟨j16, hj16, hN16⟩
      · refine r_invSa (pc := 16) h (st := [.ref (b 0)]) d_M_cut_16 (c_outside_t v (Or.inl hN)) (r_cS h wc_M_outside w_381 w_3 w_382 hd_M_outside ⟨(Nat.le_of_ble_eq_true rfl), (Nat.le_of_ble_eq_true rfl)⟩ rfl rfl) rfl rfl (Nat.le_of_ble_eq_true rfl) ⟨(Nat.le_of_ble_eq_true rfl), (Nat.le_of_ble_eq_true rfl)⟩ rfl ?_
        refine r_if_eq_f (pc := 19) h (tgt := 26) d_M_cut_19 (by decide) (by decide) ?_
        refine r_iconst (pc := 22) h (v := bI true) d_M_cut_22 (by decide) ?_
        refine r_goto (pc := 23) h (tgt := 27) d_M_cut_23 (by decide) ?_
        refine r_invVa (pc := 27) h 0 (st := []) d_M_cut_27 c_bad_true (r_cV h wc_M_bad w_384 w_3 w_386 (TT_se (q := (y_M_bad, 5)) 10 rfl) hd_M_bad ⟨(Nat.le_of_ble_eq_true rfl), (Nat.le_of_ble_eq_true rfl)⟩ rfl rfl) mw_0 rfl rfl rfl (Nat.le_of_ble_eq_true rfl) ⟨(Nat.le_of_ble_eq_true rfl), (Nat.le_of_ble_eq_true rfl)⟩ mw_adr ?_
        refine r_if_eq_f (pc := 30) h (tgt := 34) d_M_cut_30 (by decide) (by decide) ?_
        exact r_vret (pc := 33) h hr d_M_cut_33
      · refine r_invSa (pc := 16) h (st := [.ref (b 0)]) d_M_cut_16 (c_outside_t v (Or.inr hN)) (r_cS h wc_M_outside w_381 w_3 w_382 hd_M_outside ⟨(Nat.le_of_ble_eq_true rfl), (Nat.le_of_ble_eq_true rfl)⟩ rfl rfl) rfl rfl (Nat.le_of_ble_eq_true rfl) ⟨(Nat.le_of_ble_eq_true rfl), (Nat.le_of_ble_eq_true rfl)⟩ rfl ?_
        refine r_if_eq_f (pc := 19) h (tgt := 26) d_M_cut_19 (by decide) (by decide) ?_
        refine r_iconst (pc := 22) h (v := bI true) d_M_cut_22 (by decide) ?_
        refine r_goto (pc := 23) h (tgt := 27) d_M_cut_23 (by decide) ?_
        refine r_invVa (pc := 27) h 0 (st := []) d_M_cut_27 c_bad_true (r_cV h wc_M_bad w_384 w_3 w_386 (TT_se (q := (y_M_bad, 5)) 10 rfl) hd_M_bad ⟨(Nat.le_of_ble_eq_true rfl), (Nat.le_of_ble_eq_true rfl)⟩ rfl rfl) mw_0 rfl rfl rfl (Nat.le_of_ble_eq_true rfl) ⟨(Nat.le_of_ble_eq_true rfl), (Nat.le_of_ble_eq_true rfl)⟩ mw_adr ?_
        refine r_if_eq_f (pc := 30) h (tgt := 34) d_M_cut_30 (by decide) (by decide) ?_
        exact r_vret (pc := 33) h hr d_M_cut_33
      · exfalso
        exact hB ⟨⟨j2, hj2, rfl⟩, ⟨j9, hj9, rfl⟩, ⟨j16, hj16, hN16⟩⟩
theorem m_put (t : Nat) (ht : t < 16) (r1 v r2 : Nat) (h1 : r1 < 16) (hv : v < 10) (h2 : r2 < 16) : Ct l y_M_put (.code y_M_put b_M_put 6 none :: TT) (rmF 2 61) G [.ref (b 0), .int (nI t), .int (nI r1), .int (nI v), .int (nI r2)] (mw G b th rg wk fi fa) none (mw G b (bI false) (va_up rg t (mix 1024 (mix 1024 (fun x => rg r1 (sb x v (rg r2 x))) wk) (rg t))) (mix 1024 (fun x => rg r1 (sb x v (rg r2 x))) wk) fi fa) := by
  refine ct_intro (cc := b_M_put) (nL := 6) (by decide) [(0, .ref (b 0)), (1, .int (nI t)), (2, .int (nI r1)), (3, .int (nI v)), (4, .int (nI r2))] rfl (Nat.le_of_ble_eq_true rfl) ?_
  intro p e s m below meth c A h hr
  refine r_aload_n (pc := 0) h 0 d_M_put_0 rfl rfl ?_
  refine r_iload_n (pc := 1) h 1 d_M_put_1 rfl rfl ?_
  refine r_invSa (pc := 2) h (st := [.ref (b 0)]) d_M_put_2 (c_none_f t ht) (r_cS h wc_M_none w_378 w_3 w_379 hd_M_none ⟨(Nat.le_of_ble_eq_true rfl), (Nat.le_of_ble_eq_true rfl)⟩ rfl rfl) rfl rfl (Nat.le_of_ble_eq_true rfl) ⟨(Nat.le_of_ble_eq_true rfl), (Nat.le_of_ble_eq_true rfl)⟩ rfl ?_
  refine r_if_ne_f (pc := 5) h (tgt := 30) d_M_put_5 (by decide) rfl ?_
  refine r_iload_n (pc := 8) h 2 d_M_put_8 rfl rfl ?_
  refine r_invSa (pc := 9) h (st := [.ref (b 0)]) d_M_put_9 (c_none_f r1 h1) (r_cS h wc_M_none w_378 w_3 w_379 hd_M_none ⟨(Nat.le_of_ble_eq_true rfl), (Nat.le_of_ble_eq_true rfl)⟩ rfl rfl) rfl rfl (Nat.le_of_ble_eq_true rfl) ⟨(Nat.le_of_ble_eq_true rfl), (Nat.le_of_ble_eq_true rfl)⟩ rfl ?_
  refine r_if_ne_f (pc := 12) h (tgt := 30) d_M_put_12 (by decide) rfl ?_
  refine r_iload_n (pc := 15) h 3 d_M_put_15 rfl rfl ?_
  refine r_invSa (pc := 16) h (st := [.ref (b 0)]) d_M_put_16 (c_outside_f v hv) (r_cS h wc_M_outside w_381 w_3 w_382 hd_M_outside ⟨(Nat.le_of_ble_eq_true rfl), (Nat.le_of_ble_eq_true rfl)⟩ rfl rfl) rfl rfl (Nat.le_of_ble_eq_true rfl) ⟨(Nat.le_of_ble_eq_true rfl), (Nat.le_of_ble_eq_true rfl)⟩ rfl ?_
  refine r_if_ne_f (pc := 19) h (tgt := 30) d_M_put_19 (by decide) rfl ?_
  refine r_iload (pc := 22) h 4 d_M_put_22 rfl ?_
  refine r_invSa (pc := 24) h (st := [.ref (b 0)]) d_M_put_24 (c_none_f r2 h2) (r_cS h wc_M_none w_378 w_3 w_379 hd_M_none ⟨(Nat.le_of_ble_eq_true rfl), (Nat.le_of_ble_eq_true rfl)⟩ rfl rfl) rfl rfl (Nat.le_of_ble_eq_true rfl) ⟨(Nat.le_of_ble_eq_true rfl), (Nat.le_of_ble_eq_true rfl)⟩ rfl ?_
  refine r_if_eq_t (pc := 27) h (tgt := 34) d_M_put_27 (by decide) rfl ?_
  refine r_iconst (pc := 34) h (v := bI false) d_M_put_34 (by decide) ?_
  refine r_invVa (pc := 35) h 0 (st := []) d_M_put_35 c_bad_false (r_cV h wc_M_bad w_384 w_3 w_386 (TT_se (q := (y_M_bad, 5)) 10 rfl) hd_M_bad ⟨(Nat.le_of_ble_eq_true rfl), (Nat.le_of_ble_eq_true rfl)⟩ rfl rfl) mw_0 rfl rfl rfl (Nat.le_of_ble_eq_true rfl) ⟨(Nat.le_of_ble_eq_true rfl), (Nat.le_of_ble_eq_true rfl)⟩ mw_adr ?_
  refine r_if_eq_t (pc := 38) h (tgt := 42) d_M_put_38 (by decide) rfl ?_
  refine r_iconst (pc := 42) h (v := nI 0) d_M_put_42 (by decide) ?_
  refine r_istore (pc := 43) h (lv' := [(5, .int (nI 0)), (0, .ref (b 0)), (1, .int (nI t)), (2, .int (nI r1)), (3, .int (nI v)), (4, .int (nI r2))]) d_M_put_43 (by decide) rfl ?_
  refine Wv.wld (ws' := (mw G b (bI false) rg (mix 0 (fun x => rg r1 (sb x v (rg r2 x))) wk) fi fa)) (by rw [mix_0]) ?_
  refine Wv.loop 1024 (fun i => (mw G b (bI false) rg (mix i (fun x => rg r1 (sb x v (rg r2 x))) wk) fi fa)) (fun i => [(5, .int (nI i)), (0, .ref (b 0)), (1, .int (nI t)), (2, .int (nI r1)), (3, .int (nI v)), (4, .int (nI r2))]) ?_ ?_
  · show Wv p l e _ s m _ below meth c G A _ _ _ _ (mw G b (bI false) rg (mix 1024 (fun x => rg r1 (sb x v (rg r2 x))) wk) fi fa) 45 [(5, .int (nI 1024)), (0, .ref (b 0)), (1, .int (nI t)), (2, .int (nI r1)), (3, .int (nI v)), (4, .int (nI r2))] []
    refine r_iload (pc := 45) h 0 d_M_put_45 rfl ?_
    refine r_sipush (pc := 47) h (v := nI 1024) d_M_put_47 (by decide) ?_
    refine r_icmp_ge_t (pc := 50) h (tgt := 103) d_M_put_50 (by decide) (nI_le (Nat.le_refl _) (by decide)) ?_
    refine r_aload_n (pc := 103) h 1 d_M_put_103 rfl rfl ?_
    refine r_iload_n (pc := 104) h 2 d_M_put_104 rfl rfl ?_
    refine r_invVv (pc := 105) h 0 (st := []) d_M_put_105 (c_keep t ht) (r_cV h wc_M_keep w_399 w_3 w_401 (TT_se (q := (y_M_keep, 5)) 11 rfl) hd_M_keep ⟨(Nat.le_of_ble_eq_true rfl), (Nat.le_of_ble_eq_true rfl)⟩ rfl rfl) mw_0 rfl rfl rfl (Nat.le_of_ble_eq_true rfl) ⟨(Nat.le_of_ble_eq_true rfl), (Nat.le_of_ble_eq_true rfl)⟩ mw_adr ?_
    exact r_vret (pc := 108) h hr d_M_put_108
  · intro i hi ih
    have ih : Wv p l e _ s m _ below meth c G A _ _ _ _ (mw G b (bI false) rg (mix (i + 1) (fun x => rg r1 (sb x v (rg r2 x))) wk) fi fa) 45 [(5, .int (nI (i + 1))), (0, .ref (b 0)), (1, .int (nI t)), (2, .int (nI r1)), (3, .int (nI v)), (4, .int (nI r2))] [] := ih
    show Wv p l e _ s m _ below meth c G A _ _ _ _ (mw G b (bI false) rg (mix i (fun x => rg r1 (sb x v (rg r2 x))) wk) fi fa) 45 [(5, .int (nI i)), (0, .ref (b 0)), (1, .int (nI t)), (2, .int (nI r1)), (3, .int (nI v)), (4, .int (nI r2))] []
    refine r_iload (pc := 45) h 0 d_M_put_45 rfl ?_
    refine r_sipush (pc := 47) h (v := nI 1024) d_M_put_47 (by decide) ?_
    refine r_icmp_ge_f (pc := 50) h (tgt := 103) d_M_put_50 (by decide) (nI_ge hi (by decide)) ?_
    refine r_aload_n (pc := 53) h 1 d_M_put_53 rfl rfl ?_
    refine r_get (pc := 54) h 0 2 d_M_put_54 mw_0 rfl (by decide) in_M (List.mem_cons_of_mem _ w_355) rfl ?_
    refine r_iload (pc := 57) h 0 d_M_put_57 rfl ?_
    refine r_aload_n (pc := 59) h 1 d_M_put_59 rfl rfl ?_
    refine r_get (pc := 60) h 0 1 d_M_put_60 mw_0 rfl (by decide) in_M (List.mem_cons_of_mem _ w_354) rfl ?_
    refine r_iload_n (pc := 63) h 3 d_M_put_63 rfl rfl ?_
    refine r_aaload (pc := 64) h 1 4 r1 d_M_put_64 mw_1 rfl rfl rfl h1 (by decide) (mw_o h1) ?_
    refine r_aload_n (pc := 65) h 1 d_M_put_65 rfl rfl ?_
    refine r_get (pc := 66) h 0 1 d_M_put_66 mw_0 rfl (by decide) in_M (List.mem_cons_of_mem _ w_354) rfl ?_
    refine r_iload (pc := 69) h 5 d_M_put_69 rfl ?_
    refine r_aaload (pc := 71) h 1 4 r2 d_M_put_71 mw_1 rfl rfl rfl h2 (by decide) (mw_o h2) ?_
    refine r_iload (pc := 72) h 0 d_M_put_72 rfl ?_
    refine r_baload (pc := 74) h (5 + r2) (z := bI (rg r2 i)) i d_M_put_74 (mw_r h2) rfl hi (by decide) rfl ?_
    refine r_if_eq (pc := 75) h (tgt := 87) d_M_put_75 (by decide) (fun q75 => ?_) (fun q75 => ?_)
    · have hb75 := bI_F q75
      refine r_iload (pc := 87) h 0 d_M_put_87 rfl ?_
      refine r_iconst (pc := 89) h (v := nI 1) d_M_put_89 (by decide) ?_
      refine r_iload_n (pc := 90) h 4 d_M_put_90 rfl rfl ?_
      refine r_ishl (pc := 91) h (z := nI (2 ^ v)) d_M_put_91 (nx_pw (by omega)) ?_
      refine r_iconst (pc := 92) h (v := (-1)) d_M_put_92 (by decide) ?_
      refine r_ixor (pc := 93) h (z := nI (2 ^ v ^^^ 4294967295)) d_M_put_93 (by rw [nx_m1, nx_xor]) ?_
      refine r_iand (pc := 94) h (z := nI (sb i v false)) d_M_put_94 (by rw [nx_and, sb_and (by omega)]) ?_
      refine r_baload (pc := 95) h (5 + r1) (z := bI (rg r1 (sb i v false))) (sb i v false) d_M_put_95 (mw_r h1) rfl (sb_lt hi hv) (by decide) rfl ?_
      refine Wv.top (v' := .int (bI (rg r1 (sb i v (rg r2 i))))) (by rw [hb75]) ?_
      refine r_bastore (pc := 96) h 2 (ws' := (mw G b (bI false) rg (mix (i + 1) (fun x => rg r1 (sb x v (rg r2 x))) wk) fi fa)) i d_M_put_96 mw_2 rfl hi (by decide) (bI_nar _) (by rw [upd_b, mix_up i (fun x => rg r1 (sb x v (rg r2 x))) wk]; exact mw_s2) ?_
      refine r_iinc (pc := 97) h (v := nI (i + 1)) (lv' := [(5, .int (nI (i + 1))), (0, .ref (b 0)), (1, .int (nI t)), (2, .int (nI r1)), (3, .int (nI v)), (4, .int (nI r2))]) 0 d_M_put_97 rfl (nI_inc i) (by decide) rfl ?_
      refine r_goto (pc := 100) h (tgt := 45) d_M_put_100 (by decide) ?_
      exact ih
    · have hb75 := bI_T q75
      refine r_iload (pc := 78) h 0 d_M_put_78 rfl ?_
      refine r_iconst (pc := 80) h (v := nI 1) d_M_put_80 (by decide) ?_
      refine r_iload_n (pc := 81) h 4 d_M_put_81 rfl rfl ?_
      refine r_ishl (pc := 82) h (z := nI (2 ^ v)) d_M_put_82 (nx_pw (by omega)) ?_
      refine r_ior (pc := 83) h (z := nI (sb i v true)) d_M_put_83 (by rw [nx_or, sb_or]) ?_
      refine r_goto (pc := 84) h (tgt := 95) d_M_put_84 (by decide) ?_
      refine r_baload (pc := 95) h (5 + r1) (z := bI (rg r1 (sb i v true))) (sb i v true) d_M_put_95 (mw_r h1) rfl (sb_lt hi hv) (by decide) rfl ?_
      refine Wv.top (v' := .int (bI (rg r1 (sb i v (rg r2 i))))) (by rw [hb75]) ?_
      refine r_bastore (pc := 96) h 2 (ws' := (mw G b (bI false) rg (mix (i + 1) (fun x => rg r1 (sb x v (rg r2 x))) wk) fi fa)) i d_M_put_96 mw_2 rfl hi (by decide) (bI_nar _) (by rw [upd_b, mix_up i (fun x => rg r1 (sb x v (rg r2 x))) wk]; exact mw_s2) ?_
      refine r_iinc (pc := 97) h (v := nI (i + 1)) (lv' := [(5, .int (nI (i + 1))), (0, .ref (b 0)), (1, .int (nI t)), (2, .int (nI r1)), (3, .int (nI v)), (4, .int (nI r2))]) 0 d_M_put_97 rfl (nI_inc i) (by decide) rfl ?_
      refine r_goto (pc := 100) h (tgt := 45) d_M_put_100 (by decide) ?_
      exact ih
theorem x_put (t r1 v r2 : Int32)  (hB : ¬ (okR 16 t ∧ okR 16 r1 ∧ okR 10 v ∧ okR 16 r2)) : Ct l y_M_put (.code y_M_put b_M_put 6 none :: TT) (rmF 2 61) G [.ref (b 0), .int t, .int r1, .int v, .int r2] (mw G b th rg wk fi fa) none (mw G b (bI true) rg wk fi fa) := by
  refine ct_intro (cc := b_M_put) (nL := 6) (by decide) [(0, .ref (b 0)), (1, .int t), (2, .int r1), (3, .int v), (4, .int r2)] rfl (Nat.le_of_ble_eq_true rfl) ?_
  intro p e s m below meth c A h hr
  refine r_aload_n (pc := 0) h 0 d_M_put_0 rfl rfl ?_
  refine r_iload_n (pc := 1) h 1 d_M_put_1 rfl rfl ?_
  rcases pk_ix t (n := 16) (by decide) with hN | hN | ⟨j2, hj2, hN2⟩
  · refine r_invSa (pc := 2) h (st := [.ref (b 0)]) d_M_put_2 (c_none_t t (Or.inl hN)) (r_cS h wc_M_none w_378 w_3 w_379 hd_M_none ⟨(Nat.le_of_ble_eq_true rfl), (Nat.le_of_ble_eq_true rfl)⟩ rfl rfl) rfl rfl (Nat.le_of_ble_eq_true rfl) ⟨(Nat.le_of_ble_eq_true rfl), (Nat.le_of_ble_eq_true rfl)⟩ rfl ?_
    refine r_if_ne_t (pc := 5) h (tgt := 30) d_M_put_5 (by decide) (by decide) ?_
    refine r_iconst (pc := 30) h (v := bI true) d_M_put_30 (by decide) ?_
    refine r_goto (pc := 31) h (tgt := 35) d_M_put_31 (by decide) ?_
    refine r_invVa (pc := 35) h 0 (st := []) d_M_put_35 c_bad_true (r_cV h wc_M_bad w_384 w_3 w_386 (TT_se (q := (y_M_bad, 5)) 10 rfl) hd_M_bad ⟨(Nat.le_of_ble_eq_true rfl), (Nat.le_of_ble_eq_true rfl)⟩ rfl rfl) mw_0 rfl rfl rfl (Nat.le_of_ble_eq_true rfl) ⟨(Nat.le_of_ble_eq_true rfl), (Nat.le_of_ble_eq_true rfl)⟩ mw_adr ?_
    refine r_if_eq_f (pc := 38) h (tgt := 42) d_M_put_38 (by decide) (by decide) ?_
    exact r_vret (pc := 41) h hr d_M_put_41
  · refine r_invSa (pc := 2) h (st := [.ref (b 0)]) d_M_put_2 (c_none_t t (Or.inr hN)) (r_cS h wc_M_none w_378 w_3 w_379 hd_M_none ⟨(Nat.le_of_ble_eq_true rfl), (Nat.le_of_ble_eq_true rfl)⟩ rfl rfl) rfl rfl (Nat.le_of_ble_eq_true rfl) ⟨(Nat.le_of_ble_eq_true rfl), (Nat.le_of_ble_eq_true rfl)⟩ rfl ?_
    refine r_if_ne_t (pc := 5) h (tgt := 30) d_M_put_5 (by decide) (by decide) ?_
    refine r_iconst (pc := 30) h (v := bI true) d_M_put_30 (by decide) ?_
    refine r_goto (pc := 31) h (tgt := 35) d_M_put_31 (by decide) ?_
    refine r_invVa (pc := 35) h 0 (st := []) d_M_put_35 c_bad_true (r_cV h wc_M_bad w_384 w_3 w_386 (TT_se (q := (y_M_bad, 5)) 10 rfl) hd_M_bad ⟨(Nat.le_of_ble_eq_true rfl), (Nat.le_of_ble_eq_true rfl)⟩ rfl rfl) mw_0 rfl rfl rfl (Nat.le_of_ble_eq_true rfl) ⟨(Nat.le_of_ble_eq_true rfl), (Nat.le_of_ble_eq_true rfl)⟩ mw_adr ?_
    refine r_if_eq_f (pc := 38) h (tgt := 42) d_M_put_38 (by decide) (by decide) ?_
    exact r_vret (pc := 41) h hr d_M_put_41
  · subst hN2
    refine r_invSa (pc := 2) h (st := [.ref (b 0)]) d_M_put_2 (c_none_f j2 hj2) (r_cS h wc_M_none w_378 w_3 w_379 hd_M_none ⟨(Nat.le_of_ble_eq_true rfl), (Nat.le_of_ble_eq_true rfl)⟩ rfl rfl) rfl rfl (Nat.le_of_ble_eq_true rfl) ⟨(Nat.le_of_ble_eq_true rfl), (Nat.le_of_ble_eq_true rfl)⟩ rfl ?_
    refine r_if_ne_f (pc := 5) h (tgt := 30) d_M_put_5 (by decide) rfl ?_
    refine r_iload_n (pc := 8) h 2 d_M_put_8 rfl rfl ?_
    rcases pk_ix r1 (n := 16) (by decide) with hN | hN | ⟨j9, hj9, hN9⟩
    · refine r_invSa (pc := 9) h (st := [.ref (b 0)]) d_M_put_9 (c_none_t r1 (Or.inl hN)) (r_cS h wc_M_none w_378 w_3 w_379 hd_M_none ⟨(Nat.le_of_ble_eq_true rfl), (Nat.le_of_ble_eq_true rfl)⟩ rfl rfl) rfl rfl (Nat.le_of_ble_eq_true rfl) ⟨(Nat.le_of_ble_eq_true rfl), (Nat.le_of_ble_eq_true rfl)⟩ rfl ?_
      refine r_if_ne_t (pc := 12) h (tgt := 30) d_M_put_12 (by decide) (by decide) ?_
      refine r_iconst (pc := 30) h (v := bI true) d_M_put_30 (by decide) ?_
      refine r_goto (pc := 31) h (tgt := 35) d_M_put_31 (by decide) ?_
      refine r_invVa (pc := 35) h 0 (st := []) d_M_put_35 c_bad_true (r_cV h wc_M_bad w_384 w_3 w_386 (TT_se (q := (y_M_bad, 5)) 10 rfl) hd_M_bad ⟨(Nat.le_of_ble_eq_true rfl), (Nat.le_of_ble_eq_true rfl)⟩ rfl rfl) mw_0 rfl rfl rfl (Nat.le_of_ble_eq_true rfl) ⟨(Nat.le_of_ble_eq_true rfl), (Nat.le_of_ble_eq_true rfl)⟩ mw_adr ?_
      refine r_if_eq_f (pc := 38) h (tgt := 42) d_M_put_38 (by decide) (by decide) ?_
      exact r_vret (pc := 41) h hr d_M_put_41
    · refine r_invSa (pc := 9) h (st := [.ref (b 0)]) d_M_put_9 (c_none_t r1 (Or.inr hN)) (r_cS h wc_M_none w_378 w_3 w_379 hd_M_none ⟨(Nat.le_of_ble_eq_true rfl), (Nat.le_of_ble_eq_true rfl)⟩ rfl rfl) rfl rfl (Nat.le_of_ble_eq_true rfl) ⟨(Nat.le_of_ble_eq_true rfl), (Nat.le_of_ble_eq_true rfl)⟩ rfl ?_
      refine r_if_ne_t (pc := 12) h (tgt := 30) d_M_put_12 (by decide) (by decide) ?_
      refine r_iconst (pc := 30) h (v := bI true) d_M_put_30 (by decide) ?_
      refine r_goto (pc := 31) h (tgt := 35) d_M_put_31 (by decide) ?_
      refine r_invVa (pc := 35) h 0 (st := []) d_M_put_35 c_bad_true (r_cV h wc_M_bad w_384 w_3 w_386 (TT_se (q := (y_M_bad, 5)) 10 rfl) hd_M_bad ⟨(Nat.le_of_ble_eq_true rfl), (Nat.le_of_ble_eq_true rfl)⟩ rfl rfl) mw_0 rfl rfl rfl (Nat.le_of_ble_eq_true rfl) ⟨(Nat.le_of_ble_eq_true rfl), (Nat.le_of_ble_eq_true rfl)⟩ mw_adr ?_
      refine r_if_eq_f (pc := 38) h (tgt := 42) d_M_put_38 (by decide) (by decide) ?_
      exact r_vret (pc := 41) h hr d_M_put_41
    · subst hN9
      refine r_invSa (pc := 9) h (st := [.ref (b 0)]) d_M_put_9 (c_none_f j9 hj9) (r_cS h wc_M_none w_378 w_3 w_379 hd_M_none ⟨(Nat.le_of_ble_eq_true rfl), (Nat.le_of_ble_eq_true rfl)⟩ rfl rfl) rfl rfl (Nat.le_of_ble_eq_true rfl) ⟨(Nat.le_of_ble_eq_true rfl), (Nat.le_of_ble_eq_true rfl)⟩ rfl ?_
      refine r_if_ne_f (pc := 12) h (tgt := 30) d_M_put_12 (by decide) rfl ?_
      refine r_iload_n (pc := 15) h 3 d_M_put_15 rfl rfl ?_
      rcases pk_ix v (n := 10) (by decide) with hN | hN | ⟨j16, hj16, hN16⟩
      · refine r_invSa (pc := 16) h (st := [.ref (b 0)]) d_M_put_16 (c_outside_t v (Or.inl hN)) (r_cS h wc_M_outside w_381 w_3 w_382 hd_M_outside ⟨(Nat.le_of_ble_eq_true rfl), (Nat.le_of_ble_eq_true rfl)⟩ rfl rfl) rfl rfl (Nat.le_of_ble_eq_true rfl) ⟨(Nat.le_of_ble_eq_true rfl), (Nat.le_of_ble_eq_true rfl)⟩ rfl ?_
        refine r_if_ne_t (pc := 19) h (tgt := 30) d_M_put_19 (by decide) (by decide) ?_
        refine r_iconst (pc := 30) h (v := bI true) d_M_put_30 (by decide) ?_
        refine r_goto (pc := 31) h (tgt := 35) d_M_put_31 (by decide) ?_
        refine r_invVa (pc := 35) h 0 (st := []) d_M_put_35 c_bad_true (r_cV h wc_M_bad w_384 w_3 w_386 (TT_se (q := (y_M_bad, 5)) 10 rfl) hd_M_bad ⟨(Nat.le_of_ble_eq_true rfl), (Nat.le_of_ble_eq_true rfl)⟩ rfl rfl) mw_0 rfl rfl rfl (Nat.le_of_ble_eq_true rfl) ⟨(Nat.le_of_ble_eq_true rfl), (Nat.le_of_ble_eq_true rfl)⟩ mw_adr ?_
        refine r_if_eq_f (pc := 38) h (tgt := 42) d_M_put_38 (by decide) (by decide) ?_
        exact r_vret (pc := 41) h hr d_M_put_41
      · refine r_invSa (pc := 16) h (st := [.ref (b 0)]) d_M_put_16 (c_outside_t v (Or.inr hN)) (r_cS h wc_M_outside w_381 w_3 w_382 hd_M_outside ⟨(Nat.le_of_ble_eq_true rfl), (Nat.le_of_ble_eq_true rfl)⟩ rfl rfl) rfl rfl (Nat.le_of_ble_eq_true rfl) ⟨(Nat.le_of_ble_eq_true rfl), (Nat.le_of_ble_eq_true rfl)⟩ rfl ?_
        refine r_if_ne_t (pc := 19) h (tgt := 30) d_M_put_19 (by decide) (by decide) ?_
        refine r_iconst (pc := 30) h (v := bI true) d_M_put_30 (by decide) ?_
        refine r_goto (pc := 31) h (tgt := 35) d_M_put_31 (by decide) ?_
        refine r_invVa (pc := 35) h 0 (st := []) d_M_put_35 c_bad_true (r_cV h wc_M_bad w_384 w_3 w_386 (TT_se (q := (y_M_bad, 5)) 10 rfl) hd_M_bad ⟨(Nat.le_of_ble_eq_true rfl), (Nat.le_of_ble_eq_true rfl)⟩ rfl rfl) mw_0 rfl rfl rfl (Nat.le_of_ble_eq_true rfl) ⟨(Nat.le_of_ble_eq_true rfl), (Nat.le_of_ble_eq_true rfl)⟩ mw_adr ?_
        refine r_if_eq_f (pc := 38) h (tgt := 42) d_M_put_38 (by decide) (by decide) ?_
        exact r_vret (pc := 41) h hr d_M_put_41
      · subst hN16
        refine r_invSa (pc := 16) h (st := [.ref (b 0)]) d_M_put_16 (c_outside_f j16 hj16) (r_cS h wc_M_outside w_381 w_3 w_382 hd_M_outside ⟨(Nat.le_of_ble_eq_true rfl), (Nat.le_of_ble_eq_true rfl)⟩ rfl rfl) rfl rfl (Nat.le_of_ble_eq_true rfl) ⟨(Nat.le_of_ble_eq_true rfl), (Nat.le_of_ble_eq_true rfl)⟩ rfl ?_
        refine r_if_ne_f (pc := 19) h (tgt := 30) d_M_put_19 (by decide) rfl ?_
        refine r_iload (pc := 22) h 4 d_M_put_22 rfl ?_
        rcases pk_ix r2 (n := 16) (by decide) with hN | hN | ⟨j24, hj24, hN24⟩
        · refine r_invSa (pc := 24) h (st := [.ref (b 0)]) d_M_put_24 (c_none_t r2 (Or.inl hN)) (r_cS h wc_M_none w_378 w_3 w_379 hd_M_none ⟨(Nat.le_of_ble_eq_true rfl), (Nat.le_of_ble_eq_true rfl)⟩ rfl rfl) rfl rfl (Nat.le_of_ble_eq_true rfl) ⟨(Nat.le_of_ble_eq_true rfl), (Nat.le_of_ble_eq_true rfl)⟩ rfl ?_
          refine r_if_eq_f (pc := 27) h (tgt := 34) d_M_put_27 (by decide) (by decide) ?_
          refine r_iconst (pc := 30) h (v := bI true) d_M_put_30 (by decide) ?_
          refine r_goto (pc := 31) h (tgt := 35) d_M_put_31 (by decide) ?_
          refine r_invVa (pc := 35) h 0 (st := []) d_M_put_35 c_bad_true (r_cV h wc_M_bad w_384 w_3 w_386 (TT_se (q := (y_M_bad, 5)) 10 rfl) hd_M_bad ⟨(Nat.le_of_ble_eq_true rfl), (Nat.le_of_ble_eq_true rfl)⟩ rfl rfl) mw_0 rfl rfl rfl (Nat.le_of_ble_eq_true rfl) ⟨(Nat.le_of_ble_eq_true rfl), (Nat.le_of_ble_eq_true rfl)⟩ mw_adr ?_
          refine r_if_eq_f (pc := 38) h (tgt := 42) d_M_put_38 (by decide) (by decide) ?_
          exact r_vret (pc := 41) h hr d_M_put_41
        · refine r_invSa (pc := 24) h (st := [.ref (b 0)]) d_M_put_24 (c_none_t r2 (Or.inr hN)) (r_cS h wc_M_none w_378 w_3 w_379 hd_M_none ⟨(Nat.le_of_ble_eq_true rfl), (Nat.le_of_ble_eq_true rfl)⟩ rfl rfl) rfl rfl (Nat.le_of_ble_eq_true rfl) ⟨(Nat.le_of_ble_eq_true rfl), (Nat.le_of_ble_eq_true rfl)⟩ rfl ?_
          refine r_if_eq_f (pc := 27) h (tgt := 34) d_M_put_27 (by decide) (by decide) ?_
          refine r_iconst (pc := 30) h (v := bI true) d_M_put_30 (by decide) ?_
          refine r_goto (pc := 31) h (tgt := 35) d_M_put_31 (by decide) ?_
          refine r_invVa (pc := 35) h 0 (st := []) d_M_put_35 c_bad_true (r_cV h wc_M_bad w_384 w_3 w_386 (TT_se (q := (y_M_bad, 5)) 10 rfl) hd_M_bad ⟨(Nat.le_of_ble_eq_true rfl), (Nat.le_of_ble_eq_true rfl)⟩ rfl rfl) mw_0 rfl rfl rfl (Nat.le_of_ble_eq_true rfl) ⟨(Nat.le_of_ble_eq_true rfl), (Nat.le_of_ble_eq_true rfl)⟩ mw_adr ?_
          refine r_if_eq_f (pc := 38) h (tgt := 42) d_M_put_38 (by decide) (by decide) ?_
          exact r_vret (pc := 41) h hr d_M_put_41
        · exfalso
          exact hB ⟨⟨j2, hj2, rfl⟩, ⟨j9, hj9, rfl⟩, ⟨j16, hj16, rfl⟩, ⟨j24, hj24, hN24⟩⟩
end MP
end
