-- the diagram takes rows; how many nodes it has
theorem sub_e (F : Nat → Bool) (v j : Nat) : (fun m => subf F v j (2 * m)) = subf F (v + 1) j := by
  funext m
  unfold subf
  rw [Nat.pow_succ, Nat.mul_comm (2 ^ v) 2, ← Nat.mul_assoc, Nat.mul_comm m 2]
theorem sub_o (F : Nat → Bool) (v j : Nat) : (fun m => subf F v j (2 * m + 1)) = subf F (v + 1) (j + 2 ^ v) := by
  funext m
  unfold subf
  rw [Nat.pow_succ, Nat.mul_comm (2 ^ v) 2, ← Nat.mul_assoc, Nat.mul_comm m 2, Nat.add_mul, Nat.one_mul]
  exact congrArg F (by omega)
theorem x1_e (q : Nat) : (2 * q) ^^^ 1 = 2 * q + 1 := by
  have h1 : ((2 * q) ^^^ 1) / 2 = 2 * q / 2 ^^^ 1 / 2 := Nat.xor_div_two_pow (n := 1)
  have h2 : ((2 * q) ^^^ 1) % 2 = 2 * q % 2 ^^^ 1 % 2 := Nat.xor_mod_two_pow (n := 1)
  rw [show 2 * q / 2 = q by omega, show 1 / 2 = 0 from rfl, Nat.xor_zero] at h1
  rw [show 2 * q % 2 = 0 by omega, show 1 % 2 = 1 from rfl, Nat.zero_xor] at h2
  omega
theorem x1_o (q : Nat) : (2 * q + 1) ^^^ 1 = 2 * q := by
  rw [← x1_e q, Nat.xor_assoc, Nat.xor_self, Nat.xor_zero]
theorem dep_ne {F : Nat → Bool} {k v : Nat} (hk : k < 10) : dep F k v ↔ ∃ m, m < 2 ^ (9 - k) ∧ subf F (k + 1) v m ≠ subf F (k + 1) (v + 2 ^ k) m := by
  have hp : 2 ^ (10 - k) = 2 * 2 ^ (9 - k) := by rw [(pw_k k hk).2.2.2.1, Nat.pow_succ, Nat.mul_comm]
  have he : ∀ q, F (v + 2 * q * 2 ^ k) = subf F (k + 1) v q := fun q => congrFun (sub_e F k v) q
  have ho : ∀ q, F (v + (2 * q + 1) * 2 ^ k) = subf F (k + 1) (v + 2 ^ k) q := fun q => congrFun (sub_o F k v) q
  constructor
  · rintro ⟨m, hm, hne⟩
    rcases Nat.mod_two_eq_zero_or_one m with h | h
    · obtain ⟨q, rfl⟩ : ∃ q, m = 2 * q := ⟨m / 2, by omega⟩
      rw [x1_e, he, ho] at hne
      exact ⟨q, by omega, hne⟩
    · obtain ⟨q, rfl⟩ : ∃ q, m = 2 * q + 1 := ⟨m / 2, by omega⟩
      rw [x1_o, he, ho] at hne
      exact ⟨q, by omega, fun z => hne z.symm⟩
  · rintro ⟨q, hq, hne⟩
    refine ⟨2 * q, by omega, ?_⟩
    rw [x1_e, he, ho]
    exact hne
/-- two names differ just if the function hangs on its first variable -/
theorem name_dep {kt : Nat → Nat} {F : Nat → Bool} {k n0 n1 v : Nat} (hT : TI kt) (hk : k < 10) (h0 : ND kt (9 - k) n0 (subf F (k + 1) v)) (h1 : ND kt (9 - k) n1 (subf F (k + 1) (v + 2 ^ k))) : n0 ≠ n1 ↔ dep F k v := by
  rw [dep_ne hk]
  constructor
  · intro hne
    apply Classical.byContradiction
    intro hno
    exact hne (ND_fun hT h0 (ND_ext (fun m hm => Classical.byContradiction (fun z => hno ⟨m, hm, fun y => z y.symm⟩)) h1))
  · rintro ⟨m, hm, hne⟩ e
    subst e
    exact hne (ND_inj (by omega) h0 h1 m hm)
/-- a part of one of sixteen functions -/
def IsP (S : Nat → Nat → Bool) (c : Nat × List Bool) : Prop := ∃ r k v, r < 16 ∧ k < 10 ∧ v < 2 ^ k ∧ c = pcode (9 - k) (subf (S r) k v)
def allB : Nat → List (List Bool)
  | 0 => [[]]
  | n + 1 => (allB n).map (List.cons true) ++ (allB n).map (List.cons false)
theorem allB_len : ∀ n, (allB n).length = 2 ^ n
  | 0 => rfl
  | n + 1 => by
    show ((allB n).map (List.cons true) ++ (allB n).map (List.cons false)).length = _
    rw [List.length_append, List.length_map, List.length_map, allB_len n, Nat.pow_succ]
    omega
theorem allB_mem : ∀ (n : Nat) (L : List Bool), L.length = n → L ∈ allB n
  | 0, L, h => by
    rw [List.length_eq_zero_iff.mp h]
    exact List.mem_cons_self
  | n + 1, [], h => by simp at h
  | n + 1, true :: L, h => List.mem_append_left _ (List.mem_map.mpr ⟨L, allB_mem n L (by simpa using h), rfl⟩)
  | n + 1, false :: L, h => List.mem_append_right _ (List.mem_map.mpr ⟨L, allB_mem n L (by simpa using h), rfl⟩)
def cnd1 (S : Nat → Nat → Bool) (k : Nat) : List (Nat × List Bool) := (List.range 16).flatMap (fun r => (List.range (2 ^ k)).map (fun v => pcode (9 - k) (subf (S r) k v)))
def cnd2 (k : Nat) : List (Nat × List Bool) := (allB (2 ^ (10 - k))).map (fun L => (9 - k, L))
theorem fm_len {α β : Type} (f : α → List β) (m : Nat) : ∀ l : List α, (∀ a, a ∈ l → (f a).length = m) → (l.flatMap f).length = l.length * m
  | [], _ => by simp
  | a :: l, h => by
    rw [List.flatMap_cons, List.length_append, h a List.mem_cons_self, fm_len f m l (fun b hb => h b (List.mem_cons_of_mem _ hb)), List.length_cons, Nat.add_mul, Nat.one_mul]
    omega
theorem cnd1_len (S : Nat → Nat → Bool) (k : Nat) : (cnd1 S k).length = 16 * 2 ^ k := by
  unfold cnd1
  rw [fm_len _ (2 ^ k) _ (fun r _ => by rw [List.length_map, List.length_range]), List.length_range]
theorem cnd2_len (k : Nat) : (cnd2 k).length = 2 ^ 2 ^ (10 - k) := by
  unfold cnd2
  rw [List.length_map, allB_len]
def cand (S : Nat → Nat → Bool) : List (Nat × List Bool) := cnd1 S 0 ++ (cnd1 S 1 ++ (cnd1 S 2 ++ (cnd1 S 3 ++ (cnd1 S 4 ++ (cnd1 S 5 ++ (cnd1 S 6 ++ (cnd2 7 ++ (cnd2 8 ++ cnd2 9))))))))
theorem cand_len (S : Nat → Nat → Bool) : (cand S).length = 2308 := by
  unfold cand
  simp only [List.length_append, cnd1_len, cnd2_len]
theorem cnd1_mem {S : Nat → Nat → Bool} {r k v : Nat} (hr : r < 16) (hv : v < 2 ^ k) : pcode (9 - k) (subf (S r) k v) ∈ cnd1 S k :=
  List.mem_flatMap.mpr ⟨r, List.mem_range.mpr hr, List.mem_map.mpr ⟨v, List.mem_range.mpr hv, rfl⟩⟩
theorem cnd2_mem {f : Nat → Bool} {k : Nat} (hk : k < 10) : pcode (9 - k) f ∈ cnd2 k :=
  List.mem_map.mpr ⟨(List.range (2 ^ (9 - k + 1))).map f, allB_mem _ _ (by rw [List.length_map, List.length_range, (pw_k k hk).2.2.2.1]), rfl⟩
theorem cand_mem {S : Nat → Nat → Bool} {c : Nat × List Bool} (h : IsP S c) : c ∈ cand S := by
  obtain ⟨r, k, v, hr, hk, hv, rfl⟩ := h
  unfold cand
  simp only [List.mem_append]
  rcases (show k = 0 ∨ k = 1 ∨ k = 2 ∨ k = 3 ∨ k = 4 ∨ k = 5 ∨ k = 6 ∨ k = 7 ∨ k = 8 ∨ k = 9 by omega) with rfl | rfl | rfl | rfl | rfl | rfl | rfl | rfl | rfl | rfl
  · exact Or.inl (cnd1_mem hr hv)
  · exact Or.inr (Or.inl (cnd1_mem hr hv))
  · exact Or.inr (Or.inr (Or.inl (cnd1_mem hr hv)))
  · exact Or.inr (Or.inr (Or.inr (Or.inl (cnd1_mem hr hv))))
  · exact Or.inr (Or.inr (Or.inr (Or.inr (Or.inl (cnd1_mem hr hv)))))
  · exact Or.inr (Or.inr (Or.inr (Or.inr (Or.inr (Or.inl (cnd1_mem hr hv))))))
  · exact Or.inr (Or.inr (Or.inr (Or.inr (Or.inr (Or.inr (Or.inl (cnd1_mem hr hv)))))))
  · exact Or.inr (Or.inr (Or.inr (Or.inr (Or.inr (Or.inr (Or.inr (Or.inl (cnd2_mem hk))))))))
  · exact Or.inr (Or.inr (Or.inr (Or.inr (Or.inr (Or.inr (Or.inr (Or.inr (Or.inl (cnd2_mem hk)))))))))
  · exact Or.inr (Or.inr (Or.inr (Or.inr (Or.inr (Or.inr (Or.inr (Or.inr (Or.inr (cnd2_mem hk)))))))))
theorem GL_lt {S : Nat → Nat → Bool} {GL : List (Nat × List Bool)} (hn : GL.Nodup) (hP : ∀ c, c ∈ GL → IsP S c) : GL.length < 4096 := by
  have h := nd_le hn (fun c hc => cand_mem (hP c hc))
  rw [cand_len] at h
  omega
/-- the parts of F of the last k variables -/
def PF (F : Nat → Bool) (k : Nat) (c : Nat × List Bool) : Prop := ∃ q v, 10 - k ≤ q ∧ q < 10 ∧ v < 2 ^ q ∧ dep F q v ∧ c = pcode (9 - q) (subf F q v)
def PW (F : Nat → Bool) (k v : Nat) (c : Nat × List Bool) : Prop := ∃ v', v' < v ∧ dep F k v' ∧ c = pcode (9 - k) (subf F k v')
theorem PF_0 {F : Nat → Bool} {c : Nat × List Bool} : ¬ PF F 0 c := fun ⟨_, _, h1, h2, _⟩ => by omega
theorem PW_0 {F : Nat → Bool} {k : Nat} {c : Nat × List Bool} : ¬ PW F k 0 c := fun ⟨_, h1, _⟩ => by omega
theorem PF_s {F : Nat → Bool} {k : Nat} {c : Nat × List Bool} (hk : k < 10) : PF F (k + 1) c ↔ PF F k c ∨ PW F (9 - k) (2 ^ (9 - k)) c := by
  constructor
  · rintro ⟨q, v, h1, h2, h3, h4, h5⟩
    by_cases e : q = 9 - k
    · subst e; exact Or.inr ⟨v, h3, h4, h5⟩
    · exact Or.inl ⟨q, v, by omega, h2, h3, h4, h5⟩
  · rintro (⟨q, v, h1, h2, h3, h4, h5⟩ | ⟨v, h3, h4, h5⟩)
    · exact ⟨q, v, by omega, h2, h3, h4, h5⟩
    · exact ⟨9 - k, v, by omega, by omega, h3, h4, h5⟩
theorem PW_s {F : Nat → Bool} {k v : Nat} {c : Nat × List Bool} : PW F k (v + 1) c ↔ PW F k v c ∨ (dep F k v ∧ c = pcode (9 - k) (subf F k v)) := by
  constructor
  · rintro ⟨v', h1, h2, h3⟩
    by_cases e : v' = v
    · subst e; exact Or.inr ⟨h2, h3⟩
    · exact Or.inl ⟨v', by omega, h2, h3⟩
  · rintro (⟨v', h1, h2, h3⟩ | ⟨h2, h3⟩)
    · exact ⟨v', by omega, h2, h3⟩
    · exact ⟨v, by omega, h2, h3⟩
theorem PK_r {S : Nat → Nat → Bool} {fr r : Nat} {c : Nat × List Bool} (hr : fr ≤ r) : PK S fr (r + 1) 10 c ↔ PK S fr r 10 c ∨ PF (S r) 10 c := by
  constructor
  · rintro ⟨k, hk, r', v, h1, h2, h3, h4, h5⟩
    by_cases e : r' = r
    · subst e; exact Or.inr ⟨k, v, by omega, hk, h3, h4, h5⟩
    · exact Or.inl ⟨k, hk, r', v, h1, by omega, h3, h4, h5⟩
  · rintro (⟨k, hk, r', v, h1, h2, h3, h4, h5⟩ | ⟨k, v, h1, hk, h3, h4, h5⟩)
    · exact ⟨k, hk, r', v, h1, by omega, h3, h4, h5⟩
    · exact ⟨k, hk, r, v, hr, by omega, h3, h4, h5⟩
def vI (k : Nat) : Int32 := if k < 10 then nI (9 - k) else -1
theorem vI_s : ∀ k, k < 10 → nI (9 - k) + Int32.ofInt (-1) = vI (k + 1) := by decide
theorem upd_s (f : Nat → Int32) (k : Nat) (x : Int32) : upd f k x k = x := by simp [upd]
theorem upd_n (f : Nat → Int32) {k j : Nat} (x : Int32) (h : j ≠ k) : upd f k x j = f j := by simp [upd, h]
theorem pw_h : ∀ k, k < 10 → 2 ^ (9 - k) ≤ 512 ∧ 2 ^ (10 - k) = 2 * 2 ^ (9 - k) ∧ 10 - k = 9 - k + 1 ∧ 9 - (9 - k) = k ∧ 10 - (k + 1) = 9 - k ∧ 2 ^ (10 - k) ≤ 1024 := by decide
theorem arrV_c {cA : ClassId} {n : Nat} {f g : Nat → Int32} (h : ∀ j, j < n → f j = g j) : vp_cell cA (n, .inl f) = vp_cell cA (n, .inl g) := by
  rw [vp_cell_i, vp_cell_i]
  unfold arrV
  congr 1
  congr 1
  funext j
  exact congrArg Value.int (h j.val j.isLt)
section DT
variable {l : Launch} {G : gG} {a : Nat → Nat} {hd : Nat → Nat → Int64} {wk sp : Nat → Int64} {ct : Int32} {ky nm : Nat → Int32}
theorem cw_k5 {H : Heap} {ky' : Nat → Int32} (h : ∀ j, j < 4096 → ky j = ky' j) (hP : va_P G.1 cls (cw G a hd wk sp ct ky nm) H) : va_P G.1 cls (cw G a hd wk sp ct ky' nm) H := by
  intro k q hq
  rw [← cw_s5 (ky := ky) (f := ky')] at hq
  by_cases e : k = 5
  · subst e
    rw [st_get (x := _) (cw_5 (ky := ky))] at hq
    cases hq
    have h1 := hP 5 _ cw_5
    show H[a 5]? = some (vp_cell _ _)
    rw [← arrV_c h]
    exact h1
  · rw [List.getElem?_set_ne (fun z => e z.symm)] at hq
    exact hP k q hq
theorem Wv.k5 {p : Program} {e : Env} {R : Room} {s : State} {m : MethodId} {args : Array Value} {below : List Frame} {meth : Method} {c : Code} {cells slots : Nat} {Q : State → Prop} {A : Nat → Prop} {nL pc : Nat} {lv : List (Nat × Value)} {st : List Value} {ky' : Nat → Int32} (h : ∀ j, j < 4096 → ky j = ky' j) (k : Wv p l e R s m args below meth c G A nL cells slots Q (cw G a hd wk sp ct ky' nm) pc lv st) : Wv p l e R s m args below meth c G A nL cells slots Q (cw G a hd wk sp ct ky nm) pc lv st :=
  fun H locs ls hP hD hS hl => k H locs ls (cw_k5 h hP) (va_Dsame cw_adr hD) hS hl
theorem r_getM {p : Program} {e : Env} {R : Room} {s : State} {m : MethodId} {args : Array Value} {below : List Frame} {meth : Method} {c : Code} {cells slots : Nat} {Q : State → Prop} {A : Nat → Prop} {nL pc : Nat} {cc : ByteArray} {own : String} {wd : Cond} {ws : va_W} {lv : List (Nat × Value)} {st : List Value} (h : Fx p m c s args meth own cc nL (wd :: TT) G A) (q0 k0 : Nat) {a0 ci Nn idx : Nat} {host : String} {fs : List Value} {C : String} {T : u_T} {v : Value} (d : decode cc pc = .ok (.getfield idx, 3)) (he : ws[q0]? = some (a0, .inr (ci, fs))) (hc : cls[ci]? = some (C, T, Nn)) (hk : k0 < Nn) (hin : ∀ w ∈ u_ws C T Nn, w ∈ wd :: TT) (hlink : Cond.fieldLinkNest own idx (T k0).1 (T k0).2.1 (T k0).2.2.1 host ∈ nws) (hv : fs[k0]? = some v) (k : Wv p l e R s m args below meth c G A nL cells slots Q ws (pc + 3) lv (v :: st)) : Wv p l e R s m args below meth c G A nL cells slots Q ws pc lv (.ref a0 :: st) :=
  fun H locs ls hP hD hS hl => va_getN (D := G.1) (C := C) (T := T) (N := Nn) h.1.1 h.1.2.1 h.1.2.2.2.2 hin h.1.2.2.2.1 h.2.1 hP q0 he hc k0 hk (va_Nw.use rfl (h.nw hlink)) (fun _ h9 => h9) hv d (k H locs ls hP hD hS hl)
theorem c_take (r : Nat) (hr0 : r < 16) (kt : Nat → Nat) (GL : List (Nat × List Bool)) (hT : TS hm kt GL) (hP : ∀ c, c ∈ GL → IsP (fun r => sv (hd r)) c) : Cp l y_G_take (.code y_G_take b_G_take 5 none :: TT) (rmF 2 47) G [.ref (a 4), .ref (a (7 + r))] (cw G a hd wk sp (nI GL.length) (kN kt) nm) (fun v ws' => ∃ (kt' : Nat → Nat) (GL' : List (Nat × List Bool)) (nm' : Nat → Int32), v = none ∧ ws' = cw G a hd wk sp (nI GL'.length) (kN kt') nm' ∧ TS hm kt' GL' ∧ (∀ c, c ∈ GL' → IsP (fun r => sv (hd r)) c) ∧ ∀ c, c ∈ GL' ↔ c ∈ GL ∨ PF (sv (hd r)) 10 c) := by
  refine cp_intro (cc := b_G_take) (nL := 5) (by decide) [(0, .ref (a 4)), (1, .ref (a (7 + r)))] rfl (Nat.le_of_ble_eq_true rfl) ?_
  intro p e s m below meth c A h hr
  refine r_iconst (pc := 0) h (v := nI 0) d_G_take_0 (by decide) ?_
  refine r_istore_n (pc := 1) h (lv' := [(2, .int (nI 0)), (0, .ref (a 4)), (1, .ref (a (7 + r)))]) d_G_take_1 rfl (by decide) rfl ?_
  refine Wv.wld (ws' := (cw G a hd wk sp (nI GL.length) (kN kt) (mix 0 (fun j => bI ((sv (hd r)) j)) nm))) (by rw [mix_0]) ?_
  refine Wv.loop 1024 (fun i => (cw G a hd wk sp (nI GL.length) (kN kt) (mix i (fun j => bI ((sv (hd r)) j)) nm))) (fun i => [(2, .int (nI i)), (0, .ref (a 4)), (1, .ref (a (7 + r)))]) ?_ ?_
  · show Wv p l e _ s m _ below meth c G A _ _ _ _ (cw G a hd wk sp (nI GL.length) (kN kt) (mix 1024 (fun j => bI ((sv (hd r)) j)) nm)) 2 [(2, .int (nI 1024)), (0, .ref (a 4)), (1, .ref (a (7 + r)))] []
    refine r_iload_n (pc := 2) h 0 d_G_take_2 rfl rfl ?_
    refine r_sipush (pc := 3) h (v := nI 1024) d_G_take_3 (by decide) ?_
    refine r_icmp_ge_t (pc := 6) h (tgt := 26) d_G_take_6 (by decide) (nI_le (Nat.le_refl _) (by decide)) ?_
    refine r_bipush (pc := 26) h (v := vI 0) d_G_take_26 (by decide) ?_
    refine r_istore_n (pc := 28) h (lv' := [(2, .int (vI 0)), (0, .ref (a 4)), (1, .ref (a (7 + r)))]) d_G_take_28 rfl (by decide) rfl ?_
    refine Wv.loopR 0 10 (fun k (x : (Nat → Nat) × List (Nat × List Bool) × (Nat → Int32)) => TS hm x.1 x.2.1 ∧ (∀ c, c ∈ x.2.1 → IsP (fun r => sv (hd r)) c) ∧ (∀ j, j < 2 ^ (10 - k) → ∃ n, x.2.2 j = nI n ∧ ND x.1 k n (subf (sv (hd r)) (10 - k) j)) ∧ ∀ c, c ∈ x.2.1 ↔ c ∈ GL ∨ PF (sv (hd r)) k c) (fun k x => (cw G a hd wk sp (nI x.2.1.length) (kN x.1) x.2.2)) (fun k x => [(2, .int (vI k)), (0, .ref (a 4)), (1, .ref (a (7 + r)))]) ?_ ?_ (kt, GL, mix 1024 (fun j => bI ((sv (hd r)) j)) nm) (by decide) ⟨hT, hP, fun j hj => ⟨if (sv (hd r)) j = true then 1 else 0, ?_, ?_⟩, fun c => ⟨Or.inl, fun z => z.elim id (fun q => absurd q PF_0)⟩⟩
    · rintro ⟨kt, GL1, nm⟩ ⟨hT, hP, hA, hm1⟩
      show Wv p l e _ s m _ below meth c G A _ _ _ _ (cw G a hd wk sp (nI GL1.length) (kN kt) nm) 29 [(2, .int (vI 10)), (0, .ref (a 4)), (1, .ref (a (7 + r)))] []
      dsimp only at hT hP hA hm1
      refine r_iload_n (pc := 29) h 0 d_G_take_29 rfl rfl ?_
      refine r_if_lt_t (pc := 30) h (tgt := 86) d_G_take_30 (by decide) (by decide) ?_
      exact r_vretP (pc := 86) h hr ⟨kt, GL1, nm, rfl, rfl, hT, hP, hm1⟩ d_G_take_86
    · rintro k ⟨kt, GL1, nm⟩ hk ⟨hT, hP, hA, hm1⟩ ihk
      dsimp only at hT hP hA hm1
      show Wv p l e _ s m _ below meth c G A _ _ _ _ (cw G a hd wk sp (nI GL1.length) (kN kt) nm) 29 [(2, .int (vI k)), (0, .ref (a 4)), (1, .ref (a (7 + r)))] []
      refine Wv.lcl (lv' := [(2, .int (nI (9 - k))), (0, .ref (a 4)), (1, .ref (a (7 + r)))]) (by rw [show vI k = nI (9 - k) from if_pos hk]) ?_
      refine r_iload_n (pc := 29) h 0 d_G_take_29 rfl rfl ?_
      refine r_if_lt_f (pc := 30) h (tgt := 86) d_G_take_30 (by decide) (nI_pos (by omega)) ?_
      refine r_iconst (pc := 33) h (v := nI 1) d_G_take_33 (by decide) ?_
      refine r_iload_n (pc := 34) h 0 d_G_take_34 rfl rfl ?_
      refine r_ishl (pc := 35) h (z := nI (2 ^ (9 - k))) d_G_take_35 (nx_pw (by omega)) ?_
      refine r_istore_n (pc := 36) h (lv' := [(3, .int (nI (2 ^ (9 - k)))), (2, .int (nI (9 - k))), (0, .ref (a 4)), (1, .ref (a (7 + r)))]) d_G_take_36 rfl (by decide) rfl ?_
      refine r_iconst (pc := 37) h (v := nI 0) d_G_take_37 (by decide) ?_
      refine r_istore (pc := 38) h (lv' := [(4, .int (nI 0)), (3, .int (nI (2 ^ (9 - k)))), (2, .int (nI (9 - k))), (0, .ref (a 4)), (1, .ref (a (7 + r)))]) d_G_take_38 (by decide) rfl ?_
      refine Wv.sub [0, 2, 1, 3, 4] rfl ?_
      refine Wv.loopR 0 (2 ^ (9 - k)) (fun i (x : (Nat → Nat) × List (Nat × List Bool) × (Nat → Int32)) => TS hm x.1 x.2.1 ∧ (∀ c, c ∈ x.2.1 → IsP (fun r => sv (hd r)) c) ∧ (∀ j, j < i → ∃ n, x.2.2 j = nI n ∧ ND x.1 (k + 1) n (subf (sv (hd r)) (9 - k) j)) ∧ (∀ j, i ≤ j → j < 2 ^ (10 - k) → ∃ n, x.2.2 j = nI n ∧ ND x.1 k n (subf (sv (hd r)) (10 - k) j)) ∧ ∀ c, c ∈ x.2.1 ↔ (c ∈ GL ∨ PF (sv (hd r)) k c) ∨ PW (sv (hd r)) (9 - k) i c) (fun i x => (cw G a hd wk sp (nI x.2.1.length) (kN x.1) x.2.2)) (fun i x => [(4, .int (nI i)), (2, .int (nI (9 - k))), (3, .int (nI (2 ^ (9 - k)))), (0, .ref (a 4)), (1, .ref (a (7 + r)))]) ?_ ?_ (kt, GL1, nm) (Nat.zero_le _) ⟨hT, hP, fun j hj => absurd hj (by omega), fun j _ hj => hA j hj, fun c => (hm1 c).trans ⟨Or.inl, fun z => z.elim id (fun q => absurd q PW_0)⟩⟩
      · rintro ⟨kt, GL1, nm⟩ ⟨hT, hP, hA, -, hm1⟩
        dsimp only at hT hP hA hm1
        show Wv p l e _ s m _ below meth c G A _ _ _ _ (cw G a hd wk sp (nI GL1.length) (kN kt) nm) 40 [(4, .int (nI (2 ^ (9 - k)))), (2, .int (nI (9 - k))), (3, .int (nI (2 ^ (9 - k)))), (0, .ref (a 4)), (1, .ref (a (7 + r)))] []
        refine r_iload (pc := 40) h 0 d_G_take_40 rfl ?_
        refine r_iload_n (pc := 42) h 2 d_G_take_42 rfl rfl ?_
        refine r_icmp_ge_t (pc := 43) h (tgt := 80) d_G_take_43 (by decide) (nI_le (Nat.le_refl _) (Nat.lt_of_le_of_lt (pw_h k hk).1 (by decide))) ?_
        refine r_iinc (pc := 80) h (v := vI (k + 1)) (lv' := [(2, .int (vI (k + 1))), (4, .int (nI (2 ^ (9 - k)))), (3, .int (nI (2 ^ (9 - k)))), (0, .ref (a 4)), (1, .ref (a (7 + r)))]) 1 d_G_take_80 rfl (vI_s k hk) (by decide) rfl ?_
        refine r_goto (pc := 83) h (tgt := 29) d_G_take_83 (by decide) ?_
        refine Wv.sub [0, 3, 4] rfl ?_
        refine ihk (kt, GL1, nm) ⟨hT, hP, fun j hj => ?_, fun c => ?_⟩
        · rw [(pw_h k hk).2.2.2.2.1] at hj ⊢
          exact hA j hj
        · rw [PF_s hk, ← or_assoc]
          exact hm1 c
      · rintro i ⟨kt, GL1, nm⟩ hi ⟨hT, hP, hA, hC, hm1⟩ ihi
        dsimp only at hT hP hA hC hm1
        show Wv p l e _ s m _ below meth c G A _ _ _ _ (cw G a hd wk sp (nI GL1.length) (kN kt) nm) 40 [(4, .int (nI i)), (2, .int (nI (9 - k))), (3, .int (nI (2 ^ (9 - k)))), (0, .ref (a 4)), (1, .ref (a (7 + r)))] []
        have hw9 := pw_h k hk
        obtain ⟨n0, e0, d0⟩ := hC i (Nat.le_refl _) (by omega)
        obtain ⟨n1, e1, d1⟩ := hC (i + 2 ^ (9 - k)) (by omega) (by omega)
        rw [hw9.2.2.1] at d0 d1
        have hdp : n0 ≠ n1 ↔ dep (sv (hd r)) (9 - k) i := name_dep hT.1 (by omega) (by rw [hw9.2.2.2.1]; exact d0) (by rw [hw9.2.2.2.1]; exact d1)
        refine r_iload (pc := 40) h 0 d_G_take_40 rfl ?_
        refine r_iload_n (pc := 42) h 2 d_G_take_42 rfl rfl ?_
        refine r_icmp_ge_f (pc := 43) h (tgt := 80) d_G_take_43 (by decide) (nI_ge hi (Nat.lt_of_le_of_lt (pw_h k hk).1 (by decide))) ?_
        refine r_aload_n (pc := 46) h 3 d_G_take_46 rfl rfl ?_
        refine r_get (pc := 47) h 4 1 d_G_take_47 cw_4 rfl (by decide) in_G (List.mem_cons_of_mem _ w_30) rfl ?_
        refine r_iload (pc := 50) h 0 d_G_take_50 rfl ?_
        refine r_aload_n (pc := 52) h 3 d_G_take_52 rfl rfl ?_
        refine r_iload_n (pc := 53) h 1 d_G_take_53 rfl rfl ?_
        refine r_aload_n (pc := 54) h 3 d_G_take_54 rfl rfl ?_
        refine r_get (pc := 55) h 4 1 d_G_take_55 cw_4 rfl (by decide) in_G (List.mem_cons_of_mem _ w_30) rfl ?_
        refine r_iload (pc := 58) h 0 d_G_take_58 rfl ?_
        refine r_iaload (pc := 60) h 6 (z := nI n0) i d_G_take_60 cw_6 rfl (by omega) (by decide) e0 ?_
        refine r_aload_n (pc := 61) h 3 d_G_take_61 rfl rfl ?_
        refine r_get (pc := 62) h 4 1 d_G_take_62 cw_4 rfl (by decide) in_G (List.mem_cons_of_mem _ w_30) rfl ?_
        refine r_iload (pc := 65) h 0 d_G_take_65 rfl ?_
        refine r_iload_n (pc := 67) h 2 d_G_take_67 rfl rfl ?_
        refine r_iadd (pc := 68) h (z := nI (i + 2 ^ (9 - k))) d_G_take_68 (nI_add _ _) ?_
        refine r_iaload (pc := 69) h 6 (z := nI n1) (i + 2 ^ (9 - k)) d_G_take_69 cw_6 rfl (by omega) (by decide) e1 ?_
        refine r_invVP (pc := 70) h 4 (st := [.int (nI i), .ref (a 6)]) d_G_take_70 (c_nameOf k n0 n1 (subf (sv (hd r)) (9 - k) i) kt GL1 (by omega) hT (by rw [sub_e]; exact d0) (by rw [sub_o]; exact d1) (GL_lt hT.2.2.2.1 hP)) (r_cV h wc_G_nameOf w_328 w_2 w_330 (TT_se (q := (y_G_nameOf, 3)) 8 rfl) hd_G_nameOf ⟨(Nat.le_of_ble_eq_true rfl), (Nat.le_of_ble_eq_true rfl)⟩ rfl rfl) cw_4 rfl rfl rfl (Nat.le_of_ble_eq_true rfl) ⟨(Nat.le_of_ble_eq_true rfl), (Nat.le_of_ble_eq_true rfl)⟩ ?_
        rintro v ws' ⟨n', kt', GL', rfl, rfl, hT', hmo, hN', hm'⟩
        refine ⟨cw_adr, ?_⟩
        show Wv p l e _ s m _ below meth c G A _ _ _ _ (cw G a hd wk sp (nI GL'.length) (kN kt') nm) 73 [(4, .int (nI i)), (2, .int (nI (9 - k))), (3, .int (nI (2 ^ (9 - k)))), (0, .ref (a 4)), (1, .ref (a (7 + r)))] [.int (nI n'), .int (nI i), .ref (a 6)]
        refine r_iastore (pc := 73) h 6 (ws' := (cw G a hd wk sp (nI GL'.length) (kN kt') (upd nm i (nI n')))) i d_G_take_73 cw_6 rfl (by omega) (by decide) cw_s6 ?_
        refine r_iinc (pc := 74) h (v := nI (i + 1)) (lv' := [(4, .int (nI (i + 1))), (2, .int (nI (9 - k))), (3, .int (nI (2 ^ (9 - k)))), (0, .ref (a 4)), (1, .ref (a (7 + r)))]) 0 d_G_take_74 rfl (nI_inc i) (by decide) rfl ?_
        refine r_goto (pc := 77) h (tgt := 40) d_G_take_77 (by decide) ?_
        refine ihi (kt', GL', upd nm i (nI n')) ⟨hT', fun c hc => ?_, fun j hj => ?_, fun j hj hj2 => ?_, fun c => ?_⟩
        · rcases (hm' c).mp hc with z | ⟨-, z⟩
          · exact hP c z
          · exact ⟨r, 9 - k, i, hr0, by omega, hi, by rw [(pw_h k hk).2.2.2.1]; exact z⟩
        · by_cases z : j = i
          · subst z; exact ⟨n', upd_s _ _ _, hN'⟩
          · obtain ⟨n, g1, g2⟩ := hA j (by omega)
            exact ⟨n, (upd_n nm (nI n') z).trans g1, ND_mono hmo g2⟩
        · obtain ⟨n, g1, g2⟩ := hC j (by omega) hj2
          exact ⟨n, (upd_n nm (nI n') (by omega)).trans g1, ND_mono hmo g2⟩
        · refine (hm' c).trans ?_
          rw [hm1 c, PW_s, hdp, (pw_h k hk).2.2.2.1, or_assoc, or_assoc]
    · show mix 1024 (fun j => bI ((sv (hd r)) j)) nm j = _
      rw [mix_lt (show j < 1024 from hj)]
      exact bI_nI _
    · show _ = if subf (sv (hd r)) 10 j 0 = true then 1 else 0
      unfold subf
      rw [Nat.zero_mul, Nat.add_zero]
  · intro i hi ih
    have ih : Wv p l e _ s m _ below meth c G A _ _ _ _ (cw G a hd wk sp (nI GL.length) (kN kt) (mix (i + 1) (fun j => bI ((sv (hd r)) j)) nm)) 2 [(2, .int (nI (i + 1))), (0, .ref (a 4)), (1, .ref (a (7 + r)))] [] := ih
    show Wv p l e _ s m _ below meth c G A _ _ _ _ (cw G a hd wk sp (nI GL.length) (kN kt) (mix i (fun j => bI ((sv (hd r)) j)) nm)) 2 [(2, .int (nI i)), (0, .ref (a 4)), (1, .ref (a (7 + r)))] []
    refine r_iload_n (pc := 2) h 0 d_G_take_2 rfl rfl ?_
    refine r_sipush (pc := 3) h (v := nI 1024) d_G_take_3 (by decide) ?_
    refine r_icmp_ge_f (pc := 6) h (tgt := 26) d_G_take_6 (by decide) (nI_ge hi (by decide)) ?_
    refine r_aload_n (pc := 9) h 1 d_G_take_9 rfl rfl ?_
    refine r_get (pc := 10) h 4 1 d_G_take_10 cw_4 rfl (by decide) in_G (List.mem_cons_of_mem _ w_30) rfl ?_
    refine r_iload_n (pc := 13) h 0 d_G_take_13 rfl rfl ?_
    refine r_aload_n (pc := 14) h 2 d_G_take_14 rfl rfl ?_
    refine r_iload_n (pc := 15) h 0 d_G_take_15 rfl rfl ?_
    refine r_invSNa (pc := 16) h (st := [.int (nI i), .ref (a 6)]) d_G_take_16 (c_bitOf (7 + r) (a (7 + r)) i (hd r) (cw_r hr0) hi) (r_cSN h wc_D_bitOf (List.mem_of_getElem? (i := 12) rfl) w_1 w_241 hd_D_bitOf ⟨(Nat.le_of_ble_eq_true rfl), (Nat.le_of_ble_eq_true rfl)⟩ rfl rfl) rfl rfl (Nat.le_of_ble_eq_true rfl) ⟨(Nat.le_of_ble_eq_true rfl), (Nat.le_of_ble_eq_true rfl)⟩ rfl ?_
    refine r_iastore (pc := 19) h 6 (ws' := (cw G a hd wk sp (nI GL.length) (kN kt) (mix (i + 1) (fun j => bI ((sv (hd r)) j)) nm))) i d_G_take_19 cw_6 rfl hi (by decide) (by rw [mix_upd i (fun j => bI ((sv (hd r)) j)) nm]; exact cw_s6) ?_
    refine r_iinc (pc := 20) h (v := nI (i + 1)) (lv' := [(2, .int (nI (i + 1))), (0, .ref (a 4)), (1, .ref (a (7 + r)))]) 0 d_G_take_20 rfl (nI_inc i) (by decide) rfl ?_
    refine r_goto (pc := 23) h (tgt := 2) d_G_take_23 (by decide) ?_
    exact ih
theorem c_countNodes (fr to : Nat) (hft : fr ≤ to) (ht : to ≤ 16) : Cp l y_D_countNodes (.code y_D_countNodes b_D_countNodes 4 (some .int) :: TT) (rmF 3 71) G [.ref (a 0), .int (nI fr), .int (nI to)] (cw G a hd wk sp ct ky nm) (fun v ws' => ∃ (ct' : Int32) (ky' nm' : Nat → Int32) (L : List (Nat × List Bool)), ws' = cw G a hd wk sp ct' ky' nm' ∧ L.Nodup ∧ (∀ c, c ∈ L ↔ PK (fun r => sv (hd r)) fr to 10 c) ∧ v = some (.int (nI L.length))) := by
  refine cp_intro (cc := b_D_countNodes) (nL := 4) (by decide) [(0, .ref (a 0)), (1, .int (nI fr)), (2, .int (nI to))] rfl (Nat.le_of_ble_eq_true rfl) ?_
  intro p e s m below meth c A h hr
  refine r_aload_n (pc := 0) h 0 d_D_countNodes_0 rfl rfl ?_
  refine r_get (pc := 1) h 0 3 d_D_countNodes_1 cw_0 rfl (by decide) in_D (List.mem_cons_of_mem _ w_45) rfl ?_
  refine r_invVNv (pc := 4) h 4 (st := []) d_D_countNodes_4 c_clear (r_cVN h wc_G_clear (List.mem_of_getElem? (i := 10) rfl) w_2 w_318 (TT_se (q := (y_G_clear, 3)) 6 rfl) hd_G_clear ⟨(Nat.le_of_ble_eq_true rfl), (Nat.le_of_ble_eq_true rfl)⟩ rfl rfl) cw_4 rfl rfl rfl (Nat.le_of_ble_eq_true rfl) ⟨(Nat.le_of_ble_eq_true rfl), (Nat.le_of_ble_eq_true rfl)⟩ cw_adr ?_
  refine Wv.k5 (ky' := kN fun _ => 0) (fun j hj => mix_lt hj) ?_
  refine r_iload_n (pc := 7) h 1 d_D_countNodes_7 rfl rfl ?_
  refine r_istore_n (pc := 8) h (lv' := [(3, .int (nI fr)), (0, .ref (a 0)), (1, .int (nI fr)), (2, .int (nI to))]) d_D_countNodes_8 rfl (by decide) rfl ?_
  refine Wv.loopR fr to (fun r (x : (Nat → Nat) × List (Nat × List Bool) × (Nat → Int32)) => fr ≤ r ∧ TS hm x.1 x.2.1 ∧ (∀ c, c ∈ x.2.1 → IsP (fun r => sv (hd r)) c) ∧ ∀ c, c ∈ x.2.1 ↔ PK (fun r => sv (hd r)) fr r 10 c) (fun r x => (cw G a hd wk sp (nI x.2.1.length) (kN x.1) x.2.2)) (fun r x => [(3, .int (nI r)), (0, .ref (a 0)), (1, .int (nI fr)), (2, .int (nI to))]) ?_ ?_ (fun _ => 0, [], nm) hft ⟨Nat.le_refl _, TS_0 hm, fun c hc => absurd hc (by simp), fun c => ⟨fun z => absurd z (by simp), fun ⟨k, _, q⟩ => absurd q PL_0⟩⟩
  · rintro ⟨kt, GL1, nm⟩ ⟨-, hT, hP, hm1⟩
    dsimp only at hT hP hm1
    show Wv p l e _ s m _ below meth c G A _ _ _ _ (cw G a hd wk sp (nI GL1.length) (kN kt) nm) 9 [(3, .int (nI to)), (0, .ref (a 0)), (1, .int (nI fr)), (2, .int (nI to))] []
    refine r_iload_n (pc := 9) h 0 d_D_countNodes_9 rfl rfl ?_
    refine r_iload_n (pc := 10) h 3 d_D_countNodes_10 rfl rfl ?_
    refine r_icmp_ge_t (pc := 11) h (tgt := 33) d_D_countNodes_11 (by decide) (nI_le (Nat.le_refl _) (by omega)) ?_
    refine r_aload_n (pc := 33) h 1 d_D_countNodes_33 rfl rfl ?_
    refine r_get (pc := 34) h 0 3 d_D_countNodes_34 cw_0 rfl (by decide) in_D (List.mem_cons_of_mem _ w_45) rfl ?_
    refine r_getM (pc := 37) h 4 2 d_D_countNodes_37 cw_4 rfl (by decide) in_G (List.mem_of_getElem? (i := 1) rfl) rfl ?_
    exact r_iretP (pc := 40) h hr ⟨nI GL1.length, kN kt, nm, GL1, rfl, hT.2.2.2.1, hm1, rfl⟩ d_D_countNodes_40
  · rintro r ⟨kt, GL1, nm⟩ hr1 ⟨hfr, hT, hP, hm1⟩ ihr
    dsimp only at hT hP hm1
    show Wv p l e _ s m _ below meth c G A _ _ _ _ (cw G a hd wk sp (nI GL1.length) (kN kt) nm) 9 [(3, .int (nI r)), (0, .ref (a 0)), (1, .int (nI fr)), (2, .int (nI to))] []
    refine r_iload_n (pc := 9) h 0 d_D_countNodes_9 rfl rfl ?_
    refine r_iload_n (pc := 10) h 3 d_D_countNodes_10 rfl rfl ?_
    refine r_icmp_ge_f (pc := 11) h (tgt := 33) d_D_countNodes_11 (by decide) (nI_ge hr1 (by omega)) ?_
    refine r_aload_n (pc := 14) h 1 d_D_countNodes_14 rfl rfl ?_
    refine r_get (pc := 15) h 0 3 d_D_countNodes_15 cw_0 rfl (by decide) in_D (List.mem_cons_of_mem _ w_45) rfl ?_
    refine r_aload_n (pc := 18) h 1 d_D_countNodes_18 rfl rfl ?_
    refine r_get (pc := 19) h 0 0 d_D_countNodes_19 cw_0 rfl (by decide) in_D (List.mem_cons_of_mem _ w_42) rfl ?_
    refine r_iload_n (pc := 22) h 0 d_D_countNodes_22 rfl rfl ?_
    refine r_aaload (pc := 23) h 1 3 r d_D_countNodes_23 cw_1 rfl rfl rfl (Nat.lt_of_lt_of_le hr1 ht) (by decide) (cw_o (Nat.lt_of_lt_of_le hr1 ht)) ?_
    refine r_invVNP (pc := 24) h 4 (st := []) d_D_countNodes_24 (c_take r (Nat.lt_of_lt_of_le hr1 ht) kt GL1 hT hP) (r_cVN h wc_G_take (List.mem_of_getElem? (i := 11) rfl) w_2 w_325 (TT_se (q := (y_G_take, 3)) 7 rfl) hd_G_take ⟨(Nat.le_of_ble_eq_true rfl), (Nat.le_of_ble_eq_true rfl)⟩ rfl rfl) cw_4 rfl rfl rfl (Nat.le_of_ble_eq_true rfl) ⟨(Nat.le_of_ble_eq_true rfl), (Nat.le_of_ble_eq_true rfl)⟩ ?_
    rintro v ws' ⟨kt', GL', nm', rfl, rfl, hT', hP', hm'⟩
    refine ⟨cw_adr, ?_⟩
    show Wv p l e _ s m _ below meth c G A _ _ _ _ (cw G a hd wk sp (nI GL'.length) (kN kt') nm') 27 [(3, .int (nI r)), (0, .ref (a 0)), (1, .int (nI fr)), (2, .int (nI to))] []
    refine r_iinc (pc := 27) h (v := nI (r + 1)) (lv' := [(3, .int (nI (r + 1))), (0, .ref (a 0)), (1, .int (nI fr)), (2, .int (nI to))]) 0 d_D_countNodes_27 rfl (nI_inc r) (by decide) rfl ?_
    refine r_goto (pc := 30) h (tgt := 9) d_D_countNodes_30 (by decide) ?_
    exact ihr (kt', GL', nm') ⟨Nat.le_succ_of_le hfr, hT', hP', fun c => (hm' c).trans (by rw [hm1 c]; exact (PK_r hfr).symm)⟩
theorem c_parts (r1 : Nat) (h1 : r1 < 16) : Cp l y_D_parts (.code y_D_parts b_D_parts 2 (some .int) :: TT) (rmF 4 94) G [.ref (a 0), .int (nI r1)] (cw G a hd wk sp ct ky nm) (fun v ws' => ∃ (ct' : Int32) (ky' nm' : Nat → Int32) (L : List (Nat × List Bool)), ws' = cw G a hd wk sp ct' ky' nm' ∧ L.Nodup ∧ (∀ c, c ∈ L ↔ PK (fun r => sv (hd r)) r1 (r1 + 1) 10 c) ∧ v = some (.int (nI L.length))) := by
  refine cp_intro (cc := b_D_parts) (nL := 2) (by decide) [(0, .ref (a 0)), (1, .int (nI r1))] rfl (Nat.le_of_ble_eq_true rfl) ?_
  intro p e s m below meth c A h hr
  refine r_iload_n (pc := 0) h 1 d_D_parts_0 rfl rfl ?_
  refine r_invSv (pc := 1) h (st := []) d_D_parts_1 (c_checkRegister r1 h1) (r_cS h wc_D_checkRegister w_63 w_1 w_64 hd_D_checkRegister ⟨(Nat.le_of_ble_eq_true rfl), (Nat.le_of_ble_eq_true rfl)⟩ rfl rfl) rfl rfl (Nat.le_of_ble_eq_true rfl) ⟨(Nat.le_of_ble_eq_true rfl), (Nat.le_of_ble_eq_true rfl)⟩ rfl ?_
  refine r_aload_n (pc := 4) h 0 d_D_parts_4 rfl rfl ?_
  refine r_iload_n (pc := 5) h 1 d_D_parts_5 rfl rfl ?_
  refine r_iload_n (pc := 6) h 1 d_D_parts_6 rfl rfl ?_
  refine r_iconst (pc := 7) h (v := nI 1) d_D_parts_7 (by decide) ?_
  refine r_iadd (pc := 8) h (z := nI (r1 + 1)) d_D_parts_8 (nI_add r1 1) ?_
  refine r_invVP (pc := 9) h 0 (st := []) d_D_parts_9 (c_countNodes r1 (r1 + 1) (by omega) (by omega)) (r_cV h wc_D_countNodes w_312 w_1 w_314 (TT_se (q := (y_D_countNodes, 4)) 5 rfl) hd_D_countNodes ⟨(Nat.le_of_ble_eq_true rfl), (Nat.le_of_ble_eq_true rfl)⟩ rfl rfl) cw_0 rfl rfl rfl (Nat.le_of_ble_eq_true rfl) ⟨(Nat.le_of_ble_eq_true rfl), (Nat.le_of_ble_eq_true rfl)⟩ ?_
  rintro v ws' ⟨ct', ky', nm', L, rfl, hLn, hLm, rfl⟩
  refine ⟨cw_adr, ?_⟩
  exact r_iretP (pc := 12) h hr ⟨ct', ky', nm', L, rfl, hLn, hLm, rfl⟩ d_D_parts_12
theorem c_together (r1 r2 : Nat) (hab : r1 < r2) (hb16 : r2 ≤ 16) : Cp l y_D_together (.code y_D_together b_D_together 3 (some .int) :: TT) (rmF 4 94) G [.ref (a 0), .int (nI r1), .int (nI r2)] (cw G a hd wk sp ct ky nm) (fun v ws' => ∃ (ct' : Int32) (ky' nm' : Nat → Int32) (L : List (Nat × List Bool)), ws' = cw G a hd wk sp ct' ky' nm' ∧ L.Nodup ∧ (∀ c, c ∈ L ↔ PK (fun r => sv (hd r)) r1 r2 10 c) ∧ v = some (.int (nI L.length))) := by
  refine cp_intro (cc := b_D_together) (nL := 3) (by decide) [(0, .ref (a 0)), (1, .int (nI r1)), (2, .int (nI r2))] rfl (Nat.le_of_ble_eq_true rfl) ?_
  intro p e s m below meth c A h hr
  refine r_iload_n (pc := 0) h 1 d_D_together_0 rfl rfl ?_
  refine r_if_lt_f (pc := 1) h (tgt := 15) d_D_together_1 (by decide) (nI_pos (by omega)) ?_
  refine r_iload_n (pc := 4) h 1 d_D_together_4 rfl rfl ?_
  refine r_iload_n (pc := 5) h 2 d_D_together_5 rfl rfl ?_
  refine r_icmp_ge_f (pc := 6) h (tgt := 15) d_D_together_6 (by decide) (nI_ge hab (by omega)) ?_
  refine r_iload_n (pc := 9) h 2 d_D_together_9 rfl rfl ?_
  refine r_bipush (pc := 10) h (v := nI 16) d_D_together_10 (by decide) ?_
  refine r_icmp_le_t (pc := 12) h (tgt := 25) d_D_together_12 (by decide) (nI_le hb16 (by decide)) ?_
  refine r_aload_n (pc := 25) h 0 d_D_together_25 rfl rfl ?_
  refine r_iload_n (pc := 26) h 1 d_D_together_26 rfl rfl ?_
  refine r_iload_n (pc := 27) h 2 d_D_together_27 rfl rfl ?_
  refine r_invVP (pc := 28) h 0 (st := []) d_D_together_28 (c_countNodes r1 r2 (by omega) hb16) (r_cV h wc_D_countNodes w_312 w_1 w_314 (TT_se (q := (y_D_countNodes, 4)) 5 rfl) hd_D_countNodes ⟨(Nat.le_of_ble_eq_true rfl), (Nat.le_of_ble_eq_true rfl)⟩ rfl rfl) cw_0 rfl rfl rfl (Nat.le_of_ble_eq_true rfl) ⟨(Nat.le_of_ble_eq_true rfl), (Nat.le_of_ble_eq_true rfl)⟩ ?_
  rintro v ws' ⟨ct', ky', nm', L, rfl, hLn, hLm, rfl⟩
  refine ⟨cw_adr, ?_⟩
  exact r_iretP (pc := 31) h hr ⟨ct', ky', nm', L, rfl, hLn, hLm, rfl⟩ d_D_together_31
end DT
