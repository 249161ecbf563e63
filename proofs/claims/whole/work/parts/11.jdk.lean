-- narrowWorkToFalse, Long.bitCount, Arrays.fill (rows wb_: laws/BITS.to-paste)
theorem wb_tb (n : Nat) : (lN n).toBitVec = BitVec.ofNat 64 n := rfl
theorem wb_inj {a b : Int64} (h : a.toBitVec = b.toBitVec) : a = b := Int64.toBitVec_inj.mp h
theorem wb_tn {n : Nat} (h : n < 2 ^ 64) : (lN n).toBitVec.toNat = n := by rw [wb_tb, BitVec.toNat_ofNat, Nat.mod_eq_of_lt h]
theorem wb_of (x : Int64) : ∃ n, n < 2 ^ 64 ∧ x = lN n := ⟨x.toBitVec.toNat, x.toBitVec.isLt, wb_inj (by rw [wb_tb]; simp)⟩
theorem wb_cu : ∀ k, k < 64 → ((nI k).toInt64.toUInt64 &&& Int64.toUInt64 63) = UInt64.ofNat k := by decide +kernel
theorem wb_shr {n k : Nat} (hn : n < 2 ^ 64) (hk : k < 64) : ((lN n).toUInt64 >>> ((nI k).toInt64.toUInt64 &&& Int64.toUInt64 63)).toInt64 = lN (n / 2 ^ k) := by
  rw [wb_cu k hk]
  apply wb_inj
  apply BitVec.eq_of_toNat_eq
  show ((lN n).toUInt64 >>> UInt64.ofNat k).toNat = (BitVec.ofNat 64 _).toNat
  have h1 : (UInt64.ofNat k).toNat = k := by
    show (BitVec.ofNat 64 k).toNat = k
    rw [BitVec.toNat_ofNat, Nat.mod_eq_of_lt (by omega)]
  have h2 : (lN n).toUInt64.toNat = n := wb_tn hn
  rw [UInt64.toNat_shiftRight, h1, h2, Nat.mod_eq_of_lt hk, Nat.shiftRight_eq_div_pow, BitVec.toNat_ofNat, Nat.mod_eq_of_lt (Nat.lt_of_le_of_lt (Nat.div_le_self _ _) hn)]
theorem wb_and {a b : Nat} (ha : a < 2 ^ 64) (hb : b < 2 ^ 64) : lN a &&& lN b = lN (a &&& b) := by
  apply wb_inj
  rw [Int64.toBitVec_and, wb_tb, wb_tb, wb_tb]
  apply BitVec.eq_of_toNat_eq
  rw [BitVec.toNat_and, BitVec.toNat_ofNat, BitVec.toNat_ofNat, BitVec.toNat_ofNat, Nat.mod_eq_of_lt ha, Nat.mod_eq_of_lt hb, Nat.mod_eq_of_lt (Nat.and_lt_two_pow _ hb)]
def orF (g : Nat → Int64) : Nat → Int64
  | 0 => 0
  | i + 1 => orF g i ||| g i
theorem or_0 {x y : Int64} : x ||| y = 0 ↔ x = 0 ∧ y = 0 := by
  constructor
  · intro h
    have key : ∀ i, i < 64 → lb x i = false ∧ lb y i = false := fun i _ => by
      have h1 : lb (x ||| y) i = false := by rw [h]; exact lb_0 i
      rw [lb_or] at h1
      simpa using h1
    exact ⟨lb_ext (fun i hi => by rw [(key i hi).1, lb_0]), lb_ext (fun i hi => by rw [(key i hi).2, lb_0])⟩
  · rintro ⟨rfl, rfl⟩
    decide
theorem orF_0 {g : Nat → Int64} : ∀ n, orF g n = 0 ↔ ∀ i, i < n → g i = 0
  | 0 => ⟨fun _ i hi => absurd hi (by omega), fun _ => rfl⟩
  | n + 1 => by
    show orF g n ||| g n = 0 ↔ _
    rw [or_0, orF_0 n]
    constructor
    · rintro ⟨h1, h2⟩ i hi
      by_cases e : i = n
      · rw [e]; exact h2
      · exact h1 i (by omega)
    · intro h
      exact ⟨fun i hi => h i (by omega), h n (by omega)⟩
theorem mix_lt {α : Type} {i j : Nat} {g f : Nat → α} (h : j < i) : mix i g f j = g j := if_pos h
theorem mix_ge {α : Type} {i j : Nat} {g f : Nat → α} (h : ¬ j < i) : mix i g f j = f j := if_neg h
section RA
variable {p : Program} {l : Launch} {e : Env} {R : Room} {s : State} {m : MethodId} {args : Array Value} {below : List Frame} {meth : Method} {c : Code} {cells slots : Nat} {Q : State → Prop} {G : gG} {A : Nat → Prop} {nL : Nat} {cc : ByteArray} {own : String} {Ts : List Cond} {ws : va_W} {pc : Nat} {lv : List (Nat × Value)} {st : List Value}
theorem r_alen (h : Fx p m c s args meth own cc nL Ts G A) (q0 t0 : Nat) {a : Nat} {cA : ClassId} {x : vp_A} {ty : FieldType} {v : Int32} (d : decode cc pc = .ok (.arraylength, 1)) (ha : ws[q0]? = some (a, .inl (cA, x))) (ht : (gT G)[t0]? = some (cA, ty)) (hv : Int32.ofNat x.1 = v) (k : Wv p l e R s m args below meth c G A nL cells slots Q ws (pc + 1) lv (.int v :: st)) : Wv p l e R s m args below meth c G A nL cells slots Q ws pc lv (.ref a :: st) :=
  fun H locs ls hP hD hS hl => va_alen h.1.1 h.1.2.1 h.2.1 hP q0 t0 ha ht hv d (k H locs ls hP hD hS hl)
end RA
theorem st_get {ws : va_W} {q0 : Nat} {x y : Nat × va_E} (h : ws[q0]? = some x) : (ws.set q0 y)[q0]? = some y := by
  have hl := (List.getElem?_eq_some_iff.mp h).1
  simp [hl]
theorem st_set {ws : va_W} {q0 : Nat} {x y : Nat × va_E} : (ws.set q0 x).set q0 y = ws.set q0 y := List.set_set ..
theorem st_id {ws : va_W} {q0 : Nat} {x : Nat × va_E} (h : ws[q0]? = some x) : ws.set q0 x = ws := by
  apply List.ext_getElem?
  intro i
  rw [List.getElem?_set]
  by_cases e : q0 = i
  · subst e
    rw [if_pos rfl, h]
    have hl := (List.getElem?_eq_some_iff.mp h).1
    simp [hl]
  · rw [if_neg e]
section CN
variable {l : Launch} {G : gG} {a : Nat → Nat} {hd : Nat → Nat → Int64} {wk sp : Nat → Int64} {ct : Int32} {ky nm : Nat → Int32}
theorem c_narrow_false (v : Nat) (hv : v < 10) (hz : ∀ i, i < 16 → (fun j => wk j &&& (vW v j ^^^ (-1))) i = 0) : Ct l y_D_narrowWorkToFalse (.code y_D_narrowWorkToFalse b_D_narrowWorkToFalse 5 (some .boolean) :: TT) (rmF 2 42) G [.ref (a 0), .int (nI v)] (cw G a hd wk sp ct ky nm) (some (.int (bI false))) (cw G a hd wk (mix 16 (fun j => wk j &&& (vW v j ^^^ (-1))) sp) ct ky nm) := by
  refine ct_intro (cc := b_D_narrowWorkToFalse) (nL := 5) (by decide) [(0, .ref (a 0)), (1, .int (nI v))] rfl (Nat.le_of_ble_eq_true rfl) ?_
  intro p e s m below meth c A h hr
  refine r_lconst (pc := 0) h (v := orF (fun j => wk j &&& (vW v j ^^^ (-1))) 0) d_D_narrowWorkToFalse_0 rfl ?_
  refine r_lstore_n (pc := 1) h (lv' := [(2, .long (orF (fun j => wk j &&& (vW v j ^^^ (-1))) 0)), (0, .ref (a 0)), (1, .int (nI v))]) d_D_narrowWorkToFalse_1 rfl (by decide) rfl ?_
  refine r_iconst (pc := 2) h (v := nI 0) d_D_narrowWorkToFalse_2 (by decide) ?_
  refine r_istore (pc := 3) h (lv' := [(4, .int (nI 0)), (2, .long (orF (fun j => wk j &&& (vW v j ^^^ (-1))) 0)), (0, .ref (a 0)), (1, .int (nI v))]) d_D_narrowWorkToFalse_3 (by decide) rfl ?_
  refine Wv.wld (ws' := (cw G a hd wk (mix 0 (fun j => wk j &&& (vW v j ^^^ (-1))) sp) ct ky nm)) (by rw [mix_0]) ?_
  refine Wv.loop 16 (fun i => (cw G a hd wk (mix i (fun j => wk j &&& (vW v j ^^^ (-1))) sp) ct ky nm)) (fun i => [(4, .int (nI i)), (2, .long (orF (fun j => wk j &&& (vW v j ^^^ (-1))) i)), (0, .ref (a 0)), (1, .int (nI v))]) ?_ ?_
  · show Wv p l e _ s m _ below meth c G A _ _ _ _ (cw G a hd wk (mix 16 (fun j => wk j &&& (vW v j ^^^ (-1))) sp) ct ky nm) 5 [(4, .int (nI 16)), (2, .long (orF (fun j => wk j &&& (vW v j ^^^ (-1))) 16)), (0, .ref (a 0)), (1, .int (nI v))] []
    refine r_iload (pc := 5) h 0 d_D_narrowWorkToFalse_5 rfl ?_
    refine r_bipush (pc := 7) h (v := nI 16) d_D_narrowWorkToFalse_7 (by decide) ?_
    refine r_icmp_ge_t (pc := 9) h (tgt := 53) d_D_narrowWorkToFalse_9 (by decide) (nI_le (Nat.le_refl _) (by decide)) ?_
    refine r_lload_n (pc := 53) h 1 d_D_narrowWorkToFalse_53 rfl rfl ?_
    refine r_lconst (pc := 54) h (v := 0) d_D_narrowWorkToFalse_54 (by decide) ?_
    refine r_lcmp (pc := 55) h (z := lg_cmp (orF (fun j => wk j &&& (vW v j ^^^ (-1))) 16) 0) d_D_narrowWorkToFalse_55 rfl ?_
    refine r_if_ne_f (pc := 56) h (tgt := 61) d_D_narrowWorkToFalse_56 (by decide) ((lg_0 _ _).mpr ((orF_0 16).mpr hz)) ?_
    refine r_iconst (pc := 59) h (v := bI false) d_D_narrowWorkToFalse_59 (by decide) ?_
    exact r_zret (pc := 60) h hr (bI_nrw _) d_D_narrowWorkToFalse_60
  · intro i hi ih
    have ih : Wv p l e _ s m _ below meth c G A _ _ _ _ (cw G a hd wk (mix (i + 1) (fun j => wk j &&& (vW v j ^^^ (-1))) sp) ct ky nm) 5 [(4, .int (nI (i + 1))), (2, .long (orF (fun j => wk j &&& (vW v j ^^^ (-1))) (i + 1))), (0, .ref (a 0)), (1, .int (nI v))] [] := ih
    show Wv p l e _ s m _ below meth c G A _ _ _ _ (cw G a hd wk (mix i (fun j => wk j &&& (vW v j ^^^ (-1))) sp) ct ky nm) 5 [(4, .int (nI i)), (2, .long (orF (fun j => wk j &&& (vW v j ^^^ (-1))) i)), (0, .ref (a 0)), (1, .int (nI v))] []
    refine r_iload (pc := 5) h 0 d_D_narrowWorkToFalse_5 rfl ?_
    refine r_bipush (pc := 7) h (v := nI 16) d_D_narrowWorkToFalse_7 (by decide) ?_
    refine r_icmp_ge_f (pc := 9) h (tgt := 53) d_D_narrowWorkToFalse_9 (by decide) (nI_ge hi (by decide)) ?_
    refine r_aload_n (pc := 12) h 2 d_D_narrowWorkToFalse_12 rfl rfl ?_
    refine r_get (pc := 13) h 0 2 d_D_narrowWorkToFalse_13 cw_0 rfl (by decide) in_D (List.mem_cons_of_mem _ w_44) rfl ?_
    refine r_iload (pc := 16) h 0 d_D_narrowWorkToFalse_16 rfl ?_
    refine r_aload_n (pc := 18) h 2 d_D_narrowWorkToFalse_18 rfl rfl ?_
    refine r_get (pc := 19) h 0 1 d_D_narrowWorkToFalse_19 cw_0 rfl (by decide) in_D (List.mem_cons_of_mem _ w_43) rfl ?_
    refine r_iload (pc := 22) h 0 d_D_narrowWorkToFalse_22 rfl ?_
    refine r_laload (pc := 24) h 2 (z := wk i) i d_D_narrowWorkToFalse_24 cw_2 rfl hi (by decide) rfl ?_
    refine r_iload_n (pc := 25) h 3 d_D_narrowWorkToFalse_25 rfl rfl ?_
    refine r_iload (pc := 26) h 0 d_D_narrowWorkToFalse_26 rfl ?_
    refine r_invSa (pc := 28) h (st := [.long (wk i), .int (nI i), .ref (a 3)]) d_D_narrowWorkToFalse_28 (c_variableWord v i hv hi) (r_cS h wc_D_variableWord w_137 w_1 w_138 hd_D_variableWord ⟨(Nat.le_of_ble_eq_true rfl), (Nat.le_of_ble_eq_true rfl)⟩ rfl rfl) rfl rfl (Nat.le_of_ble_eq_true rfl) ⟨(Nat.le_of_ble_eq_true rfl), (Nat.le_of_ble_eq_true rfl)⟩ rfl ?_
    refine r_ldc2 (pc := 31) h (v := (-1)) d_D_narrowWorkToFalse_31 (List.mem_cons_of_mem _ w_145) ?_
    refine r_lxor (pc := 34) h (z := (vW v i) ^^^ (-1)) d_D_narrowWorkToFalse_34 rfl ?_
    refine r_land (pc := 35) h (z := (wk i) &&& ((vW v i) ^^^ (-1))) d_D_narrowWorkToFalse_35 rfl ?_
    refine r_lastore (pc := 36) h 3 (ws' := (cw G a hd wk (mix (i + 1) (fun j => wk j &&& (vW v j ^^^ (-1))) sp) ct ky nm)) i d_D_narrowWorkToFalse_36 cw_3 rfl hi (by decide) (by rw [mix_updL i (fun j => wk j &&& (vW v j ^^^ (-1))) sp]; exact cw_s3) ?_
    refine r_lload_n (pc := 37) h 1 d_D_narrowWorkToFalse_37 rfl rfl ?_
    refine r_aload_n (pc := 38) h 2 d_D_narrowWorkToFalse_38 rfl rfl ?_
    refine r_get (pc := 39) h 0 2 d_D_narrowWorkToFalse_39 cw_0 rfl (by decide) in_D (List.mem_cons_of_mem _ w_44) rfl ?_
    refine r_iload (pc := 42) h 0 d_D_narrowWorkToFalse_42 rfl ?_
    refine r_laload (pc := 44) h 3 (z := wk i &&& (vW v i ^^^ (-1))) i d_D_narrowWorkToFalse_44 cw_3 rfl hi (by decide) (mix_lt (g := (fun j => wk j &&& (vW v j ^^^ (-1)))) (Nat.lt_succ_self i)) ?_
    refine r_lor (pc := 45) h (z := orF (fun j => wk j &&& (vW v j ^^^ (-1))) (i + 1)) d_D_narrowWorkToFalse_45 rfl ?_
    refine r_lstore_n (pc := 46) h (lv' := [(2, .long (orF (fun j => wk j &&& (vW v j ^^^ (-1))) (i + 1))), (4, .int (nI i)), (0, .ref (a 0)), (1, .int (nI v))]) d_D_narrowWorkToFalse_46 rfl (by decide) rfl ?_
    refine r_iinc (pc := 47) h (v := nI (i + 1)) (lv' := [(4, .int (nI (i + 1))), (2, .long (orF (fun j => wk j &&& (vW v j ^^^ (-1))) (i + 1))), (0, .ref (a 0)), (1, .int (nI v))]) 1 d_D_narrowWorkToFalse_47 rfl (nI_inc i) (by decide) rfl ?_
    refine r_goto (pc := 50) h (tgt := 5) d_D_narrowWorkToFalse_50 (by decide) ?_
    exact ih
theorem c_narrow_true (v : Nat) (hv : v < 10) (hz : ¬ ∀ i, i < 16 → (fun j => wk j &&& (vW v j ^^^ (-1))) i = 0) : Ct l y_D_narrowWorkToFalse (.code y_D_narrowWorkToFalse b_D_narrowWorkToFalse 5 (some .boolean) :: TT) (rmF 2 42) G [.ref (a 0), .int (nI v)] (cw G a hd wk sp ct ky nm) (some (.int (bI true))) (cw G a hd (mix 16 (mix 16 (fun j => wk j &&& (vW v j ^^^ (-1))) sp) wk) (mix 16 (fun j => wk j &&& (vW v j ^^^ (-1))) sp) ct ky nm) := by
  refine ct_intro (cc := b_D_narrowWorkToFalse) (nL := 5) (by decide) [(0, .ref (a 0)), (1, .int (nI v))] rfl (Nat.le_of_ble_eq_true rfl) ?_
  intro p e s m below meth c A h hr
  refine r_lconst (pc := 0) h (v := orF (fun j => wk j &&& (vW v j ^^^ (-1))) 0) d_D_narrowWorkToFalse_0 rfl ?_
  refine r_lstore_n (pc := 1) h (lv' := [(2, .long (orF (fun j => wk j &&& (vW v j ^^^ (-1))) 0)), (0, .ref (a 0)), (1, .int (nI v))]) d_D_narrowWorkToFalse_1 rfl (by decide) rfl ?_
  refine r_iconst (pc := 2) h (v := nI 0) d_D_narrowWorkToFalse_2 (by decide) ?_
  refine r_istore (pc := 3) h (lv' := [(4, .int (nI 0)), (2, .long (orF (fun j => wk j &&& (vW v j ^^^ (-1))) 0)), (0, .ref (a 0)), (1, .int (nI v))]) d_D_narrowWorkToFalse_3 (by decide) rfl ?_
  refine Wv.wld (ws' := (cw G a hd wk (mix 0 (fun j => wk j &&& (vW v j ^^^ (-1))) sp) ct ky nm)) (by rw [mix_0]) ?_
  refine Wv.loop 16 (fun i => (cw G a hd wk (mix i (fun j => wk j &&& (vW v j ^^^ (-1))) sp) ct ky nm)) (fun i => [(4, .int (nI i)), (2, .long (orF (fun j => wk j &&& (vW v j ^^^ (-1))) i)), (0, .ref (a 0)), (1, .int (nI v))]) ?_ ?_
  · show Wv p l e _ s m _ below meth c G A _ _ _ _ (cw G a hd wk (mix 16 (fun j => wk j &&& (vW v j ^^^ (-1))) sp) ct ky nm) 5 [(4, .int (nI 16)), (2, .long (orF (fun j => wk j &&& (vW v j ^^^ (-1))) 16)), (0, .ref (a 0)), (1, .int (nI v))] []
    refine r_iload (pc := 5) h 0 d_D_narrowWorkToFalse_5 rfl ?_
    refine r_bipush (pc := 7) h (v := nI 16) d_D_narrowWorkToFalse_7 (by decide) ?_
    refine r_icmp_ge_t (pc := 9) h (tgt := 53) d_D_narrowWorkToFalse_9 (by decide) (nI_le (Nat.le_refl _) (by decide)) ?_
    refine r_lload_n (pc := 53) h 1 d_D_narrowWorkToFalse_53 rfl rfl ?_
    refine r_lconst (pc := 54) h (v := 0) d_D_narrowWorkToFalse_54 (by decide) ?_
    refine r_lcmp (pc := 55) h (z := lg_cmp (orF (fun j => wk j &&& (vW v j ^^^ (-1))) 16) 0) d_D_narrowWorkToFalse_55 rfl ?_
    refine r_if_ne_t (pc := 56) h (tgt := 61) d_D_narrowWorkToFalse_56 (by decide) (fun z => hz ((orF_0 16).mp ((lg_0 _ _).mp z))) ?_
    refine r_aload_n (pc := 61) h 2 d_D_narrowWorkToFalse_61 rfl rfl ?_
    refine r_get (pc := 62) h 0 2 d_D_narrowWorkToFalse_62 cw_0 rfl (by decide) in_D (List.mem_cons_of_mem _ w_44) rfl ?_
    refine r_iconst (pc := 65) h (v := 0) d_D_narrowWorkToFalse_65 (by decide) ?_
    refine r_aload_n (pc := 66) h 2 d_D_narrowWorkToFalse_66 rfl rfl ?_
    refine r_get (pc := 67) h 0 1 d_D_narrowWorkToFalse_67 cw_0 rfl (by decide) in_D (List.mem_cons_of_mem _ w_43) rfl ?_
    refine r_iconst (pc := 70) h (v := 0) d_D_narrowWorkToFalse_70 (by decide) ?_
    refine r_bipush (pc := 71) h (v := nI 16) d_D_narrowWorkToFalse_71 (by decide) ?_
    refine r_copyl (pc := 73) h 3 2 (ws' := (cw G a hd (mix 16 (mix 16 (fun j => wk j &&& (vW v j ^^^ (-1))) sp) wk) (mix 16 (fun j => wk j &&& (vW v j ^^^ (-1))) sp) ct ky nm)) 16 d_D_narrowWorkToFalse_73 (List.mem_cons_of_mem _ w_201) (List.mem_cons_of_mem _ w_203) (List.mem_cons_of_mem _ w_202) (List.mem_cons_of_mem _ w_9) cw_3 cw_2 rfl rfl rfl (by decide) (by decide) (by decide) (Nat.le_of_ble_eq_true rfl) (Nat.le_of_ble_eq_true rfl) (by rw [cpy_row]; exact cw_s2) ?_
    refine r_iconst (pc := 76) h (v := bI true) d_D_narrowWorkToFalse_76 (by decide) ?_
    exact r_zret (pc := 77) h hr (bI_nrw _) d_D_narrowWorkToFalse_77
  · intro i hi ih
    have ih : Wv p l e _ s m _ below meth c G A _ _ _ _ (cw G a hd wk (mix (i + 1) (fun j => wk j &&& (vW v j ^^^ (-1))) sp) ct ky nm) 5 [(4, .int (nI (i + 1))), (2, .long (orF (fun j => wk j &&& (vW v j ^^^ (-1))) (i + 1))), (0, .ref (a 0)), (1, .int (nI v))] [] := ih
    show Wv p l e _ s m _ below meth c G A _ _ _ _ (cw G a hd wk (mix i (fun j => wk j &&& (vW v j ^^^ (-1))) sp) ct ky nm) 5 [(4, .int (nI i)), (2, .long (orF (fun j => wk j &&& (vW v j ^^^ (-1))) i)), (0, .ref (a 0)), (1, .int (nI v))] []
    refine r_iload (pc := 5) h 0 d_D_narrowWorkToFalse_5 rfl ?_
    refine r_bipush (pc := 7) h (v := nI 16) d_D_narrowWorkToFalse_7 (by decide) ?_
    refine r_icmp_ge_f (pc := 9) h (tgt := 53) d_D_narrowWorkToFalse_9 (by decide) (nI_ge hi (by decide)) ?_
    refine r_aload_n (pc := 12) h 2 d_D_narrowWorkToFalse_12 rfl rfl ?_
    refine r_get (pc := 13) h 0 2 d_D_narrowWorkToFalse_13 cw_0 rfl (by decide) in_D (List.mem_cons_of_mem _ w_44) rfl ?_
    refine r_iload (pc := 16) h 0 d_D_narrowWorkToFalse_16 rfl ?_
    refine r_aload_n (pc := 18) h 2 d_D_narrowWorkToFalse_18 rfl rfl ?_
    refine r_get (pc := 19) h 0 1 d_D_narrowWorkToFalse_19 cw_0 rfl (by decide) in_D (List.mem_cons_of_mem _ w_43) rfl ?_
    refine r_iload (pc := 22) h 0 d_D_narrowWorkToFalse_22 rfl ?_
    refine r_laload (pc := 24) h 2 (z := wk i) i d_D_narrowWorkToFalse_24 cw_2 rfl hi (by decide) rfl ?_
    refine r_iload_n (pc := 25) h 3 d_D_narrowWorkToFalse_25 rfl rfl ?_
    refine r_iload (pc := 26) h 0 d_D_narrowWorkToFalse_26 rfl ?_
    refine r_invSa (pc := 28) h (st := [.long (wk i), .int (nI i), .ref (a 3)]) d_D_narrowWorkToFalse_28 (c_variableWord v i hv hi) (r_cS h wc_D_variableWord w_137 w_1 w_138 hd_D_variableWord ⟨(Nat.le_of_ble_eq_true rfl), (Nat.le_of_ble_eq_true rfl)⟩ rfl rfl) rfl rfl (Nat.le_of_ble_eq_true rfl) ⟨(Nat.le_of_ble_eq_true rfl), (Nat.le_of_ble_eq_true rfl)⟩ rfl ?_
    refine r_ldc2 (pc := 31) h (v := (-1)) d_D_narrowWorkToFalse_31 (List.mem_cons_of_mem _ w_145) ?_
    refine r_lxor (pc := 34) h (z := (vW v i) ^^^ (-1)) d_D_narrowWorkToFalse_34 rfl ?_
    refine r_land (pc := 35) h (z := (wk i) &&& ((vW v i) ^^^ (-1))) d_D_narrowWorkToFalse_35 rfl ?_
    refine r_lastore (pc := 36) h 3 (ws' := (cw G a hd wk (mix (i + 1) (fun j => wk j &&& (vW v j ^^^ (-1))) sp) ct ky nm)) i d_D_narrowWorkToFalse_36 cw_3 rfl hi (by decide) (by rw [mix_updL i (fun j => wk j &&& (vW v j ^^^ (-1))) sp]; exact cw_s3) ?_
    refine r_lload_n (pc := 37) h 1 d_D_narrowWorkToFalse_37 rfl rfl ?_
    refine r_aload_n (pc := 38) h 2 d_D_narrowWorkToFalse_38 rfl rfl ?_
    refine r_get (pc := 39) h 0 2 d_D_narrowWorkToFalse_39 cw_0 rfl (by decide) in_D (List.mem_cons_of_mem _ w_44) rfl ?_
    refine r_iload (pc := 42) h 0 d_D_narrowWorkToFalse_42 rfl ?_
    refine r_laload (pc := 44) h 3 (z := wk i &&& (vW v i ^^^ (-1))) i d_D_narrowWorkToFalse_44 cw_3 rfl hi (by decide) (mix_lt (g := (fun j => wk j &&& (vW v j ^^^ (-1)))) (Nat.lt_succ_self i)) ?_
    refine r_lor (pc := 45) h (z := orF (fun j => wk j &&& (vW v j ^^^ (-1))) (i + 1)) d_D_narrowWorkToFalse_45 rfl ?_
    refine r_lstore_n (pc := 46) h (lv' := [(2, .long (orF (fun j => wk j &&& (vW v j ^^^ (-1))) (i + 1))), (4, .int (nI i)), (0, .ref (a 0)), (1, .int (nI v))]) d_D_narrowWorkToFalse_46 rfl (by decide) rfl ?_
    refine r_iinc (pc := 47) h (v := nI (i + 1)) (lv' := [(4, .int (nI (i + 1))), (2, .long (orF (fun j => wk j &&& (vW v j ^^^ (-1))) (i + 1))), (0, .ref (a 0)), (1, .int (nI v))]) 1 d_D_narrowWorkToFalse_47 rfl (nI_inc i) (by decide) rfl ?_
    refine r_goto (pc := 50) h (tgt := 5) d_D_narrowWorkToFalse_50 (by decide) ?_
    exact ih
theorem c_fillJ {ws : va_W} (q0 b n : Nat) (f : Nat → Int64) (v : Int64) (hq : ws[q0]? = some (b, .inl (G.2 1, n, .inr (.inl f)))) (hn31 : n < 2 ^ 31) : Ct l y_A_fillJ (.code y_A_fillJ b_A_fillJ 5 none :: TT) (rmF 0 0) G [.ref b, .long v] ws none (ws.set q0 (b, .inl (G.2 1, n, .inr (.inl (mix n (fun _ => v) f))))) := by
  refine ct_intro (cc := b_A_fillJ) (nL := 5) (by decide) [(0, .ref b), (1, .long v)] rfl (Nat.le_of_ble_eq_true rfl) ?_
  intro p e s m below meth c A h hr
  refine r_iconst (pc := 0) h (v := nI 0) d_A_fillJ_0 (by decide) ?_
  refine r_istore_n (pc := 1) h (lv' := [(3, .int (nI 0)), (0, .ref b), (1, .long v)]) d_A_fillJ_1 rfl (by decide) rfl ?_
  refine r_aload_n (pc := 2) h 1 d_A_fillJ_2 rfl rfl ?_
  refine r_alen (pc := 3) h q0 1 (v := nI n) d_A_fillJ_3 hq rfl rfl ?_
  refine r_istore (pc := 4) h (lv' := [(4, .int (nI n)), (3, .int (nI 0)), (0, .ref b), (1, .long v)]) d_A_fillJ_4 (by decide) rfl ?_
  refine Wv.wld (ws' := (ws.set q0 (b, .inl (G.2 1, n, .inr (.inl (mix 0 (fun _ => v) f)))))) (by rw [mix_0]; exact (st_id hq).symm) ?_
  refine Wv.sub [1, 0, 2, 3] rfl ?_
  refine Wv.loop n (fun i => (ws.set q0 (b, .inl (G.2 1, n, .inr (.inl (mix i (fun _ => v) f)))))) (fun i => [(3, .int (nI i)), (4, .int (nI n)), (0, .ref b), (1, .long v)]) ?_ ?_
  · show Wv p l e _ s m _ below meth c G A _ _ _ _ (ws.set q0 (b, .inl (G.2 1, n, .inr (.inl (mix n (fun _ => v) f))))) 6 [(3, .int (nI n)), (4, .int (nI n)), (0, .ref b), (1, .long v)] []
    refine r_iload_n (pc := 6) h 0 d_A_fillJ_6 rfl rfl ?_
    refine r_iload (pc := 7) h 1 d_A_fillJ_7 rfl ?_
    refine r_icmp_ge_t (pc := 9) h (tgt := 22) d_A_fillJ_9 (by decide) (nI_le (Nat.le_refl _) hn31) ?_
    exact r_vret (pc := 22) h hr d_A_fillJ_22
  · intro i hi ih
    have ih : Wv p l e _ s m _ below meth c G A _ _ _ _ (ws.set q0 (b, .inl (G.2 1, n, .inr (.inl (mix (i + 1) (fun _ => v) f))))) 6 [(3, .int (nI (i + 1))), (4, .int (nI n)), (0, .ref b), (1, .long v)] [] := ih
    show Wv p l e _ s m _ below meth c G A _ _ _ _ (ws.set q0 (b, .inl (G.2 1, n, .inr (.inl (mix i (fun _ => v) f))))) 6 [(3, .int (nI i)), (4, .int (nI n)), (0, .ref b), (1, .long v)] []
    refine r_iload_n (pc := 6) h 0 d_A_fillJ_6 rfl rfl ?_
    refine r_iload (pc := 7) h 1 d_A_fillJ_7 rfl ?_
    refine r_icmp_ge_f (pc := 9) h (tgt := 22) d_A_fillJ_9 (by decide) (nI_ge hi hn31) ?_
    refine r_aload_n (pc := 12) h 2 d_A_fillJ_12 rfl rfl ?_
    refine r_iload_n (pc := 13) h 0 d_A_fillJ_13 rfl rfl ?_
    refine r_lload_n (pc := 14) h 3 d_A_fillJ_14 rfl rfl ?_
    refine r_lastore (pc := 15) h q0 (ws' := (ws.set q0 (b, .inl (G.2 1, n, .inr (.inl (mix (i + 1) (fun _ => v) f)))))) i d_A_fillJ_15 (st_get hq) rfl hi hn31 (by rw [mix_updL i (fun _ => v) f]; exact st_set) ?_
    refine r_iinc (pc := 16) h (v := nI (i + 1)) (lv' := [(3, .int (nI (i + 1))), (4, .int (nI n)), (0, .ref b), (1, .long v)]) 0 d_A_fillJ_16 rfl (nI_inc i) (by decide) rfl ?_
    refine r_goto (pc := 19) h (tgt := 6) d_A_fillJ_19 (by decide) ?_
    exact ih
theorem c_fillI {ws : va_W} (q0 b n : Nat) (f : Nat → Int32) (v : Int32) (hq : ws[q0]? = some (b, .inl (G.2 0, n, .inl f))) (hn31 : n < 2 ^ 31) : Ct l y_A_fillI (.code y_A_fillI b_A_fillI 4 none :: TT) (rmF 0 0) G [.ref b, .int v] ws none (ws.set q0 (b, .inl (G.2 0, n, .inl (mix n (fun _ => v) f)))) := by
  refine ct_intro (cc := b_A_fillI) (nL := 4) (by decide) [(0, .ref b), (1, .int v)] rfl (Nat.le_of_ble_eq_true rfl) ?_
  intro p e s m below meth c A h hr
  refine r_iconst (pc := 0) h (v := nI 0) d_A_fillI_0 (by decide) ?_
  refine r_istore_n (pc := 1) h (lv' := [(2, .int (nI 0)), (0, .ref b), (1, .int v)]) d_A_fillI_1 rfl (by decide) rfl ?_
  refine r_aload_n (pc := 2) h 1 d_A_fillI_2 rfl rfl ?_
  refine r_alen (pc := 3) h q0 0 (v := nI n) d_A_fillI_3 hq rfl rfl ?_
  refine r_istore_n (pc := 4) h (lv' := [(3, .int (nI n)), (2, .int (nI 0)), (0, .ref b), (1, .int v)]) d_A_fillI_4 rfl (by decide) rfl ?_
  refine Wv.wld (ws' := (ws.set q0 (b, .inl (G.2 0, n, .inl (mix 0 (fun _ => v) f))))) (by rw [mix_0]; exact (st_id hq).symm) ?_
  refine Wv.sub [1, 0, 2, 3] rfl ?_
  refine Wv.loop n (fun i => (ws.set q0 (b, .inl (G.2 0, n, .inl (mix i (fun _ => v) f))))) (fun i => [(2, .int (nI i)), (3, .int (nI n)), (0, .ref b), (1, .int v)]) ?_ ?_
  · show Wv p l e _ s m _ below meth c G A _ _ _ _ (ws.set q0 (b, .inl (G.2 0, n, .inl (mix n (fun _ => v) f)))) 5 [(2, .int (nI n)), (3, .int (nI n)), (0, .ref b), (1, .int v)] []
    refine r_iload_n (pc := 5) h 0 d_A_fillI_5 rfl rfl ?_
    refine r_iload_n (pc := 6) h 1 d_A_fillI_6 rfl rfl ?_
    refine r_icmp_ge_t (pc := 7) h (tgt := 20) d_A_fillI_7 (by decide) (nI_le (Nat.le_refl _) hn31) ?_
    exact r_vret (pc := 20) h hr d_A_fillI_20
  · intro i hi ih
    have ih : Wv p l e _ s m _ below meth c G A _ _ _ _ (ws.set q0 (b, .inl (G.2 0, n, .inl (mix (i + 1) (fun _ => v) f)))) 5 [(2, .int (nI (i + 1))), (3, .int (nI n)), (0, .ref b), (1, .int v)] [] := ih
    show Wv p l e _ s m _ below meth c G A _ _ _ _ (ws.set q0 (b, .inl (G.2 0, n, .inl (mix i (fun _ => v) f)))) 5 [(2, .int (nI i)), (3, .int (nI n)), (0, .ref b), (1, .int v)] []
    refine r_iload_n (pc := 5) h 0 d_A_fillI_5 rfl rfl ?_
    refine r_iload_n (pc := 6) h 1 d_A_fillI_6 rfl rfl ?_
    refine r_icmp_ge_f (pc := 7) h (tgt := 20) d_A_fillI_7 (by decide) (nI_ge hi hn31) ?_
    refine r_aload_n (pc := 10) h 2 d_A_fillI_10 rfl rfl ?_
    refine r_iload_n (pc := 11) h 0 d_A_fillI_11 rfl rfl ?_
    refine r_iload_n (pc := 12) h 3 d_A_fillI_12 rfl rfl ?_
    refine r_iastore (pc := 13) h q0 (ws' := (ws.set q0 (b, .inl (G.2 0, n, .inl (mix (i + 1) (fun _ => v) f))))) i d_A_fillI_13 (st_get hq) rfl hi hn31 (by rw [mix_upd i (fun _ => v) f]; exact st_set) ?_
    refine r_iinc (pc := 14) h (v := nI (i + 1)) (lv' := [(2, .int (nI (i + 1))), (3, .int (nI n)), (0, .ref b), (1, .int v)]) 0 d_A_fillI_14 rfl (nI_inc i) (by decide) rfl ?_
    refine r_goto (pc := 17) h (tgt := 5) d_A_fillI_17 (by decide) ?_
    exact ih
theorem pc_68 : ∀ b, b < 256 → pcf2 (pcf1 b) ≤ 68 := by decide +kernel
theorem byt_le {f g : Nat → Nat} (h : ∀ b, b < 256 → f b ≤ g b) (k : Nat) : ∀ n n', (∀ b b', g b = g b') → byt f k n ≤ byt g k n' := by
  induction k with
  | zero => intro n n' _; exact Nat.le_refl _
  | succ k ih =>
    intro n n' hg
    show f (n % 256) + 256 * byt f k (n / 256) ≤ g (n' % 256) + 256 * byt g k (n' / 256)
    have h1 := h _ (Nat.mod_lt n (by decide : 256 > 0))
    have h2 := ih (n / 256) (n' / 256) hg
    rw [hg (n % 256) (n' % 256)] at h1
    omega
/-- the numbers of bitCount's steps -/
theorem bc_all {n : Nat} (hn : n < 2 ^ 64) : ∃ n1 n2 n3 n4 n5 n6 : Nat, n1 = n - ((n / 2) &&& mk 85 8) ∧ n2 = (n1 &&& mk 51 8) + ((n1 / 4) &&& mk 51 8) ∧ n3 = (n2 + n2 / 16) &&& mk 15 8 ∧ n4 = n3 + n3 / 256 ∧ n5 = n4 + n4 / 65536 ∧ n6 = n5 + n5 / 4294967296 ∧ (n / 2) &&& mk 85 8 ≤ n ∧ n1 < 2 ^ 64 ∧ n2 < 2 ^ 64 ∧ n2 + n2 / 16 < 2 ^ 64 ∧ n3 < 2 ^ 64 ∧ n4 < 2 ^ 64 ∧ n5 < 2 ^ 64 ∧ n6 < 2 ^ 63 ∧ n6 % 128 = bys pc8 8 n := by
  have hn8 : n < 256 ^ 8 := hn
  refine ⟨_, _, _, _, _, _, rfl, rfl, rfl, rfl, rfl, rfl, (pc_1 8 n hn8).1, ?_⟩
  generalize h1 : n - ((n / 2) &&& mk 85 8) = n1
  generalize h2 : (n1 &&& mk 51 8) + ((n1 / 4) &&& mk 51 8) = n2
  have l1 : n1 < 256 ^ 8 := by rw [← h1, (pc_1 8 n hn8).2]; exact byt_lt pc_f1 8 n
  have e2 : n2 = byt (fun b => pcf2 (pcf1 b)) 8 n := by
    rw [← h2, pc_2 8 n1 l1, ← h1, (pc_1 8 n hn8).2, byt_byt pc_f1]
  have l2 : n2 < 256 ^ 8 := by rw [e2]; exact byt_lt (fun b hb => (pc_f2 b hb).1) 8 n
  have nb : n2 % 256 ^ 8 = n2 := Nat.mod_eq_of_lt l2
  have e3 := pc_123 hn8 h1.symm h2.symm
  have b2 : n2 ≤ byt (fun _ => 68) 8 0 := by
    rw [e2]
    exact byt_le (fun b hb => pc_68 b hb) 8 n 0 (fun _ _ => rfl)
  have b2' : byt (fun _ => 68) 8 0 + byt (fun _ => 68) 8 0 / 16 < 2 ^ 64 := by decide
  have l2b : n2 + n2 / 16 < 2 ^ 64 := Nat.lt_of_le_of_lt (Nat.add_le_add b2 (Nat.div_le_div_right b2)) b2'
  rw [e3]
  have hs := pc_sum (n := n) rfl rfl rfl rfl
  have l3 : byt pc8 8 n < 2 ^ 64 := byt_lt (fun b hb => Nat.lt_of_le_of_lt (pc8_le b hb) (by decide)) 8 n
  refine ⟨l1, l2, l2b, l3, ?_, ?_, hs.2, hs.1⟩
  · have := hs.2
    have q1 : byt pc8 8 n + byt pc8 8 n / 256 ≤ byt pc8 8 n + byt pc8 8 n / 256 + (byt pc8 8 n + byt pc8 8 n / 256) / 65536 := Nat.le_add_right _ _
    have q2 := Nat.le_trans q1 (Nat.le_add_right _ ((byt pc8 8 n + byt pc8 8 n / 256 + (byt pc8 8 n + byt pc8 8 n / 256) / 65536) / 4294967296))
    exact Nat.lt_of_le_of_lt q2 (Nat.lt_trans this (by decide))
  · have := hs.2
    have q2 := Nat.le_add_right (byt pc8 8 n + byt pc8 8 n / 256 + (byt pc8 8 n + byt pc8 8 n / 256) / 65536) ((byt pc8 8 n + byt pc8 8 n / 256 + (byt pc8 8 n + byt pc8 8 n / 256) / 65536) / 4294967296)
    exact Nat.lt_of_le_of_lt q2 (Nat.lt_trans this (by decide))
theorem mk_lt : mk 85 8 < 2 ^ 64 ∧ mk 51 8 < 2 ^ 64 ∧ mk 15 8 < 2 ^ 64 := by decide
theorem l2i_127 {n : Nat} : nI n &&& nI 127 = nI (n % 128) := by
  rw [nx_and, show (127 : Nat) = 2 ^ 7 - 1 from rfl, Nat.and_two_pow_sub_one_eq_mod]
theorem c_bitCountN {ws : va_W} (n : Nat) (hn : n < 2 ^ 64) : Ct l y_J_bitCount (.code y_J_bitCount b_J_bitCount 2 (some .int) :: TT) (rmF 0 0) G [.long (lN n)] ws (some (.int (nI (bys pc8 8 n)))) ws := by
  refine ct_intro (cc := b_J_bitCount) (nL := 2) (by decide) [(0, .long (lN n))] rfl (Nat.le_of_ble_eq_true rfl) ?_
  intro p e s m below meth c A h hr
  obtain ⟨n1, n2, n3, n4, n5, n6, e1, e2, e3, e4, e5, e6, hle, l1, l2, l2b, l3, l4, l5, l6, e7⟩ := bc_all hn
  refine r_lload_n (pc := 0) h 0 d_J_bitCount_0 rfl rfl ?_
  refine r_lload_n (pc := 1) h 0 d_J_bitCount_1 rfl rfl ?_
  refine r_iconst (pc := 2) h (v := nI 1) d_J_bitCount_2 (by decide) ?_
  refine r_lushr (pc := 3) h (z := lN (n / 2)) d_J_bitCount_3 (wb_shr hn (by decide)) ?_
  refine r_ldc2 (pc := 4) h (v := lN (mk 85 8)) d_J_bitCount_4 (by rw [show lN (mk 85 8) = 6148914691236517205 from by decide +kernel]; exact List.mem_cons_of_mem _ w_253) ?_
  refine r_land (pc := 7) h (z := lN ((n / 2) &&& mk 85 8)) d_J_bitCount_7 (wb_and (Nat.lt_of_le_of_lt (Nat.div_le_self _ _) hn) mk_lt.1) ?_
  refine r_lsub (pc := 8) h (z := lN n1) d_J_bitCount_8 (by rw [e1]; exact lN_sub hle) ?_
  refine r_lstore_n (pc := 9) h (lv' := [(0, .long (lN n1))]) d_J_bitCount_9 rfl (by decide) rfl ?_
  refine r_lload_n (pc := 10) h 0 d_J_bitCount_10 rfl rfl ?_
  refine r_ldc2 (pc := 11) h (v := lN (mk 51 8)) d_J_bitCount_11 (by rw [show lN (mk 51 8) = 3689348814741910323 from by decide +kernel]; exact List.mem_cons_of_mem _ w_254) ?_
  refine r_land (pc := 14) h (z := lN (n1 &&& mk 51 8)) d_J_bitCount_14 (wb_and l1 mk_lt.2.1) ?_
  refine r_lload_n (pc := 15) h 0 d_J_bitCount_15 rfl rfl ?_
  refine r_iconst (pc := 16) h (v := nI 2) d_J_bitCount_16 (by decide) ?_
  refine r_lushr (pc := 17) h (z := lN (n1 / 4)) d_J_bitCount_17 (wb_shr l1 (by decide)) ?_
  refine r_ldc2 (pc := 18) h (v := lN (mk 51 8)) d_J_bitCount_18 (by rw [show lN (mk 51 8) = 3689348814741910323 from by decide +kernel]; exact List.mem_cons_of_mem _ w_254) ?_
  refine r_land (pc := 21) h (z := lN ((n1 / 4) &&& mk 51 8)) d_J_bitCount_21 (wb_and (Nat.lt_of_le_of_lt (Nat.div_le_self _ _) l1) mk_lt.2.1) ?_
  refine r_ladd (pc := 22) h (z := lN n2) d_J_bitCount_22 (by rw [e2]; exact lN_add _ _) ?_
  refine r_lstore_n (pc := 23) h (lv' := [(0, .long (lN n2))]) d_J_bitCount_23 rfl (by decide) rfl ?_
  refine r_lload_n (pc := 24) h 0 d_J_bitCount_24 rfl rfl ?_
  refine r_lload_n (pc := 25) h 0 d_J_bitCount_25 rfl rfl ?_
  refine r_iconst (pc := 26) h (v := nI 4) d_J_bitCount_26 (by decide) ?_
  refine r_lushr (pc := 27) h (z := lN (n2 / 16)) d_J_bitCount_27 (wb_shr l2 (by decide)) ?_
  refine r_ladd (pc := 28) h (z := lN (n2 + n2 / 16)) d_J_bitCount_28 (lN_add _ _) ?_
  refine r_ldc2 (pc := 29) h (v := lN (mk 15 8)) d_J_bitCount_29 (by rw [show lN (mk 15 8) = 1085102592571150095 from by decide +kernel]; exact List.mem_cons_of_mem _ w_255) ?_
  refine r_land (pc := 32) h (z := lN n3) d_J_bitCount_32 (by rw [e3]; exact wb_and l2b mk_lt.2.2) ?_
  refine r_lstore_n (pc := 33) h (lv' := [(0, .long (lN n3))]) d_J_bitCount_33 rfl (by decide) rfl ?_
  refine r_lload_n (pc := 34) h 0 d_J_bitCount_34 rfl rfl ?_
  refine r_lload_n (pc := 35) h 0 d_J_bitCount_35 rfl rfl ?_
  refine r_bipush (pc := 36) h (v := nI 8) d_J_bitCount_36 (by decide) ?_
  refine r_lushr (pc := 38) h (z := lN (n3 / 256)) d_J_bitCount_38 (wb_shr l3 (by decide)) ?_
  refine r_ladd (pc := 39) h (z := lN n4) d_J_bitCount_39 (by rw [e4]; exact lN_add _ _) ?_
  refine r_lstore_n (pc := 40) h (lv' := [(0, .long (lN n4))]) d_J_bitCount_40 rfl (by decide) rfl ?_
  refine r_lload_n (pc := 41) h 0 d_J_bitCount_41 rfl rfl ?_
  refine r_lload_n (pc := 42) h 0 d_J_bitCount_42 rfl rfl ?_
  refine r_bipush (pc := 43) h (v := nI 16) d_J_bitCount_43 (by decide) ?_
  refine r_lushr (pc := 45) h (z := lN (n4 / 65536)) d_J_bitCount_45 (wb_shr l4 (by decide)) ?_
  refine r_ladd (pc := 46) h (z := lN n5) d_J_bitCount_46 (by rw [e5]; exact lN_add _ _) ?_
  refine r_lstore_n (pc := 47) h (lv' := [(0, .long (lN n5))]) d_J_bitCount_47 rfl (by decide) rfl ?_
  refine r_lload_n (pc := 48) h 0 d_J_bitCount_48 rfl rfl ?_
  refine r_lload_n (pc := 49) h 0 d_J_bitCount_49 rfl rfl ?_
  refine r_bipush (pc := 50) h (v := nI 32) d_J_bitCount_50 (by decide) ?_
  refine r_lushr (pc := 52) h (z := lN (n5 / 4294967296)) d_J_bitCount_52 (wb_shr l5 (by decide)) ?_
  refine r_ladd (pc := 53) h (z := lN n6) d_J_bitCount_53 (by rw [e6]; exact lN_add _ _) ?_
  refine r_lstore_n (pc := 54) h (lv' := [(0, .long (lN n6))]) d_J_bitCount_54 rfl (by decide) rfl ?_
  refine r_lload_n (pc := 55) h 0 d_J_bitCount_55 rfl rfl ?_
  refine r_l2i (pc := 56) h (z := nI n6) d_J_bitCount_56 (lN_i n6) ?_
  refine r_bipush (pc := 57) h (v := nI 127) d_J_bitCount_57 (by decide) ?_
  refine r_iand (pc := 59) h (z := nI (bys pc8 8 n)) d_J_bitCount_59 (by rw [← e7]; exact l2i_127) ?_
  exact r_iret (pc := 60) h hr d_J_bitCount_60
theorem c_bitCount {ws : va_W} (x : Int64) : Ct l y_J_bitCount (.code y_J_bitCount b_J_bitCount 2 (some .int) :: TT) (rmF 0 0) G [.long x] ws (some (.int (nI (bys pc8 8 x.toBitVec.toNat)))) ws := by
  obtain ⟨n, hn, rfl⟩ := wb_of x
  rw [wb_tn hn]
  exact c_bitCountN n hn
end CN
