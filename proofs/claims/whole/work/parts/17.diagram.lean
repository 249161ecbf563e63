-- the diagram
/-- the keys as the array holds them -/
def kN (kt : Nat → Nat) : Nat → Int32 := fun s => nI (kt s)
/-- a key's home -/
def hm (K : Nat) : Nat := (nI K * (-1640531535)).toBitVec.toNat / 1048576
theorem hm_lt (K : Nat) : hm K < 4096 := by
  unfold hm
  have := (nI K * (-1640531535)).toBitVec.isLt
  omega
theorem nI_tn (x : Int32) : x = nI x.toBitVec.toNat := Int32.toBitVec_inj.mp (by show _ = BitVec.ofNat 32 _; simp)
theorem hm_eq (K : Nat) : ((nI K * (-1640531535)).toUInt32 >>> ((nI 20).toUInt32 &&& Int32.toUInt32 31)).toInt32 = nI (hm K) := by
  have h := nx_ushr (x := (nI K * (-1640531535)).toBitVec.toNat) (v := 20) (nI K * (-1640531535)).toBitVec.isLt (by decide)
  rw [← nI_tn] at h
  exact h
theorem nx_4095 {x : Nat} (hx : x < 2 ^ 32) : nI x &&& nI 4095 = nI (x % 4096) := pk_andN hx 12 (by decide)
theorem kN_up (kt : Nat → Nat) (p K : Nat) : upd (kN kt) p (nI K) = kN (va_up kt p K) := by
  funext j
  unfold upd kN va_up
  by_cases h : j = p <;> simp [h]
theorem kN_0 : (mix 4096 (fun _ => 0) : (Nat → Int32) → Nat → Int32) = fun f => mix 4096 (kN fun _ => 0) f := rfl
theorem KEY_lt {v a b : Nat} (hv : v < 10) (ha : a < 8192) (hb : b < 8192) : KEY v a b < 1073741824 := by unfold KEY; omega
theorem KEY_or {v a b : Nat} (ha : a < 8192) (hb : b < 8192) : (v * 2 ^ 26 ||| a * 2 ^ 13) ||| b = KEY v a b := by
  have h1 : v * 2 ^ 26 ||| a * 2 ^ 13 = v * 2 ^ 26 + a * 2 ^ 13 := by
    rw [Nat.mul_comm v]
    exact (Nat.two_pow_add_eq_or_of_lt (by omega) v).symm
  have h2 : v * 2 ^ 26 + a * 2 ^ 13 = 2 ^ 13 * (v * 2 ^ 13 + a) := by omega
  rw [h1, h2, ← Nat.two_pow_add_eq_or_of_lt (by omega : b < 2 ^ 13)]
  unfold KEY
  omega
section DG
variable {l : Launch} {G : gG} {a : Nat → Nat} {hd : Nat → Nat → Int64} {wk sp : Nat → Int64} {ct : Int32} {ky nm : Nat → Int32}
theorem c_slot_f (kt : Nat → Nat) (K t : Nat) (hK : K < 1073741824) (hlt : ∀ s, s < 4096 → kt s < 1073741824) (ht : t < 4096) (hB : PB hm kt K t) (hf : kt ((hm K + t) % 4096) = K) : Ct l y_G_slotOf (.code y_G_slotOf b_G_slotOf 4 (some .int) :: TT) (rmF 0 0) G [.ref (a 4), .int (nI K)] (cw G a hd wk sp ct (kN kt) nm) (some (.int (nI ((hm K + t) % 4096)))) (cw G a hd wk sp ct (kN kt) nm) := by
  refine ct_intro (cc := b_G_slotOf) (nL := 4) (by decide) [(0, .ref (a 4)), (1, .int (nI K))] rfl (Nat.le_of_ble_eq_true rfl) ?_
  intro p e s m below meth c A h hr
  refine r_iload_n (pc := 0) h 1 d_G_slotOf_0 rfl rfl ?_
  refine r_ldc (pc := 1) h (v := (-1640531535)) d_G_slotOf_1 (List.mem_cons_of_mem _ w_336) ?_
  refine r_imul (pc := 3) h (z := (nI K) * (-1640531535)) d_G_slotOf_3 rfl ?_
  refine r_bipush (pc := 4) h (v := nI 20) d_G_slotOf_4 (by decide) ?_
  refine r_iushr (pc := 6) h (z := nI ((hm K + 0) % 4096)) d_G_slotOf_6 (by rw [Nat.add_zero, Nat.mod_eq_of_lt (hm_lt K)]; exact hm_eq K) ?_
  refine r_istore_n (pc := 7) h (lv' := [(2, .int (nI ((hm K + 0) % 4096))), (0, .ref (a 4)), (1, .int (nI K))]) d_G_slotOf_7 rfl (by decide) rfl ?_
  refine r_iconst (pc := 8) h (v := nI 0) d_G_slotOf_8 (by decide) ?_
  refine r_istore_n (pc := 9) h (lv' := [(3, .int (nI 0)), (2, .int (nI ((hm K + 0) % 4096))), (0, .ref (a 4)), (1, .int (nI K))]) d_G_slotOf_9 rfl (by decide) rfl ?_
  refine Wv.loop t (fun i => (cw G a hd wk sp ct (kN kt) nm)) (fun i => [(3, .int (nI i)), (2, .int (nI ((hm K + i) % 4096))), (0, .ref (a 4)), (1, .int (nI K))]) ?_ ?_
  · show Wv p l e _ s m _ below meth c G A _ _ _ _ (cw G a hd wk sp ct (kN kt) nm) 10 [(3, .int (nI t)), (2, .int (nI ((hm K + t) % 4096))), (0, .ref (a 4)), (1, .int (nI K))] []
    refine r_iload_n (pc := 10) h 0 d_G_slotOf_10 rfl rfl ?_
    refine r_sipush (pc := 11) h (v := nI 4096) d_G_slotOf_11 (by decide) ?_
    refine r_icmp_ge_f (pc := 14) h (tgt := 71) d_G_slotOf_14 (by decide) (nI_ge ht (by decide)) ?_
    refine r_aload_n (pc := 17) h 2 d_G_slotOf_17 rfl rfl ?_
    refine r_get (pc := 18) h 4 0 d_G_slotOf_18 cw_4 rfl (by decide) in_G (List.mem_cons_of_mem _ w_29) rfl ?_
    refine r_iload_n (pc := 21) h 1 d_G_slotOf_21 rfl rfl ?_
    refine r_iaload (pc := 22) h 5 (z := nI (kt ((hm K + t) % 4096))) ((hm K + t) % 4096) d_G_slotOf_22 cw_5 rfl (Nat.mod_lt _ (by decide)) (by decide) rfl ?_
    refine r_iload_n (pc := 23) h 3 d_G_slotOf_23 rfl rfl ?_
    refine r_icmp_ne_f (pc := 24) h (tgt := 29) d_G_slotOf_24 (by decide) (by rw [hf]) ?_
    refine r_iload_n (pc := 27) h 1 d_G_slotOf_27 rfl rfl ?_
    exact r_iret (pc := 28) h hr d_G_slotOf_28
  · intro i hi ih
    have ih : Wv p l e _ s m _ below meth c G A _ _ _ _ (cw G a hd wk sp ct (kN kt) nm) 10 [(3, .int (nI (i + 1))), (2, .int (nI ((hm K + (i + 1)) % 4096))), (0, .ref (a 4)), (1, .int (nI K))] [] := ih
    show Wv p l e _ s m _ below meth c G A _ _ _ _ (cw G a hd wk sp ct (kN kt) nm) 10 [(3, .int (nI i)), (2, .int (nI ((hm K + i) % 4096))), (0, .ref (a 4)), (1, .int (nI K))] []
    refine r_iload_n (pc := 10) h 0 d_G_slotOf_10 rfl rfl ?_
    refine r_sipush (pc := 11) h (v := nI 4096) d_G_slotOf_11 (by decide) ?_
    refine r_icmp_ge_f (pc := 14) h (tgt := 71) d_G_slotOf_14 (by decide) (nI_ge (Nat.lt_trans hi ht) (by decide)) ?_
    refine r_aload_n (pc := 17) h 2 d_G_slotOf_17 rfl rfl ?_
    refine r_get (pc := 18) h 4 0 d_G_slotOf_18 cw_4 rfl (by decide) in_G (List.mem_cons_of_mem _ w_29) rfl ?_
    refine r_iload_n (pc := 21) h 1 d_G_slotOf_21 rfl rfl ?_
    refine r_iaload (pc := 22) h 5 (z := nI (kt ((hm K + i) % 4096))) ((hm K + i) % 4096) d_G_slotOf_22 cw_5 rfl (Nat.mod_lt _ (by decide)) (by decide) rfl ?_
    refine r_iload_n (pc := 23) h 3 d_G_slotOf_23 rfl rfl ?_
    refine r_icmp_ne_t (pc := 24) h (tgt := 29) d_G_slotOf_24 (by decide) (fun z => (hB i hi).2 ((nI_eq (Nat.lt_trans (hlt _ (Nat.mod_lt _ (by decide))) (by decide)) (Nat.lt_trans hK (by decide))).mp z)) ?_
    refine r_aload_n (pc := 29) h 2 d_G_slotOf_29 rfl rfl ?_
    refine r_get (pc := 30) h 4 0 d_G_slotOf_30 cw_4 rfl (by decide) in_G (List.mem_cons_of_mem _ w_29) rfl ?_
    refine r_iload_n (pc := 33) h 1 d_G_slotOf_33 rfl rfl ?_
    refine r_iaload (pc := 34) h 5 (z := nI (kt ((hm K + i) % 4096))) ((hm K + i) % 4096) d_G_slotOf_34 cw_5 rfl (Nat.mod_lt _ (by decide)) (by decide) rfl ?_
    refine r_if_ne_t (pc := 35) h (tgt := 57) d_G_slotOf_35 (by decide) (fun z => (hB i hi).1 ((nI_eq (Nat.lt_trans (hlt _ (Nat.mod_lt _ (by decide))) (by decide)) (by decide)).mp z)) ?_
    refine r_iload_n (pc := 57) h 1 d_G_slotOf_57 rfl rfl ?_
    refine r_iconst (pc := 58) h (v := nI 1) d_G_slotOf_58 (by decide) ?_
    refine r_iadd (pc := 59) h (z := nI (((hm K + i) % 4096) + 1)) d_G_slotOf_59 (nI_add _ _) ?_
    refine r_sipush (pc := 60) h (v := nI 4095) d_G_slotOf_60 (by decide) ?_
    refine r_iand (pc := 63) h (z := nI ((hm K + (i + 1)) % 4096)) d_G_slotOf_63 (by rw [nx_4095 (by omega)]; exact congrArg nI (by omega)) ?_
    refine r_istore_n (pc := 64) h (lv' := [(2, .int (nI ((hm K + (i + 1)) % 4096))), (3, .int (nI i)), (0, .ref (a 4)), (1, .int (nI K))]) d_G_slotOf_64 rfl (by decide) rfl ?_
    refine r_iinc (pc := 65) h (v := nI (i + 1)) (lv' := [(3, .int (nI (i + 1))), (2, .int (nI ((hm K + (i + 1)) % 4096))), (0, .ref (a 4)), (1, .int (nI K))]) 1 d_G_slotOf_65 rfl (nI_inc i) (by decide) rfl ?_
    refine r_goto (pc := 68) h (tgt := 10) d_G_slotOf_68 (by decide) ?_
    exact ih
theorem c_slot_n (kt : Nat → Nat) (K t : Nat) (hK : K < 1073741824) (hlt : ∀ s, s < 4096 → kt s < 1073741824) (ht : t < 4096) (hB : PB hm kt K t) (n : Nat) (hK0 : K ≠ 0) (hf : kt ((hm K + t) % 4096) = 0) : Ct l y_G_slotOf (.code y_G_slotOf b_G_slotOf 4 (some .int) :: TT) (rmF 0 0) G [.ref (a 4), .int (nI K)] (cw G a hd wk sp (nI n) (kN kt) nm) (some (.int (nI ((hm K + t) % 4096)))) (cw G a hd wk sp (nI (n + 1)) (kN (va_up kt ((hm K + t) % 4096) K)) nm) := by
  refine ct_intro (cc := b_G_slotOf) (nL := 4) (by decide) [(0, .ref (a 4)), (1, .int (nI K))] rfl (Nat.le_of_ble_eq_true rfl) ?_
  intro p e s m below meth c A h hr
  refine r_iload_n (pc := 0) h 1 d_G_slotOf_0 rfl rfl ?_
  refine r_ldc (pc := 1) h (v := (-1640531535)) d_G_slotOf_1 (List.mem_cons_of_mem _ w_336) ?_
  refine r_imul (pc := 3) h (z := (nI K) * (-1640531535)) d_G_slotOf_3 rfl ?_
  refine r_bipush (pc := 4) h (v := nI 20) d_G_slotOf_4 (by decide) ?_
  refine r_iushr (pc := 6) h (z := nI ((hm K + 0) % 4096)) d_G_slotOf_6 (by rw [Nat.add_zero, Nat.mod_eq_of_lt (hm_lt K)]; exact hm_eq K) ?_
  refine r_istore_n (pc := 7) h (lv' := [(2, .int (nI ((hm K + 0) % 4096))), (0, .ref (a 4)), (1, .int (nI K))]) d_G_slotOf_7 rfl (by decide) rfl ?_
  refine r_iconst (pc := 8) h (v := nI 0) d_G_slotOf_8 (by decide) ?_
  refine r_istore_n (pc := 9) h (lv' := [(3, .int (nI 0)), (2, .int (nI ((hm K + 0) % 4096))), (0, .ref (a 4)), (1, .int (nI K))]) d_G_slotOf_9 rfl (by decide) rfl ?_
  refine Wv.loop t (fun i => (cw G a hd wk sp (nI n) (kN kt) nm)) (fun i => [(3, .int (nI i)), (2, .int (nI ((hm K + i) % 4096))), (0, .ref (a 4)), (1, .int (nI K))]) ?_ ?_
  · show Wv p l e _ s m _ below meth c G A _ _ _ _ (cw G a hd wk sp (nI n) (kN kt) nm) 10 [(3, .int (nI t)), (2, .int (nI ((hm K + t) % 4096))), (0, .ref (a 4)), (1, .int (nI K))] []
    refine r_iload_n (pc := 10) h 0 d_G_slotOf_10 rfl rfl ?_
    refine r_sipush (pc := 11) h (v := nI 4096) d_G_slotOf_11 (by decide) ?_
    refine r_icmp_ge_f (pc := 14) h (tgt := 71) d_G_slotOf_14 (by decide) (nI_ge ht (by decide)) ?_
    refine r_aload_n (pc := 17) h 2 d_G_slotOf_17 rfl rfl ?_
    refine r_get (pc := 18) h 4 0 d_G_slotOf_18 cw_4 rfl (by decide) in_G (List.mem_cons_of_mem _ w_29) rfl ?_
    refine r_iload_n (pc := 21) h 1 d_G_slotOf_21 rfl rfl ?_
    refine r_iaload (pc := 22) h 5 (z := nI (kt ((hm K + t) % 4096))) ((hm K + t) % 4096) d_G_slotOf_22 cw_5 rfl (Nat.mod_lt _ (by decide)) (by decide) rfl ?_
    refine r_iload_n (pc := 23) h 3 d_G_slotOf_23 rfl rfl ?_
    refine r_icmp_ne_t (pc := 24) h (tgt := 29) d_G_slotOf_24 (by decide) (fun z => hK0 (by rw [← (nI_eq (Nat.lt_trans (hlt _ (Nat.mod_lt _ (by decide))) (by decide)) (Nat.lt_trans hK (by decide))).mp z]; exact hf)) ?_
    refine r_aload_n (pc := 29) h 2 d_G_slotOf_29 rfl rfl ?_
    refine r_get (pc := 30) h 4 0 d_G_slotOf_30 cw_4 rfl (by decide) in_G (List.mem_cons_of_mem _ w_29) rfl ?_
    refine r_iload_n (pc := 33) h 1 d_G_slotOf_33 rfl rfl ?_
    refine r_iaload (pc := 34) h 5 (z := nI (kt ((hm K + t) % 4096))) ((hm K + t) % 4096) d_G_slotOf_34 cw_5 rfl (Nat.mod_lt _ (by decide)) (by decide) rfl ?_
    refine r_if_ne_f (pc := 35) h (tgt := 57) d_G_slotOf_35 (by decide) (by rw [hf]; rfl) ?_
    refine r_aload_n (pc := 38) h 2 d_G_slotOf_38 rfl rfl ?_
    refine r_get (pc := 39) h 4 0 d_G_slotOf_39 cw_4 rfl (by decide) in_G (List.mem_cons_of_mem _ w_29) rfl ?_
    refine r_iload_n (pc := 42) h 1 d_G_slotOf_42 rfl rfl ?_
    refine r_iload_n (pc := 43) h 3 d_G_slotOf_43 rfl rfl ?_
    refine r_iastore (pc := 44) h 5 (ws' := (cw G a hd wk sp (nI n) (kN (va_up kt ((hm K + t) % 4096) K)) nm)) ((hm K + t) % 4096) d_G_slotOf_44 cw_5 rfl (Nat.mod_lt _ (by decide)) (by decide) (by rw [kN_up]; exact cw_s5) ?_
    refine r_aload_n (pc := 45) h 2 d_G_slotOf_45 rfl rfl ?_
    refine r_dup (pc := 46) h d_G_slotOf_46 rfl ?_
    refine r_get (pc := 47) h 4 2 d_G_slotOf_47 cw_4 rfl (by decide) in_G (List.mem_cons_of_mem _ w_31) rfl ?_
    refine r_iconst (pc := 50) h (v := nI 1) d_G_slotOf_50 (by decide) ?_
    refine r_iadd (pc := 51) h (z := nI (n + 1)) d_G_slotOf_51 (nI_add n 1) ?_
    refine r_put (pc := 52) h 4 2 (ty := .int) (ws' := (cw G a hd wk sp (nI (n + 1)) (kN (va_up kt ((hm K + t) % 4096) K)) nm)) t_G t_G_ok n_G d_G_slotOf_52 cw_4 rfl (by decide) in_G (List.mem_cons_of_mem _ w_31) rfl (by decide +kernel) rfl rfl (Nat.le_of_ble_eq_true rfl) cw_s4 ?_
    refine r_iload_n (pc := 55) h 1 d_G_slotOf_55 rfl rfl ?_
    exact r_iret (pc := 56) h hr d_G_slotOf_56
  · intro i hi ih
    have ih : Wv p l e _ s m _ below meth c G A _ _ _ _ (cw G a hd wk sp (nI n) (kN kt) nm) 10 [(3, .int (nI (i + 1))), (2, .int (nI ((hm K + (i + 1)) % 4096))), (0, .ref (a 4)), (1, .int (nI K))] [] := ih
    show Wv p l e _ s m _ below meth c G A _ _ _ _ (cw G a hd wk sp (nI n) (kN kt) nm) 10 [(3, .int (nI i)), (2, .int (nI ((hm K + i) % 4096))), (0, .ref (a 4)), (1, .int (nI K))] []
    refine r_iload_n (pc := 10) h 0 d_G_slotOf_10 rfl rfl ?_
    refine r_sipush (pc := 11) h (v := nI 4096) d_G_slotOf_11 (by decide) ?_
    refine r_icmp_ge_f (pc := 14) h (tgt := 71) d_G_slotOf_14 (by decide) (nI_ge (Nat.lt_trans hi ht) (by decide)) ?_
    refine r_aload_n (pc := 17) h 2 d_G_slotOf_17 rfl rfl ?_
    refine r_get (pc := 18) h 4 0 d_G_slotOf_18 cw_4 rfl (by decide) in_G (List.mem_cons_of_mem _ w_29) rfl ?_
    refine r_iload_n (pc := 21) h 1 d_G_slotOf_21 rfl rfl ?_
    refine r_iaload (pc := 22) h 5 (z := nI (kt ((hm K + i) % 4096))) ((hm K + i) % 4096) d_G_slotOf_22 cw_5 rfl (Nat.mod_lt _ (by decide)) (by decide) rfl ?_
    refine r_iload_n (pc := 23) h 3 d_G_slotOf_23 rfl rfl ?_
    refine r_icmp_ne_t (pc := 24) h (tgt := 29) d_G_slotOf_24 (by decide) (fun z => (hB i hi).2 ((nI_eq (Nat.lt_trans (hlt _ (Nat.mod_lt _ (by decide))) (by decide)) (Nat.lt_trans hK (by decide))).mp z)) ?_
    refine r_aload_n (pc := 29) h 2 d_G_slotOf_29 rfl rfl ?_
    refine r_get (pc := 30) h 4 0 d_G_slotOf_30 cw_4 rfl (by decide) in_G (List.mem_cons_of_mem _ w_29) rfl ?_
    refine r_iload_n (pc := 33) h 1 d_G_slotOf_33 rfl rfl ?_
    refine r_iaload (pc := 34) h 5 (z := nI (kt ((hm K + i) % 4096))) ((hm K + i) % 4096) d_G_slotOf_34 cw_5 rfl (Nat.mod_lt _ (by decide)) (by decide) rfl ?_
    refine r_if_ne_t (pc := 35) h (tgt := 57) d_G_slotOf_35 (by decide) (fun z => (hB i hi).1 ((nI_eq (Nat.lt_trans (hlt _ (Nat.mod_lt _ (by decide))) (by decide)) (by decide)).mp z)) ?_
    refine r_iload_n (pc := 57) h 1 d_G_slotOf_57 rfl rfl ?_
    refine r_iconst (pc := 58) h (v := nI 1) d_G_slotOf_58 (by decide) ?_
    refine r_iadd (pc := 59) h (z := nI (((hm K + i) % 4096) + 1)) d_G_slotOf_59 (nI_add _ _) ?_
    refine r_sipush (pc := 60) h (v := nI 4095) d_G_slotOf_60 (by decide) ?_
    refine r_iand (pc := 63) h (z := nI ((hm K + (i + 1)) % 4096)) d_G_slotOf_63 (by rw [nx_4095 (by omega)]; exact congrArg nI (by omega)) ?_
    refine r_istore_n (pc := 64) h (lv' := [(2, .int (nI ((hm K + (i + 1)) % 4096))), (3, .int (nI i)), (0, .ref (a 4)), (1, .int (nI K))]) d_G_slotOf_64 rfl (by decide) rfl ?_
    refine r_iinc (pc := 65) h (v := nI (i + 1)) (lv' := [(3, .int (nI (i + 1))), (2, .int (nI ((hm K + (i + 1)) % 4096))), (0, .ref (a 4)), (1, .int (nI K))]) 1 d_G_slotOf_65 rfl (nI_inc i) (by decide) rfl ?_
    refine r_goto (pc := 68) h (tgt := 10) d_G_slotOf_68 (by decide) ?_
    exact ih
theorem c_nameOf (d n0 n1 : Nat) (f : Nat → Bool) (kt : Nat → Nat) (GL : List (Nat × List Bool)) (hd9 : d ≤ 9) (hT : TS hm kt GL) (h0 : ND kt d n0 (fun m => f (2 * m))) (h1 : ND kt d n1 (fun m => f (2 * m + 1))) (hrm : GL.length < 4096) : Cp l y_G_nameOf (.code y_G_nameOf b_G_nameOf 5 (some .int) :: TT) (rmF 1 23) G [.ref (a 4), .int (nI (9 - d)), .int (nI n0), .int (nI n1)] (cw G a hd wk sp (nI GL.length) (kN kt) nm) (fun v ws' => ∃ (n' : Nat) (kt' : Nat → Nat) (GL' : List (Nat × List Bool)), v = some (.int (nI n')) ∧ ws' = cw G a hd wk sp (nI GL'.length) (kN kt') nm ∧ TS hm kt' GL' ∧ (∀ s, s < 4096 → kt s ≠ 0 → kt' s = kt s) ∧ ND kt' (d + 1) n' f ∧ ∀ c, c ∈ GL' ↔ c ∈ GL ∨ (n0 ≠ n1 ∧ c = pcode d f)) := by
  refine cp_intro (cc := b_G_nameOf) (nL := 5) (by decide) [(0, .ref (a 4)), (1, .int (nI (9 - d))), (2, .int (nI n0)), (3, .int (nI n1))] rfl (Nat.le_of_ble_eq_true rfl) ?_
  intro p e s m below meth c A h hr
  have l0 := ND_lt h0
  have l1 := ND_lt h1
  refine r_iload_n (pc := 0) h 2 d_G_nameOf_0 rfl rfl ?_
  refine r_iload_n (pc := 1) h 3 d_G_nameOf_1 rfl rfl ?_
  by_cases hne : n0 = n1
  · subst hne
    refine r_icmp_ne_f (pc := 2) h (tgt := 7) d_G_nameOf_2 (by decide) rfl ?_
    refine r_iload_n (pc := 5) h 2 d_G_nameOf_5 rfl rfl ?_
    exact r_iretP (pc := 6) h hr ⟨n0, kt, GL, rfl, rfl, hT, fun s _ _ => rfl, ⟨n0, n0, h0, h1, Or.inl ⟨rfl, rfl⟩⟩, fun c => ⟨fun z => Or.inl z, fun z => z.elim id (fun q => absurd rfl q.1)⟩⟩ d_G_nameOf_6
  · refine r_icmp_ne_t (pc := 2) h (tgt := 7) d_G_nameOf_2 (by decide) (fun z => hne ((nI_eq (by omega) (by omega)).mp z)) ?_
    refine r_iload_n (pc := 7) h 1 d_G_nameOf_7 rfl rfl ?_
    refine r_bipush (pc := 8) h (v := nI 26) d_G_nameOf_8 (by decide) ?_
    refine r_ishl (pc := 10) h (z := nI ((9 - d) * 2 ^ 26)) d_G_nameOf_10 (nx_shl (by decide) (by omega)) ?_
    refine r_iload_n (pc := 11) h 2 d_G_nameOf_11 rfl rfl ?_
    refine r_bipush (pc := 12) h (v := nI 13) d_G_nameOf_12 (by decide) ?_
    refine r_ishl (pc := 14) h (z := nI (n0 * 2 ^ 13)) d_G_nameOf_14 (nx_shl (by decide) (by omega)) ?_
    refine r_ior (pc := 15) h (z := nI ((9 - d) * 2 ^ 26 ||| n0 * 2 ^ 13)) d_G_nameOf_15 (nx_or _ _) ?_
    refine r_iload_n (pc := 16) h 3 d_G_nameOf_16 rfl rfl ?_
    refine r_ior (pc := 17) h (z := nI (KEY (9 - d) n0 n1)) d_G_nameOf_17 (by rw [nx_or, KEY_or (by omega) (by omega)]) ?_
    refine r_istore (pc := 18) h (lv' := [(4, .int (nI (KEY (9 - d) n0 n1))), (0, .ref (a 4)), (1, .int (nI (9 - d))), (2, .int (nI n0)), (3, .int (nI n1))]) d_G_nameOf_18 (by decide) rfl ?_
    refine r_aload_n (pc := 20) h 1 d_G_nameOf_20 rfl rfl ?_
    refine r_iload (pc := 21) h 0 d_G_nameOf_21 rfl ?_
    have hKl := KEY_lt (v := 9 - d) (by omega) (show n0 < 8192 by omega) (show n1 < 8192 by omega)
    have hlt := hT.2.2.2.2.2.2
    obtain ⟨t, ht, hB, hE⟩ := PB_end (hm := hm) (kt := kt) (K := (KEY (9 - d) n0 n1)) (by rw [hT.2.2.1]; exact hrm)
    rcases hE with hE | hE
    · refine r_invVa (pc := 23) h 4 (st := []) d_G_nameOf_23 (c_slot_f kt (KEY (9 - d) n0 n1) t hKl hlt ht hB hE) (r_cV h wc_G_slotOf w_332 w_2 w_334 (TT_se (q := (y_G_slotOf, 3)) 9 rfl) hd_G_slotOf ⟨(Nat.le_of_ble_eq_true rfl), (Nat.le_of_ble_eq_true rfl)⟩ rfl rfl) cw_4 rfl rfl rfl (Nat.le_of_ble_eq_true rfl) ⟨(Nat.le_of_ble_eq_true rfl), (Nat.le_of_ble_eq_true rfl)⟩ cw_adr ?_
      refine r_iconst (pc := 26) h (v := nI 2) d_G_nameOf_26 (by decide) ?_
      refine r_iadd (pc := 27) h (z := nI (((hm (KEY (9 - d) n0 n1) + t) % 4096) + 2)) d_G_nameOf_27 (nI_add _ _) ?_
      exact r_iretP (pc := 28) h hr ⟨((hm (KEY (9 - d) n0 n1) + t) % 4096) + 2, kt, GL, rfl, rfl, hT, fun s _ _ => rfl, ⟨n0, n1, h0, h1, Or.inr ⟨hne, ((hm (KEY (9 - d) n0 n1) + t) % 4096), Nat.mod_lt _ (by decide), rfl, hE⟩⟩, fun c => ⟨fun z => Or.inl z, fun z => z.elim id (fun q => by rw [q.2]; exact TS_found hT hd9 h0 h1 hne (Nat.mod_lt _ (by decide)) hE)⟩⟩ d_G_nameOf_28
    · refine r_invVa (pc := 23) h 4 (st := []) d_G_nameOf_23 (c_slot_n kt (KEY (9 - d) n0 n1) t hKl hlt ht hB GL.length (KEY_0 hne) hE) (r_cV h wc_G_slotOf w_332 w_2 w_334 (TT_se (q := (y_G_slotOf, 3)) 9 rfl) hd_G_slotOf ⟨(Nat.le_of_ble_eq_true rfl), (Nat.le_of_ble_eq_true rfl)⟩ rfl rfl) cw_4 rfl rfl rfl (Nat.le_of_ble_eq_true rfl) ⟨(Nat.le_of_ble_eq_true rfl), (Nat.le_of_ble_eq_true rfl)⟩ cw_adr ?_
      refine r_iconst (pc := 26) h (v := nI 2) d_G_nameOf_26 (by decide) ?_
      refine r_iadd (pc := 27) h (z := nI (((hm (KEY (9 - d) n0 n1) + t) % 4096) + 2)) d_G_nameOf_27 (nI_add _ _) ?_
      have hmo : ∀ s, s < 4096 → kt s ≠ 0 → va_up kt ((hm (KEY (9 - d) n0 n1) + t) % 4096) (KEY (9 - d) n0 n1) s = kt s := fun s _ hne9 => va_up_n _ _ (fun z => hne9 (by rw [z]; exact hE))
      exact r_iretP (pc := 28) h hr ⟨((hm (KEY (9 - d) n0 n1) + t) % 4096) + 2, va_up kt ((hm (KEY (9 - d) n0 n1) + t) % 4096) (KEY (9 - d) n0 n1), pcode d f :: GL, rfl, rfl, TS_new hT hd9 h0 h1 hne ht hB hE, hmo, ⟨n0, n1, ND_mono hmo h0, ND_mono hmo h1, Or.inr ⟨hne, ((hm (KEY (9 - d) n0 n1) + t) % 4096), Nat.mod_lt _ (by decide), rfl, va_up_s _ _ _⟩⟩, fun c => ⟨fun z => (List.mem_cons.mp z).elim (fun q => Or.inr ⟨hne, q⟩) Or.inl, fun z => z.elim (List.mem_cons_of_mem _) (fun q => by rw [q.2]; exact List.mem_cons_self)⟩⟩ d_G_nameOf_28
theorem c_clear  : Ct l y_G_clear (.code y_G_clear b_G_clear 1 none :: TT) (rmF 1 23) G [.ref (a 4)] (cw G a hd wk sp ct ky nm) none (cw G a hd wk sp (nI 0) (mix 4096 (kN fun _ => 0) ky) nm) := by
  refine ct_intro (cc := b_G_clear) (nL := 1) (by decide) [(0, .ref (a 4))] rfl (Nat.le_of_ble_eq_true rfl) ?_
  intro p e s m below meth c A h hr
  refine r_aload_n (pc := 0) h 0 d_G_clear_0 rfl rfl ?_
  refine r_get (pc := 1) h 4 0 d_G_clear_1 cw_4 rfl (by decide) in_G (List.mem_cons_of_mem _ w_29) rfl ?_
  refine r_iconst (pc := 4) h (v := 0) d_G_clear_4 (by decide) ?_
  refine r_invSv (pc := 5) h (st := []) (ws' := (cw G a hd wk sp ct (mix 4096 (kN fun _ => 0) ky) nm)) d_G_clear_5 (c_fillI 5 (a 5) 4096 ky 0 cw_5 (by decide)) (r_cS h wc_A_fillI w_320 w_8 w_321 hd_A_fillI ⟨(Nat.le_of_ble_eq_true rfl), (Nat.le_of_ble_eq_true rfl)⟩ rfl rfl) rfl rfl (Nat.le_of_ble_eq_true rfl) ⟨(Nat.le_of_ble_eq_true rfl), (Nat.le_of_ble_eq_true rfl)⟩ cw_adr ?_
  refine r_aload_n (pc := 8) h 0 d_G_clear_8 rfl rfl ?_
  refine r_iconst (pc := 9) h (v := nI 0) d_G_clear_9 (by decide) ?_
  refine r_put (pc := 10) h 4 2 (ty := .int) (ws' := (cw G a hd wk sp (nI 0) (mix 4096 (kN fun _ => 0) ky) nm)) t_G t_G_ok n_G d_G_clear_10 cw_4 rfl (by decide) in_G (List.mem_cons_of_mem _ w_31) rfl (by decide +kernel) rfl rfl (Nat.le_of_ble_eq_true rfl) cw_s4 ?_
  exact r_vret (pc := 13) h hr d_G_clear_13
end DG
