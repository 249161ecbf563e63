-- leaves of the class: isIn, bitOf, joinedWord, chosenWord, variableWord, turnedWord, fixedWord, hangsOn
theorem lb_1 : ∀ i, i < 64 → lb 1 i = decide (i = 0) := by decide +kernel
theorem lb_l2i (w : Int64) {k : Nat} (hk : k < 64) : ((w.toUInt64 >>> ((nI k).toInt64.toUInt64 &&& Int64.toUInt64 63)).toInt64 &&& 1).toInt32 = bI (lb w k) := by
  have h : (w.toUInt64 >>> ((nI k).toInt64.toUInt64 &&& Int64.toUInt64 63)).toInt64 &&& 1 = if lb w k = true then 1 else 0 := by
    apply lb_ext
    intro i hi
    rw [lb_and, lb_shr k hk, lb_1 i hi]
    by_cases h0 : i = 0
    · subst h0
      cases h9 : lb w k
      · simp [h9, lb_0]
      · simp [h9, lb_1 0 (by decide)]
    · cases h9 : lb w k
      · simp [h0, lb_0]
      · simp [h0, lb_1 i hi]
  rw [h]
  cases lb w k <;> decide
section LF
variable {l : Launch} {G : gG} {ws : va_W}
theorem c_isIn (S v : Nat) (hS : S < 2 ^ 31) (hv : v < 32) : Ct l y_D_isIn (.code y_D_isIn b_D_isIn 2 (some .boolean) :: TT) (rmF 0 0) G [.int (nI S), .int (nI v)] ws (some (.int (bI (S.testBit v)))) ws := by
  refine ct_intro (cc := b_D_isIn) (nL := 2) (by decide) [(0, .int (nI S)), (1, .int (nI v))] rfl (Nat.le_of_ble_eq_true rfl) ?_
  intro p e s m below meth c A h hr
  refine r_iload_n (pc := 0) h 0 d_D_isIn_0 rfl rfl ?_
  refine r_iload_n (pc := 1) h 1 d_D_isIn_1 rfl rfl ?_
  refine r_ishr (pc := 2) h (z := (nI S) >>> ((nI v) &&& 31)) d_D_isIn_2 rfl ?_
  refine r_iconst (pc := 3) h (v := nI 1) d_D_isIn_3 (by decide) ?_
  refine r_iand (pc := 4) h (z := bI (S.testBit v)) d_D_isIn_4 (nx_bit hS hv) ?_
  refine r_if_eq (pc := 5) h (tgt := 12) d_D_isIn_5 (by decide) (fun q5 => ?_) (fun q5 => ?_)
  · refine r_iconst (pc := 12) h (v := bI (S.testBit v)) d_D_isIn_12 (by rw [(bI_0 _).mp q5]; decide) ?_
    exact r_zret (pc := 13) h hr (bI_nrw _) d_D_isIn_13
  · refine r_iconst (pc := 8) h (v := bI (S.testBit v)) d_D_isIn_8 (by cases h9 : S.testBit v; exact absurd ((bI_0 _).mpr h9) q5; decide) ?_
    refine r_goto (pc := 9) h (tgt := 13) d_D_isIn_9 (by decide) ?_
    exact r_zret (pc := 13) h hr (bI_nrw _) d_D_isIn_13
theorem c_bitOf (q0 a x : Nat) (f : Nat → Int64) (hq : ws[q0]? = some (a, rwL G f)) (hx : x < 1024) : Ct l y_D_bitOf (.code y_D_bitOf b_D_bitOf 4 (some .int) :: TT) (rmF 0 0) G [.ref a, .int (nI x)] ws (some (.int (bI (sv f x)))) ws := by
  refine ct_intro (cc := b_D_bitOf) (nL := 4) (by decide) [(0, .ref a), (1, .int (nI x))] rfl (Nat.le_of_ble_eq_true rfl) ?_
  intro p e s m below meth c A h hr
  refine r_aload_n (pc := 0) h 0 d_D_bitOf_0 rfl rfl ?_
  refine r_iload_n (pc := 1) h 1 d_D_bitOf_1 rfl rfl ?_
  refine r_bipush (pc := 2) h (v := nI 6) d_D_bitOf_2 (by decide) ?_
  refine r_ishr (pc := 4) h (z := nI (x / 64)) d_D_bitOf_4 (nx_shr (x := x) (v := 6) (by omega) (by decide)) ?_
  refine r_laload (pc := 5) h q0 (z := f (x / 64)) (x / 64) d_D_bitOf_5 hq rfl (by omega) (by decide) rfl ?_
  refine r_lstore_n (pc := 6) h (lv' := [(2, .long (f (x / 64))), (0, .ref a), (1, .int (nI x))]) d_D_bitOf_6 rfl (by decide) rfl ?_
  refine r_lload_n (pc := 7) h 0 d_D_bitOf_7 rfl rfl ?_
  refine r_iload_n (pc := 8) h 2 d_D_bitOf_8 rfl rfl ?_
  refine r_bipush (pc := 9) h (v := nI 63) d_D_bitOf_9 (by decide) ?_
  refine r_iand (pc := 11) h (z := nI (x % 64)) d_D_bitOf_11 (nx_63 (by omega)) ?_
  refine r_lushr (pc := 12) h (z := ((f (x / 64)).toUInt64 >>> ((nI (x % 64)).toInt64.toUInt64 &&& Int64.toUInt64 63)).toInt64) d_D_bitOf_12 rfl ?_
  refine r_lconst (pc := 13) h (v := 1) d_D_bitOf_13 (by decide) ?_
  refine r_land (pc := 14) h (z := (((f (x / 64)).toUInt64 >>> ((nI (x % 64)).toInt64.toUInt64 &&& Int64.toUInt64 63)).toInt64) &&& 1) d_D_bitOf_14 rfl ?_
  refine r_l2i (pc := 15) h (z := bI (sv f x)) d_D_bitOf_15 (lb_l2i _ (Nat.mod_lt _ (by decide))) ?_
  exact r_iret (pc := 16) h hr d_D_bitOf_16
theorem c_chosenWord (w t f : Int64) : Ct l y_D_chosenWord (.code y_D_chosenWord b_D_chosenWord 6 (some .long) :: TT) (rmF 0 0) G [.long w, .long t, .long f] ws (some (.long (cW w t f))) ws := by
  refine ct_intro (cc := b_D_chosenWord) (nL := 6) (by decide) [(0, .long w), (2, .long t), (4, .long f)] rfl (Nat.le_of_ble_eq_true rfl) ?_
  intro p e s m below meth c A h hr
  refine r_lload_n (pc := 0) h 0 d_D_chosenWord_0 rfl rfl ?_
  refine r_lload_n (pc := 1) h 1 d_D_chosenWord_1 rfl rfl ?_
  refine r_land (pc := 2) h (z := w &&& t) d_D_chosenWord_2 rfl ?_
  refine r_lload_n (pc := 3) h 0 d_D_chosenWord_3 rfl rfl ?_
  refine r_ldc2 (pc := 4) h (v := (-1)) d_D_chosenWord_4 (List.mem_cons_of_mem _ w_145) ?_
  refine r_lxor (pc := 7) h (z := w ^^^ (-1)) d_D_chosenWord_7 rfl ?_
  refine r_lload (pc := 8) h 2 d_D_chosenWord_8 rfl ?_
  refine r_land (pc := 10) h (z := (w ^^^ (-1)) &&& f) d_D_chosenWord_10 rfl ?_
  refine r_lor (pc := 11) h (z := (w &&& t) ||| ((w ^^^ (-1)) &&& f)) d_D_chosenWord_11 rfl ?_
  exact r_lret (pc := 12) h hr d_D_chosenWord_12
theorem c_joinedWord0 (a b : Int64) : Ct l y_D_joinedWord (.code y_D_joinedWord b_D_joinedWord 5 (some .long) :: TT) (rmF 0 0) G [.int (nI 0), .long a, .long b] ws (some (.long (jW 0 a b))) ws := by
  refine ct_intro (cc := b_D_joinedWord) (nL := 5) (by decide) [(0, .int (nI 0)), (1, .long a), (3, .long b)] rfl (Nat.le_of_ble_eq_true rfl) ?_
  intro p e s m below meth c A h hr
  refine r_iload_n (pc := 0) h 0 d_D_joinedWord_0 rfl rfl ?_
  refine r_tIn (pc := 1) h (tgt := 32) (off := 31) d_D_joinedWord_1 (by decide) (by decide) (by decide) (by decide) ?_
  refine r_lload_n (pc := 32) h 1 d_D_joinedWord_32 rfl rfl ?_
  refine r_lload_n (pc := 33) h 2 d_D_joinedWord_33 rfl rfl ?_
  refine r_land (pc := 34) h (z := a &&& b) d_D_joinedWord_34 rfl ?_
  exact r_lret (pc := 35) h hr d_D_joinedWord_35
theorem c_joinedWord1 (a b : Int64) : Ct l y_D_joinedWord (.code y_D_joinedWord b_D_joinedWord 5 (some .long) :: TT) (rmF 0 0) G [.int (nI 1), .long a, .long b] ws (some (.long (jW 1 a b))) ws := by
  refine ct_intro (cc := b_D_joinedWord) (nL := 5) (by decide) [(0, .int (nI 1)), (1, .long a), (3, .long b)] rfl (Nat.le_of_ble_eq_true rfl) ?_
  intro p e s m below meth c A h hr
  refine r_iload_n (pc := 0) h 0 d_D_joinedWord_0 rfl rfl ?_
  refine r_tIn (pc := 1) h (tgt := 36) (off := 35) d_D_joinedWord_1 (by decide) (by decide) (by decide) (by decide) ?_
  refine r_lload_n (pc := 36) h 1 d_D_joinedWord_36 rfl rfl ?_
  refine r_lload_n (pc := 37) h 2 d_D_joinedWord_37 rfl rfl ?_
  refine r_lor (pc := 38) h (z := a ||| b) d_D_joinedWord_38 rfl ?_
  exact r_lret (pc := 39) h hr d_D_joinedWord_39
theorem c_joinedWord2 (a b : Int64) : Ct l y_D_joinedWord (.code y_D_joinedWord b_D_joinedWord 5 (some .long) :: TT) (rmF 0 0) G [.int (nI 2), .long a, .long b] ws (some (.long (jW 2 a b))) ws := by
  refine ct_intro (cc := b_D_joinedWord) (nL := 5) (by decide) [(0, .int (nI 2)), (1, .long a), (3, .long b)] rfl (Nat.le_of_ble_eq_true rfl) ?_
  intro p e s m below meth c A h hr
  refine r_iload_n (pc := 0) h 0 d_D_joinedWord_0 rfl rfl ?_
  refine r_tIn (pc := 1) h (tgt := 40) (off := 39) d_D_joinedWord_1 (by decide) (by decide) (by decide) (by decide) ?_
  refine r_lload_n (pc := 40) h 1 d_D_joinedWord_40 rfl rfl ?_
  refine r_lload_n (pc := 41) h 2 d_D_joinedWord_41 rfl rfl ?_
  refine r_lxor (pc := 42) h (z := a ^^^ b) d_D_joinedWord_42 rfl ?_
  exact r_lret (pc := 43) h hr d_D_joinedWord_43
theorem c_joinedWord3 (a b : Int64) : Ct l y_D_joinedWord (.code y_D_joinedWord b_D_joinedWord 5 (some .long) :: TT) (rmF 0 0) G [.int (nI 3), .long a, .long b] ws (some (.long (jW 3 a b))) ws := by
  refine ct_intro (cc := b_D_joinedWord) (nL := 5) (by decide) [(0, .int (nI 3)), (1, .long a), (3, .long b)] rfl (Nat.le_of_ble_eq_true rfl) ?_
  intro p e s m below meth c A h hr
  refine r_iload_n (pc := 0) h 0 d_D_joinedWord_0 rfl rfl ?_
  refine r_tIn (pc := 1) h (tgt := 44) (off := 43) d_D_joinedWord_1 (by decide) (by decide) (by decide) (by decide) ?_
  refine r_lload_n (pc := 44) h 1 d_D_joinedWord_44 rfl rfl ?_
  refine r_ldc2 (pc := 45) h (v := (-1)) d_D_joinedWord_45 (List.mem_cons_of_mem _ w_145) ?_
  refine r_lxor (pc := 48) h (z := a ^^^ (-1)) d_D_joinedWord_48 rfl ?_
  refine r_lload_n (pc := 49) h 2 d_D_joinedWord_49 rfl rfl ?_
  refine r_lor (pc := 50) h (z := (a ^^^ (-1)) ||| b) d_D_joinedWord_50 rfl ?_
  exact r_lret (pc := 51) h hr d_D_joinedWord_51
theorem c_joinedWord4 (a b : Int64) : Ct l y_D_joinedWord (.code y_D_joinedWord b_D_joinedWord 5 (some .long) :: TT) (rmF 0 0) G [.int (nI 4), .long a, .long b] ws (some (.long (jW 4 a b))) ws := by
  refine ct_intro (cc := b_D_joinedWord) (nL := 5) (by decide) [(0, .int (nI 4)), (1, .long a), (3, .long b)] rfl (Nat.le_of_ble_eq_true rfl) ?_
  intro p e s m below meth c A h hr
  refine r_iload_n (pc := 0) h 0 d_D_joinedWord_0 rfl rfl ?_
  refine r_tOut (pc := 1) h (tgt := 52) d_D_joinedWord_1 (by decide) (by decide) ?_
  refine r_lload_n (pc := 52) h 1 d_D_joinedWord_52 rfl rfl ?_
  refine r_ldc2 (pc := 53) h (v := (-1)) d_D_joinedWord_53 (List.mem_cons_of_mem _ w_145) ?_
  refine r_lxor (pc := 56) h (z := a ^^^ (-1)) d_D_joinedWord_56 rfl ?_
  exact r_lret (pc := 57) h hr d_D_joinedWord_57
theorem c_joinedWord (k : Nat) (a b : Int64) (hk : k < 5) : Ct l y_D_joinedWord (.code y_D_joinedWord b_D_joinedWord 5 (some .long) :: TT) (rmF 0 0) G [.int (nI k), .long a, .long b] ws (some (.long (jW k a b))) ws := by
  rcases (show k = 0 ∨ k = 1 ∨ k = 2 ∨ k = 3 ∨ k = 4 by omega) with rfl | rfl | rfl | rfl | rfl
  · exact c_joinedWord0 a b
  · exact c_joinedWord1 a b
  · exact c_joinedWord2 a b
  · exact c_joinedWord3 a b
  · exact c_joinedWord4 a b
theorem c_variableWord (v j : Nat) (hv : v < 10) (hj : j < 16) : Ct l y_D_variableWord (.code y_D_variableWord b_D_variableWord 2 (some .long) :: TT) (rmF 1 21) G [.int (nI v), .int (nI j)] ws (some (.long (vW v j))) ws := by
  refine ct_intro (cc := b_D_variableWord) (nL := 2) (by decide) [(0, .int (nI v)), (1, .int (nI j))] rfl (Nat.le_of_ble_eq_true rfl) ?_
  intro p e s m below meth c A h hr
  refine r_iload_n (pc := 0) h 0 d_D_variableWord_0 rfl rfl ?_
  refine r_bipush (pc := 1) h (v := nI 6) d_D_variableWord_1 (by decide) ?_
  refine r_icmp_ge (pc := 3) h (tgt := 12) d_D_variableWord_3 (by decide) (fun q3 => ?_) (fun q3 => ?_)
  · have hv6 : ¬ v < 6 := fun z => nI_ge z (by decide) q3
    refine r_iload_n (pc := 12) h 1 d_D_variableWord_12 rfl rfl ?_
    refine r_iload_n (pc := 13) h 0 d_D_variableWord_13 rfl rfl ?_
    refine r_bipush (pc := 14) h (v := nI 6) d_D_variableWord_14 (by decide) ?_
    refine r_isub (pc := 16) h (z := nI (v - 6)) d_D_variableWord_16 (pk_sub (Nat.le_of_not_lt hv6)) ?_
    refine r_invSa (pc := 17) h (st := []) d_D_variableWord_17 (c_isIn j (v - 6) (by omega) (by omega)) (r_cS h wc_D_isIn w_142 w_1 w_143 hd_D_isIn ⟨(Nat.le_of_ble_eq_true rfl), (Nat.le_of_ble_eq_true rfl)⟩ rfl rfl) rfl rfl (Nat.le_of_ble_eq_true rfl) ⟨(Nat.le_of_ble_eq_true rfl), (Nat.le_of_ble_eq_true rfl)⟩ rfl ?_
    refine r_if_eq (pc := 20) h (tgt := 29) d_D_variableWord_20 (by decide) (fun q20 => ?_) (fun q20 => ?_)
    · have hb := (bI_0 _).mp q20
      refine r_lconst (pc := 29) h (v := 0) d_D_variableWord_29 (by decide) ?_
      refine Wv.top (show Value.long 0 = .long (vW v j) by rw [show vW v j = 0 from (if_neg hv6).trans (if_neg (by rw [hb]; decide))]) ?_
      exact r_lret (pc := 30) h hr d_D_variableWord_30
    · have hb : j.testBit (v - 6) = true := by cases h9 : j.testBit (v - 6); exact absurd ((bI_0 _).mpr h9) q20; rfl
      refine r_ldc2 (pc := 23) h (v := (-1)) d_D_variableWord_23 (List.mem_cons_of_mem _ w_145) ?_
      refine r_goto (pc := 26) h (tgt := 30) d_D_variableWord_26 (by decide) ?_
      refine Wv.top (show Value.long (-1) = .long (vW v j) by rw [show vW v j = -1 from (if_neg hv6).trans (if_pos hb)]) ?_
      exact r_lret (pc := 30) h hr d_D_variableWord_30
  · have hv6 : v < 6 := Classical.byContradiction (fun z => q3 (nI_le (Nat.le_of_not_lt z) (by omega)))
    refine r_gets (pc := 6) h d_D_variableWord_6 (List.mem_cons_of_mem _ w_140) (fun t hT => ?_)
    refine r_iload_n (pc := 9) h 0 d_D_variableWord_9 rfl rfl ?_
    refine r_tl (pc := 10) h hT (v := .long (tp v)) v d_D_variableWord_10 rfl hv6 rfl ?_
    refine Wv.top (show Value.long (tp v) = .long (vW v j) by rw [show vW v j = tp v from if_pos hv6]) ?_
    exact r_lret (pc := 11) h hr d_D_variableWord_11
theorem pw16 : ∀ v, v < 10 → 6 ≤ v → 2 ^ (v - 6) < 16 := by decide
theorem c_turnedWord (q0 a v j : Nat) (f : Nat → Int64) (hq : ws[q0]? = some (a, rwL G f)) (hv : v < 10) (hj : j < 16) : Ct l y_D_turnedWord (.code y_D_turnedWord b_D_turnedWord 6 (some .long) :: TT) (rmF 0 0) G [.ref a, .int (nI v), .int (nI j)] ws (some (.long (tW f v j))) ws := by
  refine ct_intro (cc := b_D_turnedWord) (nL := 6) (by decide) [(0, .ref a), (1, .int (nI v)), (2, .int (nI j))] rfl (Nat.le_of_ble_eq_true rfl) ?_
  intro p e s m below meth c A h hr
  refine r_iload_n (pc := 0) h 1 d_D_turnedWord_0 rfl rfl ?_
  refine r_bipush (pc := 1) h (v := nI 6) d_D_turnedWord_1 (by decide) ?_
  refine r_icmp_ge (pc := 3) h (tgt := 39) d_D_turnedWord_3 (by decide) (fun q3 => ?_) (fun q3 => ?_)
  · have hv6 : ¬ v < 6 := fun z => nI_ge z (by decide) q3
    refine r_aload_n (pc := 39) h 0 d_D_turnedWord_39 rfl rfl ?_
    refine r_iload_n (pc := 40) h 2 d_D_turnedWord_40 rfl rfl ?_
    refine r_iconst (pc := 41) h (v := nI 1) d_D_turnedWord_41 (by decide) ?_
    refine r_iload_n (pc := 42) h 1 d_D_turnedWord_42 rfl rfl ?_
    refine r_bipush (pc := 43) h (v := nI 6) d_D_turnedWord_43 (by decide) ?_
    refine r_isub (pc := 45) h (z := nI (v - 6)) d_D_turnedWord_45 (pk_sub (Nat.le_of_not_lt hv6)) ?_
    refine r_ishl (pc := 46) h (z := nI (2 ^ (v - 6))) d_D_turnedWord_46 (nx_pw (by omega)) ?_
    refine r_ixor (pc := 47) h (z := nI (j ^^^ 2 ^ (v - 6))) d_D_turnedWord_47 (nx_xor _ _) ?_
    refine r_laload (pc := 48) h q0 (z := f (j ^^^ 2 ^ (v - 6))) (j ^^^ 2 ^ (v - 6)) d_D_turnedWord_48 hq rfl (Nat.xor_lt_two_pow (n := 4) hj (pw16 v hv (by omega))) (by decide) rfl ?_
    refine Wv.top (show Value.long _ = .long (tW f v j) by rw [show tW f v j = _ from if_neg hv6]) ?_
    exact r_lret (pc := 49) h hr d_D_turnedWord_49
  · have hv6 : v < 6 := Classical.byContradiction (fun z => q3 (nI_le (Nat.le_of_not_lt z) (by omega)))
    refine r_gets (pc := 6) h d_D_turnedWord_6 (List.mem_cons_of_mem _ w_140) (fun t hT => ?_)
    refine r_iload_n (pc := 9) h 1 d_D_turnedWord_9 rfl rfl ?_
    refine r_tl (pc := 10) h hT (v := .long (tp v)) v d_D_turnedWord_10 rfl hv6 rfl ?_
    refine r_lstore_n (pc := 11) h (lv' := [(3, .long (tp v)), (0, .ref a), (1, .int (nI v)), (2, .int (nI j))]) d_D_turnedWord_11 rfl (by decide) rfl ?_
    refine r_iconst (pc := 12) h (v := nI 1) d_D_turnedWord_12 (by decide) ?_
    refine r_iload_n (pc := 13) h 2 d_D_turnedWord_13 rfl rfl ?_
    refine r_ishl (pc := 14) h (z := nI (2 ^ v)) d_D_turnedWord_14 (nx_pw (by omega)) ?_
    refine r_istore (pc := 15) h (lv' := [(5, .int (nI (2 ^ v))), (3, .long (tp v)), (0, .ref a), (1, .int (nI v)), (2, .int (nI j))]) d_D_turnedWord_15 (by decide) rfl ?_
    refine r_aload_n (pc := 17) h 2 d_D_turnedWord_17 rfl rfl ?_
    refine r_iload_n (pc := 18) h 4 d_D_turnedWord_18 rfl rfl ?_
    refine r_laload (pc := 19) h q0 (z := f j) j d_D_turnedWord_19 hq rfl hj (by decide) rfl ?_
    refine r_lload_n (pc := 20) h 1 d_D_turnedWord_20 rfl rfl ?_
    refine r_land (pc := 21) h (z := (f j) &&& (tp v)) d_D_turnedWord_21 rfl ?_
    refine r_iload (pc := 22) h 0 d_D_turnedWord_22 rfl ?_
    refine r_lushr (pc := 24) h (z := (((f j) &&& (tp v)).toUInt64 >>> ((nI (2 ^ v)).toInt64.toUInt64 &&& Int64.toUInt64 63)).toInt64) d_D_turnedWord_24 rfl ?_
    refine r_aload_n (pc := 25) h 2 d_D_turnedWord_25 rfl rfl ?_
    refine r_iload_n (pc := 26) h 4 d_D_turnedWord_26 rfl rfl ?_
    refine r_laload (pc := 27) h q0 (z := f j) j d_D_turnedWord_27 hq rfl hj (by decide) rfl ?_
    refine r_lload_n (pc := 28) h 1 d_D_turnedWord_28 rfl rfl ?_
    refine r_ldc2 (pc := 29) h (v := (-1)) d_D_turnedWord_29 (List.mem_cons_of_mem _ w_145) ?_
    refine r_lxor (pc := 32) h (z := (tp v) ^^^ (-1)) d_D_turnedWord_32 rfl ?_
    refine r_land (pc := 33) h (z := (f j) &&& ((tp v) ^^^ (-1))) d_D_turnedWord_33 rfl ?_
    refine r_iload (pc := 34) h 0 d_D_turnedWord_34 rfl ?_
    refine r_lshl (pc := 36) h (z := ((f j) &&& ((tp v) ^^^ (-1))) <<< ((nI (2 ^ v)).toInt64 &&& 63)) d_D_turnedWord_36 rfl ?_
    refine r_lor (pc := 37) h (z := ((((f j) &&& (tp v)).toUInt64 >>> ((nI (2 ^ v)).toInt64.toUInt64 &&& Int64.toUInt64 63)).toInt64) ||| (((f j) &&& ((tp v) ^^^ (-1))) <<< ((nI (2 ^ v)).toInt64 &&& 63))) d_D_turnedWord_37 rfl ?_
    refine Wv.top (show Value.long _ = .long (tW f v j) by rw [show tW f v j = _ from if_pos hv6]) ?_
    exact r_lret (pc := 38) h hr d_D_turnedWord_38
theorem c_fixedWord_true (q0 a v j : Nat) (f : Nat → Int64) (hq : ws[q0]? = some (a, rwL G f)) (hv : v < 10) (hj : j < 16) : Ct l y_D_fixedWord (.code y_D_fixedWord b_D_fixedWord 6 (some .long) :: TT) (rmF 2 42) G [.ref a, .int (nI v), .int (bI true), .int (nI j)] ws (some (.long (fW f v true j))) ws := by
  refine ct_intro (cc := b_D_fixedWord) (nL := 6) (by decide) [(0, .ref a), (1, .int (nI v)), (2, .int (bI true)), (3, .int (nI j))] rfl (Nat.le_of_ble_eq_true rfl) ?_
  intro p e s m below meth c A h hr
  refine r_iload_n (pc := 0) h 2 d_D_fixedWord_0 rfl rfl ?_
  refine r_if_eq_f (pc := 1) h (tgt := 12) d_D_fixedWord_1 (by decide) (by decide) ?_
  refine r_iload_n (pc := 4) h 1 d_D_fixedWord_4 rfl rfl ?_
  refine r_iload_n (pc := 5) h 3 d_D_fixedWord_5 rfl rfl ?_
  refine r_invSa (pc := 6) h (st := []) d_D_fixedWord_6 (c_variableWord v j hv hj) (r_cS h wc_D_variableWord w_137 w_1 w_138 hd_D_variableWord ⟨(Nat.le_of_ble_eq_true rfl), (Nat.le_of_ble_eq_true rfl)⟩ rfl rfl) rfl rfl (Nat.le_of_ble_eq_true rfl) ⟨(Nat.le_of_ble_eq_true rfl), (Nat.le_of_ble_eq_true rfl)⟩ rfl ?_
  refine r_goto (pc := 9) h (tgt := 21) d_D_fixedWord_9 (by decide) ?_
  refine r_lstore (pc := 21) h (lv' := [(4, .long (vW v j)), (0, .ref a), (1, .int (nI v)), (2, .int (bI true)), (3, .int (nI j))]) d_D_fixedWord_21 (by decide) rfl ?_
  refine r_lload (pc := 23) h 0 d_D_fixedWord_23 rfl ?_
  refine r_aload_n (pc := 25) h 1 d_D_fixedWord_25 rfl rfl ?_
  refine r_iload_n (pc := 26) h 4 d_D_fixedWord_26 rfl rfl ?_
  refine r_laload (pc := 27) h q0 (z := f j) j d_D_fixedWord_27 hq rfl hj (by decide) rfl ?_
  refine r_aload_n (pc := 28) h 1 d_D_fixedWord_28 rfl rfl ?_
  refine r_iload_n (pc := 29) h 2 d_D_fixedWord_29 rfl rfl ?_
  refine r_iload_n (pc := 30) h 4 d_D_fixedWord_30 rfl rfl ?_
  refine r_invSa (pc := 31) h (st := [.long (f j), .long (vW v j)]) d_D_fixedWord_31 (c_turnedWord q0 a v j f hq hv hj) (r_cS h wc_D_turnedWord w_194 w_1 w_195 hd_D_turnedWord ⟨(Nat.le_of_ble_eq_true rfl), (Nat.le_of_ble_eq_true rfl)⟩ rfl rfl) rfl rfl (Nat.le_of_ble_eq_true rfl) ⟨(Nat.le_of_ble_eq_true rfl), (Nat.le_of_ble_eq_true rfl)⟩ rfl ?_
  refine r_invSa (pc := 34) h (st := []) d_D_fixedWord_34 (c_chosenWord (vW v j) (f j) (tW f v j)) (r_cS h wc_D_chosenWord w_181 w_1 w_182 hd_D_chosenWord ⟨(Nat.le_of_ble_eq_true rfl), (Nat.le_of_ble_eq_true rfl)⟩ rfl rfl) rfl rfl (Nat.le_of_ble_eq_true rfl) ⟨(Nat.le_of_ble_eq_true rfl), (Nat.le_of_ble_eq_true rfl)⟩ rfl ?_
  exact r_lret (pc := 37) h hr d_D_fixedWord_37
theorem c_fixedWord_false (q0 a v j : Nat) (f : Nat → Int64) (hq : ws[q0]? = some (a, rwL G f)) (hv : v < 10) (hj : j < 16) : Ct l y_D_fixedWord (.code y_D_fixedWord b_D_fixedWord 6 (some .long) :: TT) (rmF 2 42) G [.ref a, .int (nI v), .int (bI false), .int (nI j)] ws (some (.long (fW f v false j))) ws := by
  refine ct_intro (cc := b_D_fixedWord) (nL := 6) (by decide) [(0, .ref a), (1, .int (nI v)), (2, .int (bI false)), (3, .int (nI j))] rfl (Nat.le_of_ble_eq_true rfl) ?_
  intro p e s m below meth c A h hr
  refine r_iload_n (pc := 0) h 2 d_D_fixedWord_0 rfl rfl ?_
  refine r_if_eq_t (pc := 1) h (tgt := 12) d_D_fixedWord_1 (by decide) rfl ?_
  refine r_iload_n (pc := 12) h 1 d_D_fixedWord_12 rfl rfl ?_
  refine r_iload_n (pc := 13) h 3 d_D_fixedWord_13 rfl rfl ?_
  refine r_invSa (pc := 14) h (st := []) d_D_fixedWord_14 (c_variableWord v j hv hj) (r_cS h wc_D_variableWord w_137 w_1 w_138 hd_D_variableWord ⟨(Nat.le_of_ble_eq_true rfl), (Nat.le_of_ble_eq_true rfl)⟩ rfl rfl) rfl rfl (Nat.le_of_ble_eq_true rfl) ⟨(Nat.le_of_ble_eq_true rfl), (Nat.le_of_ble_eq_true rfl)⟩ rfl ?_
  refine r_ldc2 (pc := 17) h (v := (-1)) d_D_fixedWord_17 (List.mem_cons_of_mem _ w_145) ?_
  refine r_lxor (pc := 20) h (z := (vW v j) ^^^ (-1)) d_D_fixedWord_20 rfl ?_
  refine r_lstore (pc := 21) h (lv' := [(4, .long ((vW v j) ^^^ (-1))), (0, .ref a), (1, .int (nI v)), (2, .int (bI false)), (3, .int (nI j))]) d_D_fixedWord_21 (by decide) rfl ?_
  refine r_lload (pc := 23) h 0 d_D_fixedWord_23 rfl ?_
  refine r_aload_n (pc := 25) h 1 d_D_fixedWord_25 rfl rfl ?_
  refine r_iload_n (pc := 26) h 4 d_D_fixedWord_26 rfl rfl ?_
  refine r_laload (pc := 27) h q0 (z := f j) j d_D_fixedWord_27 hq rfl hj (by decide) rfl ?_
  refine r_aload_n (pc := 28) h 1 d_D_fixedWord_28 rfl rfl ?_
  refine r_iload_n (pc := 29) h 2 d_D_fixedWord_29 rfl rfl ?_
  refine r_iload_n (pc := 30) h 4 d_D_fixedWord_30 rfl rfl ?_
  refine r_invSa (pc := 31) h (st := [.long (f j), .long ((vW v j) ^^^ (-1))]) d_D_fixedWord_31 (c_turnedWord q0 a v j f hq hv hj) (r_cS h wc_D_turnedWord w_194 w_1 w_195 hd_D_turnedWord ⟨(Nat.le_of_ble_eq_true rfl), (Nat.le_of_ble_eq_true rfl)⟩ rfl rfl) rfl rfl (Nat.le_of_ble_eq_true rfl) ⟨(Nat.le_of_ble_eq_true rfl), (Nat.le_of_ble_eq_true rfl)⟩ rfl ?_
  refine r_invSa (pc := 34) h (st := []) d_D_fixedWord_34 (c_chosenWord ((vW v j) ^^^ (-1)) (f j) (tW f v j)) (r_cS h wc_D_chosenWord w_181 w_1 w_182 hd_D_chosenWord ⟨(Nat.le_of_ble_eq_true rfl), (Nat.le_of_ble_eq_true rfl)⟩ rfl rfl) rfl rfl (Nat.le_of_ble_eq_true rfl) ⟨(Nat.le_of_ble_eq_true rfl), (Nat.le_of_ble_eq_true rfl)⟩ rfl ?_
  exact r_lret (pc := 37) h hr d_D_fixedWord_37
theorem c_fixedWord (q0 a v j : Nat) (b : Bool) (f : Nat → Int64) (hq : ws[q0]? = some (a, rwL G f)) (hv : v < 10) (hj : j < 16) : Ct l y_D_fixedWord (.code y_D_fixedWord b_D_fixedWord 6 (some .long) :: TT) (rmF 2 42) G [.ref a, .int (nI v), .int (bI b), .int (nI j)] ws (some (.long (fW f v b j))) ws := by
  cases b
  · exact c_fixedWord_false q0 a v j f hq hv hj
  · exact c_fixedWord_true q0 a v j f hq hv hj
end LF
