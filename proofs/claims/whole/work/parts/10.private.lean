-- the class's checks and private methods
theorem lg_0 (x y : Int64) : lg_cmp x y = 0 ↔ x = y := by
  unfold lg_cmp
  constructor
  · intro h
    split at h
    · exact absurd h (by decide)
    · split at h
      · assumption
      · exact absurd h (by decide)
  · intro h
    subst h
    have : ¬ x > x := fun q => by
      have := Int64.lt_iff_toInt_lt.mp q
      omega
    rw [if_neg this, if_pos rfl]
section CK
variable {l : Launch} {G : gG} {ws : va_W}
theorem c_checkRegister (r : Nat) (hr0 : r < 16) : Ct l y_D_checkRegister (.code y_D_checkRegister b_D_checkRegister 1 none :: TT) (rmF 0 0) G [.int (nI r)] ws none ws := by
  refine ct_intro (cc := b_D_checkRegister) (nL := 1) (by decide) [(0, .int (nI r))] rfl (Nat.le_of_ble_eq_true rfl) ?_
  intro p e s m below meth c A h hr
  refine r_iload_n (pc := 0) h 0 d_D_checkRegister_0 rfl rfl ?_
  refine r_if_lt_f (pc := 1) h (tgt := 10) d_D_checkRegister_1 (by decide) (nI_pos (by omega)) ?_
  refine r_iload_n (pc := 4) h 0 d_D_checkRegister_4 rfl rfl ?_
  refine r_bipush (pc := 5) h (v := nI 16) d_D_checkRegister_5 (by decide) ?_
  refine r_icmp_lt_t (pc := 7) h (tgt := 20) d_D_checkRegister_7 (by decide) (nI_lt hr0 (by decide)) ?_
  exact r_vret (pc := 20) h hr d_D_checkRegister_20
theorem t_checkRegister (hl : l.stackTraces = false) (x : Int32) (hx : x < 0 ∨ nI 16 ≤ x) : Tt l y_D_checkRegister (.code y_D_checkRegister b_D_checkRegister 1 none :: TT) (rmX 6 82) G [.int x] ws IAE := by
  refine tt_intro (cc := b_D_checkRegister) (nL := 1) (by decide) [(0, .int x)] rfl (Nat.le_of_ble_eq_true rfl) ?_
  intro p e s m below meth c A h hr hex
  refine r_iload_n (pc := 0) h 0 d_D_checkRegister_0 rfl rfl ?_
  refine r_if_lt (pc := 1) h (tgt := 10) d_D_checkRegister_1 (by decide) (fun q1 => ?_) (fun q1 => ?_)
  · exact r_throw (pc := 10) h hl hex (E := IAE) (text := "no such register") (names := upN) (ik := 121) (is := 126) (ic := 125) iae_fit up_fit w_66 w_7 (by decide) iae_1 iae_2 iae_g d_D_checkRegister_10 d_D_checkRegister_13 d_D_checkRegister_14 d_D_checkRegister_16 d_D_checkRegister_19 (Nat.le_of_ble_eq_true rfl) (Nat.le_of_ble_eq_true rfl) (Nat.le_of_ble_eq_true rfl) (Nat.le_of_ble_eq_true rfl)
  · refine r_iload_n (pc := 4) h 0 d_D_checkRegister_4 rfl rfl ?_
    refine r_bipush (pc := 5) h (v := nI 16) d_D_checkRegister_5 (by decide) ?_
    refine r_icmp_lt_f (pc := 7) h (tgt := 20) d_D_checkRegister_7 (by decide) (hx.elim (fun z => absurd z q1) (fun z => by rw [Int32.not_lt]; exact z)) ?_
    exact r_throw (pc := 10) h hl hex (E := IAE) (text := "no such register") (names := upN) (ik := 121) (is := 126) (ic := 125) iae_fit up_fit w_66 w_7 (by decide) iae_1 iae_2 iae_g d_D_checkRegister_10 d_D_checkRegister_13 d_D_checkRegister_14 d_D_checkRegister_16 d_D_checkRegister_19 (Nat.le_of_ble_eq_true rfl) (Nat.le_of_ble_eq_true rfl) (Nat.le_of_ble_eq_true rfl) (Nat.le_of_ble_eq_true rfl)
theorem c_checkVariable (r : Nat) (hr0 : r < 10) : Ct l y_D_checkVariable (.code y_D_checkVariable b_D_checkVariable 1 none :: TT) (rmF 0 0) G [.int (nI r)] ws none ws := by
  refine ct_intro (cc := b_D_checkVariable) (nL := 1) (by decide) [(0, .int (nI r))] rfl (Nat.le_of_ble_eq_true rfl) ?_
  intro p e s m below meth c A h hr
  refine r_iload_n (pc := 0) h 0 d_D_checkVariable_0 rfl rfl ?_
  refine r_if_lt_f (pc := 1) h (tgt := 10) d_D_checkVariable_1 (by decide) (nI_pos (by omega)) ?_
  refine r_iload_n (pc := 4) h 0 d_D_checkVariable_4 rfl rfl ?_
  refine r_bipush (pc := 5) h (v := nI 10) d_D_checkVariable_5 (by decide) ?_
  refine r_icmp_lt_t (pc := 7) h (tgt := 20) d_D_checkVariable_7 (by decide) (nI_lt hr0 (by decide)) ?_
  exact r_vret (pc := 20) h hr d_D_checkVariable_20
theorem t_checkVariable (hl : l.stackTraces = false) (x : Int32) (hx : x < 0 ∨ nI 10 ≤ x) : Tt l y_D_checkVariable (.code y_D_checkVariable b_D_checkVariable 1 none :: TT) (rmX 6 82) G [.int x] ws IAE := by
  refine tt_intro (cc := b_D_checkVariable) (nL := 1) (by decide) [(0, .int x)] rfl (Nat.le_of_ble_eq_true rfl) ?_
  intro p e s m below meth c A h hr hex
  refine r_iload_n (pc := 0) h 0 d_D_checkVariable_0 rfl rfl ?_
  refine r_if_lt (pc := 1) h (tgt := 10) d_D_checkVariable_1 (by decide) (fun q1 => ?_) (fun q1 => ?_)
  · exact r_throw (pc := 10) h hl hex (E := IAE) (text := "no such variable") (names := upN) (ik := 121) (is := 128) (ic := 125) iae_fit up_fit w_66 w_7 (by decide) iae_1 iae_2 iae_g d_D_checkVariable_10 d_D_checkVariable_13 d_D_checkVariable_14 d_D_checkVariable_16 d_D_checkVariable_19 (Nat.le_of_ble_eq_true rfl) (Nat.le_of_ble_eq_true rfl) (Nat.le_of_ble_eq_true rfl) (Nat.le_of_ble_eq_true rfl)
  · refine r_iload_n (pc := 4) h 0 d_D_checkVariable_4 rfl rfl ?_
    refine r_bipush (pc := 5) h (v := nI 10) d_D_checkVariable_5 (by decide) ?_
    refine r_icmp_lt_f (pc := 7) h (tgt := 20) d_D_checkVariable_7 (by decide) (hx.elim (fun z => absurd z q1) (fun z => by rw [Int32.not_lt]; exact z)) ?_
    exact r_throw (pc := 10) h hl hex (E := IAE) (text := "no such variable") (names := upN) (ik := 121) (is := 128) (ic := 125) iae_fit up_fit w_66 w_7 (by decide) iae_1 iae_2 iae_g d_D_checkVariable_10 d_D_checkVariable_13 d_D_checkVariable_14 d_D_checkVariable_16 d_D_checkVariable_19 (Nat.le_of_ble_eq_true rfl) (Nat.le_of_ble_eq_true rfl) (Nat.le_of_ble_eq_true rfl) (Nat.le_of_ble_eq_true rfl)
theorem c_checkAssignment (r : Nat) (hr0 : r < 1024) : Ct l y_D_checkAssignment (.code y_D_checkAssignment b_D_checkAssignment 1 none :: TT) (rmF 0 0) G [.int (nI r)] ws none ws := by
  refine ct_intro (cc := b_D_checkAssignment) (nL := 1) (by decide) [(0, .int (nI r))] rfl (Nat.le_of_ble_eq_true rfl) ?_
  intro p e s m below meth c A h hr
  refine r_iload_n (pc := 0) h 0 d_D_checkAssignment_0 rfl rfl ?_
  refine r_if_lt_f (pc := 1) h (tgt := 11) d_D_checkAssignment_1 (by decide) (nI_pos (by omega)) ?_
  refine r_iload_n (pc := 4) h 0 d_D_checkAssignment_4 rfl rfl ?_
  refine r_sipush (pc := 5) h (v := nI 1024) d_D_checkAssignment_5 (by decide) ?_
  refine r_icmp_lt_t (pc := 8) h (tgt := 21) d_D_checkAssignment_8 (by decide) (nI_lt hr0 (by decide)) ?_
  exact r_vret (pc := 21) h hr d_D_checkAssignment_21
theorem t_checkAssignment (hl : l.stackTraces = false) (x : Int32) (hx : x < 0 ∨ nI 1024 ≤ x) : Tt l y_D_checkAssignment (.code y_D_checkAssignment b_D_checkAssignment 1 none :: TT) (rmX 6 82) G [.int x] ws IAE := by
  refine tt_intro (cc := b_D_checkAssignment) (nL := 1) (by decide) [(0, .int x)] rfl (Nat.le_of_ble_eq_true rfl) ?_
  intro p e s m below meth c A h hr hex
  refine r_iload_n (pc := 0) h 0 d_D_checkAssignment_0 rfl rfl ?_
  refine r_if_lt (pc := 1) h (tgt := 11) d_D_checkAssignment_1 (by decide) (fun q1 => ?_) (fun q1 => ?_)
  · exact r_throw (pc := 11) h hl hex (E := IAE) (text := "no such assignment") (names := upN) (ik := 121) (is := 130) (ic := 125) iae_fit up_fit w_66 w_7 (by decide) iae_1 iae_2 iae_g d_D_checkAssignment_11 d_D_checkAssignment_14 d_D_checkAssignment_15 d_D_checkAssignment_17 d_D_checkAssignment_20 (Nat.le_of_ble_eq_true rfl) (Nat.le_of_ble_eq_true rfl) (Nat.le_of_ble_eq_true rfl) (Nat.le_of_ble_eq_true rfl)
  · refine r_iload_n (pc := 4) h 0 d_D_checkAssignment_4 rfl rfl ?_
    refine r_sipush (pc := 5) h (v := nI 1024) d_D_checkAssignment_5 (by decide) ?_
    refine r_icmp_lt_f (pc := 8) h (tgt := 21) d_D_checkAssignment_8 (by decide) (hx.elim (fun z => absurd z q1) (fun z => by rw [Int32.not_lt]; exact z)) ?_
    exact r_throw (pc := 11) h hl hex (E := IAE) (text := "no such assignment") (names := upN) (ik := 121) (is := 130) (ic := 125) iae_fit up_fit w_66 w_7 (by decide) iae_1 iae_2 iae_g d_D_checkAssignment_11 d_D_checkAssignment_14 d_D_checkAssignment_15 d_D_checkAssignment_17 d_D_checkAssignment_20 (Nat.le_of_ble_eq_true rfl) (Nat.le_of_ble_eq_true rfl) (Nat.le_of_ble_eq_true rfl) (Nat.le_of_ble_eq_true rfl)
theorem c_checkSet (r : Nat) (hr0 : r < 1024) : Ct l y_D_checkSet (.code y_D_checkSet b_D_checkSet 1 none :: TT) (rmF 0 0) G [.int (nI r)] ws none ws := by
  refine ct_intro (cc := b_D_checkSet) (nL := 1) (by decide) [(0, .int (nI r))] rfl (Nat.le_of_ble_eq_true rfl) ?_
  intro p e s m below meth c A h hr
  refine r_iload_n (pc := 0) h 0 d_D_checkSet_0 rfl rfl ?_
  refine r_if_lt_f (pc := 1) h (tgt := 11) d_D_checkSet_1 (by decide) (nI_pos (by omega)) ?_
  refine r_iload_n (pc := 4) h 0 d_D_checkSet_4 rfl rfl ?_
  refine r_sipush (pc := 5) h (v := nI 1024) d_D_checkSet_5 (by decide) ?_
  refine r_icmp_lt_t (pc := 8) h (tgt := 21) d_D_checkSet_8 (by decide) (nI_lt hr0 (by decide)) ?_
  exact r_vret (pc := 21) h hr d_D_checkSet_21
theorem t_checkSet (hl : l.stackTraces = false) (x : Int32) (hx : x < 0 ∨ nI 1024 ≤ x) : Tt l y_D_checkSet (.code y_D_checkSet b_D_checkSet 1 none :: TT) (rmX 6 82) G [.int x] ws IAE := by
  refine tt_intro (cc := b_D_checkSet) (nL := 1) (by decide) [(0, .int x)] rfl (Nat.le_of_ble_eq_true rfl) ?_
  intro p e s m below meth c A h hr hex
  refine r_iload_n (pc := 0) h 0 d_D_checkSet_0 rfl rfl ?_
  refine r_if_lt (pc := 1) h (tgt := 11) d_D_checkSet_1 (by decide) (fun q1 => ?_) (fun q1 => ?_)
  · exact r_throw (pc := 11) h hl hex (E := IAE) (text := "no such set") (names := upN) (ik := 121) (is := 132) (ic := 125) iae_fit up_fit w_66 w_7 (by decide) iae_1 iae_2 iae_g d_D_checkSet_11 d_D_checkSet_14 d_D_checkSet_15 d_D_checkSet_17 d_D_checkSet_20 (Nat.le_of_ble_eq_true rfl) (Nat.le_of_ble_eq_true rfl) (Nat.le_of_ble_eq_true rfl) (Nat.le_of_ble_eq_true rfl)
  · refine r_iload_n (pc := 4) h 0 d_D_checkSet_4 rfl rfl ?_
    refine r_sipush (pc := 5) h (v := nI 1024) d_D_checkSet_5 (by decide) ?_
    refine r_icmp_lt_f (pc := 8) h (tgt := 21) d_D_checkSet_8 (by decide) (hx.elim (fun z => absurd z q1) (fun z => by rw [Int32.not_lt]; exact z)) ?_
    exact r_throw (pc := 11) h hl hex (E := IAE) (text := "no such set") (names := upN) (ik := 121) (is := 132) (ic := 125) iae_fit up_fit w_66 w_7 (by decide) iae_1 iae_2 iae_g d_D_checkSet_11 d_D_checkSet_14 d_D_checkSet_15 d_D_checkSet_17 d_D_checkSet_20 (Nat.le_of_ble_eq_true rfl) (Nat.le_of_ble_eq_true rfl) (Nat.le_of_ble_eq_true rfl) (Nat.le_of_ble_eq_true rfl)
theorem c_checkKind (r : Nat) (hr0 : r < 5) : Ct l y_D_checkKind (.code y_D_checkKind b_D_checkKind 1 none :: TT) (rmF 0 0) G [.int (nI r)] ws none ws := by
  refine ct_intro (cc := b_D_checkKind) (nL := 1) (by decide) [(0, .int (nI r))] rfl (Nat.le_of_ble_eq_true rfl) ?_
  intro p e s m below meth c A h hr
  refine r_iload_n (pc := 0) h 0 d_D_checkKind_0 rfl rfl ?_
  refine r_if_lt_f (pc := 1) h (tgt := 9) d_D_checkKind_1 (by decide) (nI_pos (by omega)) ?_
  refine r_iload_n (pc := 4) h 0 d_D_checkKind_4 rfl rfl ?_
  refine r_iconst (pc := 5) h (v := nI 5) d_D_checkKind_5 (by decide) ?_
  refine r_icmp_lt_t (pc := 6) h (tgt := 19) d_D_checkKind_6 (by decide) (nI_lt hr0 (by decide)) ?_
  exact r_vret (pc := 19) h hr d_D_checkKind_19
theorem t_checkKind (hl : l.stackTraces = false) (x : Int32) (hx : x < 0 ∨ nI 5 ≤ x) : Tt l y_D_checkKind (.code y_D_checkKind b_D_checkKind 1 none :: TT) (rmX 6 82) G [.int x] ws IAE := by
  refine tt_intro (cc := b_D_checkKind) (nL := 1) (by decide) [(0, .int x)] rfl (Nat.le_of_ble_eq_true rfl) ?_
  intro p e s m below meth c A h hr hex
  refine r_iload_n (pc := 0) h 0 d_D_checkKind_0 rfl rfl ?_
  refine r_if_lt (pc := 1) h (tgt := 9) d_D_checkKind_1 (by decide) (fun q1 => ?_) (fun q1 => ?_)
  · exact r_throw (pc := 9) h hl hex (E := IAE) (text := "no such kind") (names := upN) (ik := 121) (is := 134) (ic := 125) iae_fit up_fit w_66 w_7 (by decide) iae_1 iae_2 iae_g d_D_checkKind_9 d_D_checkKind_12 d_D_checkKind_13 d_D_checkKind_15 d_D_checkKind_18 (Nat.le_of_ble_eq_true rfl) (Nat.le_of_ble_eq_true rfl) (Nat.le_of_ble_eq_true rfl) (Nat.le_of_ble_eq_true rfl)
  · refine r_iload_n (pc := 4) h 0 d_D_checkKind_4 rfl rfl ?_
    refine r_iconst (pc := 5) h (v := nI 5) d_D_checkKind_5 (by decide) ?_
    refine r_icmp_lt_f (pc := 6) h (tgt := 19) d_D_checkKind_6 (by decide) (hx.elim (fun z => absurd z q1) (fun z => by rw [Int32.not_lt]; exact z)) ?_
    exact r_throw (pc := 9) h hl hex (E := IAE) (text := "no such kind") (names := upN) (ik := 121) (is := 134) (ic := 125) iae_fit up_fit w_66 w_7 (by decide) iae_1 iae_2 iae_g d_D_checkKind_9 d_D_checkKind_12 d_D_checkKind_13 d_D_checkKind_15 d_D_checkKind_18 (Nat.le_of_ble_eq_true rfl) (Nat.le_of_ble_eq_true rfl) (Nat.le_of_ble_eq_true rfl) (Nat.le_of_ble_eq_true rfl)
end CK
section CP
variable {l : Launch} {G : gG} {a : Nat → Nat} {hd : Nat → Nat → Int64} {wk sp : Nat → Int64} {ct : Int32} {ky nm : Nat → Int32}
theorem c_hangsOn_f {ws : va_W} (q0 b v : Nat) (f : Nat → Int64) (hq : ws[q0]? = some (b, rwL G f)) (hv : v < 10) (hn : ∀ i, i < 16 → f i = tW f v i) : Ct l y_D_hangsOn (.code y_D_hangsOn b_D_hangsOn 3 (some .boolean) :: TT) (rmF 1 25) G [.ref b, .int (nI v)] ws (some (.int (bI false))) ws := by
  refine ct_intro (cc := b_D_hangsOn) (nL := 3) (by decide) [(0, .ref b), (1, .int (nI v))] rfl (Nat.le_of_ble_eq_true rfl) ?_
  intro p e s m below meth c A h hr
  refine r_iconst (pc := 0) h (v := nI 0) d_D_hangsOn_0 (by decide) ?_
  refine r_istore_n (pc := 1) h (lv' := [(2, .int (nI 0)), (0, .ref b), (1, .int (nI v))]) d_D_hangsOn_1 rfl (by decide) rfl ?_
  refine Wv.loop 16 (fun i => ws) (fun i => [(2, .int (nI i)), (0, .ref b), (1, .int (nI v))]) ?_ ?_
  · show Wv p l e _ s m _ below meth c G A _ _ _ _ ws 2 [(2, .int (nI 16)), (0, .ref b), (1, .int (nI v))] []
    refine r_iload_n (pc := 2) h 0 d_D_hangsOn_2 rfl rfl ?_
    refine r_bipush (pc := 3) h (v := nI 16) d_D_hangsOn_3 (by decide) ?_
    refine r_icmp_ge_t (pc := 5) h (tgt := 29) d_D_hangsOn_5 (by decide) (nI_le (Nat.le_refl _) (by decide)) ?_
    refine r_iconst (pc := 29) h (v := bI false) d_D_hangsOn_29 (by decide) ?_
    exact r_zret (pc := 30) h hr (bI_nrw _) d_D_hangsOn_30
  · intro i hi ih
    have ih : Wv p l e _ s m _ below meth c G A _ _ _ _ ws 2 [(2, .int (nI (i + 1))), (0, .ref b), (1, .int (nI v))] [] := ih
    show Wv p l e _ s m _ below meth c G A _ _ _ _ ws 2 [(2, .int (nI i)), (0, .ref b), (1, .int (nI v))] []
    refine r_iload_n (pc := 2) h 0 d_D_hangsOn_2 rfl rfl ?_
    refine r_bipush (pc := 3) h (v := nI 16) d_D_hangsOn_3 (by decide) ?_
    refine r_icmp_ge_f (pc := 5) h (tgt := 29) d_D_hangsOn_5 (by decide) (nI_ge hi (by decide)) ?_
    refine r_aload_n (pc := 8) h 1 d_D_hangsOn_8 rfl rfl ?_
    refine r_iload_n (pc := 9) h 0 d_D_hangsOn_9 rfl rfl ?_
    refine r_laload (pc := 10) h q0 (z := f i) i d_D_hangsOn_10 hq rfl hi (by decide) rfl ?_
    refine r_aload_n (pc := 11) h 1 d_D_hangsOn_11 rfl rfl ?_
    refine r_iload_n (pc := 12) h 2 d_D_hangsOn_12 rfl rfl ?_
    refine r_iload_n (pc := 13) h 0 d_D_hangsOn_13 rfl rfl ?_
    refine r_invSa (pc := 14) h (st := [.long (f i)]) d_D_hangsOn_14 (c_turnedWord q0 b v i f hq hv hi) (r_cS h wc_D_turnedWord w_194 w_1 w_195 hd_D_turnedWord ⟨(Nat.le_of_ble_eq_true rfl), (Nat.le_of_ble_eq_true rfl)⟩ rfl rfl) rfl rfl (Nat.le_of_ble_eq_true rfl) ⟨(Nat.le_of_ble_eq_true rfl), (Nat.le_of_ble_eq_true rfl)⟩ rfl ?_
    refine r_lcmp (pc := 17) h (z := 0) d_D_hangsOn_17 ((lg_0 _ _).mpr (hn i hi)) ?_
    refine r_if_eq_t (pc := 18) h (tgt := 23) d_D_hangsOn_18 (by decide) rfl ?_
    refine r_iinc (pc := 23) h (v := nI (i + 1)) (lv' := [(2, .int (nI (i + 1))), (0, .ref b), (1, .int (nI v))]) 0 d_D_hangsOn_23 rfl (nI_inc i) (by decide) rfl ?_
    refine r_goto (pc := 26) h (tgt := 2) d_D_hangsOn_26 (by decide) ?_
    exact ih
theorem c_hangsOn_t {ws : va_W} (q0 b v n : Nat) (f : Nat → Int64) (hq : ws[q0]? = some (b, rwL G f)) (hv : v < 10) (hn16 : n < 16) (hn : ∀ i, i < n → f i = tW f v i) (hne : f n ≠ tW f v n) : Ct l y_D_hangsOn (.code y_D_hangsOn b_D_hangsOn 3 (some .boolean) :: TT) (rmF 1 25) G [.ref b, .int (nI v)] ws (some (.int (bI true))) ws := by
  refine ct_intro (cc := b_D_hangsOn) (nL := 3) (by decide) [(0, .ref b), (1, .int (nI v))] rfl (Nat.le_of_ble_eq_true rfl) ?_
  intro p e s m below meth c A h hr
  refine r_iconst (pc := 0) h (v := nI 0) d_D_hangsOn_0 (by decide) ?_
  refine r_istore_n (pc := 1) h (lv' := [(2, .int (nI 0)), (0, .ref b), (1, .int (nI v))]) d_D_hangsOn_1 rfl (by decide) rfl ?_
  refine Wv.loop n (fun i => ws) (fun i => [(2, .int (nI i)), (0, .ref b), (1, .int (nI v))]) ?_ ?_
  · show Wv p l e _ s m _ below meth c G A _ _ _ _ ws 2 [(2, .int (nI n)), (0, .ref b), (1, .int (nI v))] []
    refine r_iload_n (pc := 2) h 0 d_D_hangsOn_2 rfl rfl ?_
    refine r_bipush (pc := 3) h (v := nI 16) d_D_hangsOn_3 (by decide) ?_
    refine r_icmp_ge_f (pc := 5) h (tgt := 29) d_D_hangsOn_5 (by decide) (nI_ge hn16 (by decide)) ?_
    refine r_aload_n (pc := 8) h 1 d_D_hangsOn_8 rfl rfl ?_
    refine r_iload_n (pc := 9) h 0 d_D_hangsOn_9 rfl rfl ?_
    refine r_laload (pc := 10) h q0 (z := f n) n d_D_hangsOn_10 hq rfl hn16 (by decide) rfl ?_
    refine r_aload_n (pc := 11) h 1 d_D_hangsOn_11 rfl rfl ?_
    refine r_iload_n (pc := 12) h 2 d_D_hangsOn_12 rfl rfl ?_
    refine r_iload_n (pc := 13) h 0 d_D_hangsOn_13 rfl rfl ?_
    refine r_invSa (pc := 14) h (st := [.long (f n)]) d_D_hangsOn_14 (c_turnedWord q0 b v n f hq hv hn16) (r_cS h wc_D_turnedWord w_194 w_1 w_195 hd_D_turnedWord ⟨(Nat.le_of_ble_eq_true rfl), (Nat.le_of_ble_eq_true rfl)⟩ rfl rfl) rfl rfl (Nat.le_of_ble_eq_true rfl) ⟨(Nat.le_of_ble_eq_true rfl), (Nat.le_of_ble_eq_true rfl)⟩ rfl ?_
    refine r_lcmp (pc := 17) h (z := lg_cmp (f n) (tW f v n)) d_D_hangsOn_17 rfl ?_
    refine r_if_eq_f (pc := 18) h (tgt := 23) d_D_hangsOn_18 (by decide) (fun z => hne ((lg_0 _ _).mp z)) ?_
    refine r_iconst (pc := 21) h (v := bI true) d_D_hangsOn_21 (by decide) ?_
    exact r_zret (pc := 22) h hr (bI_nrw _) d_D_hangsOn_22
  · intro i hi ih
    have ih : Wv p l e _ s m _ below meth c G A _ _ _ _ ws 2 [(2, .int (nI (i + 1))), (0, .ref b), (1, .int (nI v))] [] := ih
    show Wv p l e _ s m _ below meth c G A _ _ _ _ ws 2 [(2, .int (nI i)), (0, .ref b), (1, .int (nI v))] []
    refine r_iload_n (pc := 2) h 0 d_D_hangsOn_2 rfl rfl ?_
    refine r_bipush (pc := 3) h (v := nI 16) d_D_hangsOn_3 (by decide) ?_
    refine r_icmp_ge_f (pc := 5) h (tgt := 29) d_D_hangsOn_5 (by decide) (nI_ge (Nat.lt_trans hi hn16) (by decide)) ?_
    refine r_aload_n (pc := 8) h 1 d_D_hangsOn_8 rfl rfl ?_
    refine r_iload_n (pc := 9) h 0 d_D_hangsOn_9 rfl rfl ?_
    refine r_laload (pc := 10) h q0 (z := f i) i d_D_hangsOn_10 hq rfl (Nat.lt_trans hi hn16) (by decide) rfl ?_
    refine r_aload_n (pc := 11) h 1 d_D_hangsOn_11 rfl rfl ?_
    refine r_iload_n (pc := 12) h 2 d_D_hangsOn_12 rfl rfl ?_
    refine r_iload_n (pc := 13) h 0 d_D_hangsOn_13 rfl rfl ?_
    refine r_invSa (pc := 14) h (st := [.long (f i)]) d_D_hangsOn_14 (c_turnedWord q0 b v i f hq hv (Nat.lt_trans hi hn16)) (r_cS h wc_D_turnedWord w_194 w_1 w_195 hd_D_turnedWord ⟨(Nat.le_of_ble_eq_true rfl), (Nat.le_of_ble_eq_true rfl)⟩ rfl rfl) rfl rfl (Nat.le_of_ble_eq_true rfl) ⟨(Nat.le_of_ble_eq_true rfl), (Nat.le_of_ble_eq_true rfl)⟩ rfl ?_
    refine r_lcmp (pc := 17) h (z := 0) d_D_hangsOn_17 ((lg_0 _ _).mpr (hn i hi)) ?_
    refine r_if_eq_t (pc := 18) h (tgt := 23) d_D_hangsOn_18 (by decide) rfl ?_
    refine r_iinc (pc := 23) h (v := nI (i + 1)) (lv' := [(2, .int (nI (i + 1))), (0, .ref b), (1, .int (nI v))]) 0 d_D_hangsOn_23 rfl (nI_inc i) (by decide) rfl ?_
    refine r_goto (pc := 26) h (tgt := 2) d_D_hangsOn_26 (by decide) ?_
    exact ih
theorem cpy_row (f g : Nat → Int64) : va_cpy f g 0 0 16 = mix 16 f g := by
  funext j
  unfold va_cpy mix
  by_cases h : j < 16 <;> simp [h]
theorem c_store2 (t : Nat) (ht : t < 16) : Ct l y_D_store (.code y_D_store b_D_store 3 none :: TT) (rmF 1 40) G [.ref (a 0), .ref (a 2), .int (nI t)] (cw G a hd wk sp ct ky nm) none (cw G a (va_up hd t (mix 16 wk (hd t))) wk sp ct ky nm) := by
  refine ct_intro (cc := b_D_store) (nL := 3) (by decide) [(0, .ref (a 0)), (1, .ref (a 2)), (2, .int (nI t))] rfl (Nat.le_of_ble_eq_true rfl) ?_
  intro p e s m below meth c A h hr
  refine r_aload_n (pc := 0) h 1 d_D_store_0 rfl rfl ?_
  refine r_iconst (pc := 1) h (v := 0) d_D_store_1 (by decide) ?_
  refine r_aload_n (pc := 2) h 0 d_D_store_2 rfl rfl ?_
  refine r_get (pc := 3) h 0 0 d_D_store_3 cw_0 rfl (by decide) in_D (List.mem_cons_of_mem _ w_42) rfl ?_
  refine r_iload_n (pc := 6) h 2 d_D_store_6 rfl rfl ?_
  refine r_aaload (pc := 7) h 1 3 t d_D_store_7 cw_1 rfl rfl rfl ht (by decide) (cw_o ht) ?_
  refine r_iconst (pc := 8) h (v := 0) d_D_store_8 (by decide) ?_
  refine r_bipush (pc := 9) h (v := nI 16) d_D_store_9 (by decide) ?_
  refine r_copyl (pc := 11) h 2 (7 + t) (ws' := (cw G a (va_up hd t (mix 16 wk (hd t))) wk sp ct ky nm)) 16 d_D_store_11 (List.mem_cons_of_mem _ w_201) (List.mem_cons_of_mem _ w_203) (List.mem_cons_of_mem _ w_202) (List.mem_cons_of_mem _ w_9) cw_2 (cw_r ht) rfl rfl rfl (by decide) (by decide) (by decide) (Nat.le_of_ble_eq_true rfl) (Nat.le_of_ble_eq_true rfl) (by rw [cpy_row]; exact cw_sr) ?_
  exact r_vret (pc := 14) h hr d_D_store_14
theorem c_store3 (t : Nat) (ht : t < 16) : Ct l y_D_store (.code y_D_store b_D_store 3 none :: TT) (rmF 1 40) G [.ref (a 0), .ref (a 3), .int (nI t)] (cw G a hd wk sp ct ky nm) none (cw G a (va_up hd t (mix 16 sp (hd t))) wk sp ct ky nm) := by
  refine ct_intro (cc := b_D_store) (nL := 3) (by decide) [(0, .ref (a 0)), (1, .ref (a 3)), (2, .int (nI t))] rfl (Nat.le_of_ble_eq_true rfl) ?_
  intro p e s m below meth c A h hr
  refine r_aload_n (pc := 0) h 1 d_D_store_0 rfl rfl ?_
  refine r_iconst (pc := 1) h (v := 0) d_D_store_1 (by decide) ?_
  refine r_aload_n (pc := 2) h 0 d_D_store_2 rfl rfl ?_
  refine r_get (pc := 3) h 0 0 d_D_store_3 cw_0 rfl (by decide) in_D (List.mem_cons_of_mem _ w_42) rfl ?_
  refine r_iload_n (pc := 6) h 2 d_D_store_6 rfl rfl ?_
  refine r_aaload (pc := 7) h 1 3 t d_D_store_7 cw_1 rfl rfl rfl ht (by decide) (cw_o ht) ?_
  refine r_iconst (pc := 8) h (v := 0) d_D_store_8 (by decide) ?_
  refine r_bipush (pc := 9) h (v := nI 16) d_D_store_9 (by decide) ?_
  refine r_copyl (pc := 11) h 3 (7 + t) (ws' := (cw G a (va_up hd t (mix 16 sp (hd t))) wk sp ct ky nm)) 16 d_D_store_11 (List.mem_cons_of_mem _ w_201) (List.mem_cons_of_mem _ w_203) (List.mem_cons_of_mem _ w_202) (List.mem_cons_of_mem _ w_9) cw_3 (cw_r ht) rfl rfl rfl (by decide) (by decide) (by decide) (Nat.le_of_ble_eq_true rfl) (Nat.le_of_ble_eq_true rfl) (by rw [cpy_row]; exact cw_sr) ?_
  exact r_vret (pc := 14) h hr d_D_store_14
theorem c_bindWork_true (v : Nat) (hv : v < 10) : Ct l y_D_bindWork (.code y_D_bindWork b_D_bindWork 6 none :: TT) (rmF 1 40) G [.ref (a 0), .int (nI v), .int (bI true)] (cw G a hd wk sp ct ky nm) none (cw G a hd (mix 16 (mix 16 (fun j => wk j &&& tW wk v j) sp) wk) (mix 16 (fun j => wk j &&& tW wk v j) sp) ct ky nm) := by
  refine ct_intro (cc := b_D_bindWork) (nL := 6) (by decide) [(0, .ref (a 0)), (1, .int (nI v)), (2, .int (bI true))] rfl (Nat.le_of_ble_eq_true rfl) ?_
  intro p e s m below meth c A h hr
  refine r_iconst (pc := 0) h (v := nI 0) d_D_bindWork_0 (by decide) ?_
  refine r_istore_n (pc := 1) h (lv' := [(3, .int (nI 0)), (0, .ref (a 0)), (1, .int (nI v)), (2, .int (bI true))]) d_D_bindWork_1 rfl (by decide) rfl ?_
  refine Wv.wld (ws' := (cw G a hd wk (mix 0 (fun j => wk j &&& tW wk v j) sp) ct ky nm)) (by rw [mix_0]) ?_
  refine Wv.loop 16 (fun i => (cw G a hd wk (mix i (fun j => wk j &&& tW wk v j) sp) ct ky nm)) (fun i => [(3, .int (nI i)), (0, .ref (a 0)), (1, .int (nI v)), (2, .int (bI true))]) ?_ ?_
  · show Wv p l e _ s m _ below meth c G A _ _ _ _ (cw G a hd wk (mix 16 (fun j => wk j &&& tW wk v j) sp) ct ky nm) 2 [(3, .int (nI 16)), (0, .ref (a 0)), (1, .int (nI v)), (2, .int (bI true))] []
    refine r_iload_n (pc := 2) h 0 d_D_bindWork_2 rfl rfl ?_
    refine r_bipush (pc := 3) h (v := nI 16) d_D_bindWork_3 (by decide) ?_
    refine r_icmp_ge_t (pc := 5) h (tgt := 56) d_D_bindWork_5 (by decide) (nI_le (Nat.le_refl _) (by decide)) ?_
    refine r_aload_n (pc := 56) h 1 d_D_bindWork_56 rfl rfl ?_
    refine r_get (pc := 57) h 0 2 d_D_bindWork_57 cw_0 rfl (by decide) in_D (List.mem_cons_of_mem _ w_44) rfl ?_
    refine r_iconst (pc := 60) h (v := 0) d_D_bindWork_60 (by decide) ?_
    refine r_aload_n (pc := 61) h 1 d_D_bindWork_61 rfl rfl ?_
    refine r_get (pc := 62) h 0 1 d_D_bindWork_62 cw_0 rfl (by decide) in_D (List.mem_cons_of_mem _ w_43) rfl ?_
    refine r_iconst (pc := 65) h (v := 0) d_D_bindWork_65 (by decide) ?_
    refine r_bipush (pc := 66) h (v := nI 16) d_D_bindWork_66 (by decide) ?_
    refine r_copyl (pc := 68) h 3 2 (ws' := (cw G a hd (mix 16 (mix 16 (fun j => wk j &&& tW wk v j) sp) wk) (mix 16 (fun j => wk j &&& tW wk v j) sp) ct ky nm)) 16 d_D_bindWork_68 (List.mem_cons_of_mem _ w_201) (List.mem_cons_of_mem _ w_203) (List.mem_cons_of_mem _ w_202) (List.mem_cons_of_mem _ w_9) cw_3 cw_2 rfl rfl rfl (by decide) (by decide) (by decide) (Nat.le_of_ble_eq_true rfl) (Nat.le_of_ble_eq_true rfl) (by rw [cpy_row]; exact cw_s2) ?_
    exact r_vret (pc := 71) h hr d_D_bindWork_71
  · intro i hi ih
    have ih : Wv p l e _ s m _ below meth c G A _ _ _ _ (cw G a hd wk (mix (i + 1) (fun j => wk j &&& tW wk v j) sp) ct ky nm) 2 [(3, .int (nI (i + 1))), (0, .ref (a 0)), (1, .int (nI v)), (2, .int (bI true))] [] := ih
    show Wv p l e _ s m _ below meth c G A _ _ _ _ (cw G a hd wk (mix i (fun j => wk j &&& tW wk v j) sp) ct ky nm) 2 [(3, .int (nI i)), (0, .ref (a 0)), (1, .int (nI v)), (2, .int (bI true))] []
    refine r_iload_n (pc := 2) h 0 d_D_bindWork_2 rfl rfl ?_
    refine r_bipush (pc := 3) h (v := nI 16) d_D_bindWork_3 (by decide) ?_
    refine r_icmp_ge_f (pc := 5) h (tgt := 56) d_D_bindWork_5 (by decide) (nI_ge hi (by decide)) ?_
    refine r_aload_n (pc := 8) h 1 d_D_bindWork_8 rfl rfl ?_
    refine r_get (pc := 9) h 0 1 d_D_bindWork_9 cw_0 rfl (by decide) in_D (List.mem_cons_of_mem _ w_43) rfl ?_
    refine r_iload_n (pc := 12) h 2 d_D_bindWork_12 rfl rfl ?_
    refine r_iload_n (pc := 13) h 0 d_D_bindWork_13 rfl rfl ?_
    refine r_invSa (pc := 14) h (st := []) d_D_bindWork_14 (c_turnedWord 2 (a 2) v i wk cw_2 hv hi) (r_cS h wc_D_turnedWord w_194 w_1 w_195 hd_D_turnedWord ⟨(Nat.le_of_ble_eq_true rfl), (Nat.le_of_ble_eq_true rfl)⟩ rfl rfl) rfl rfl (Nat.le_of_ble_eq_true rfl) ⟨(Nat.le_of_ble_eq_true rfl), (Nat.le_of_ble_eq_true rfl)⟩ rfl ?_
    refine r_lstore (pc := 17) h (lv' := [(4, .long (tW wk v i)), (3, .int (nI i)), (0, .ref (a 0)), (1, .int (nI v)), (2, .int (bI true))]) d_D_bindWork_17 (by decide) rfl ?_
    refine r_aload_n (pc := 19) h 2 d_D_bindWork_19 rfl rfl ?_
    refine r_get (pc := 20) h 0 2 d_D_bindWork_20 cw_0 rfl (by decide) in_D (List.mem_cons_of_mem _ w_44) rfl ?_
    refine r_iload_n (pc := 23) h 1 d_D_bindWork_23 rfl rfl ?_
    refine r_iload_n (pc := 24) h 4 d_D_bindWork_24 rfl rfl ?_
    refine r_if_eq_f (pc := 25) h (tgt := 40) d_D_bindWork_25 (by decide) (by decide) ?_
    refine r_aload_n (pc := 28) h 2 d_D_bindWork_28 rfl rfl ?_
    refine r_get (pc := 29) h 0 1 d_D_bindWork_29 cw_0 rfl (by decide) in_D (List.mem_cons_of_mem _ w_43) rfl ?_
    refine r_iload_n (pc := 32) h 1 d_D_bindWork_32 rfl rfl ?_
    refine r_laload (pc := 33) h 2 (z := wk i) i d_D_bindWork_33 cw_2 rfl hi (by decide) rfl ?_
    refine r_lload (pc := 34) h 0 d_D_bindWork_34 rfl ?_
    refine r_land (pc := 36) h (z := (wk i) &&& (tW wk v i)) d_D_bindWork_36 rfl ?_
    refine r_goto (pc := 37) h (tgt := 49) d_D_bindWork_37 (by decide) ?_
    refine r_lastore (pc := 49) h 3 (ws' := (cw G a hd wk (mix (i + 1) (fun j => wk j &&& tW wk v j) sp) ct ky nm)) i d_D_bindWork_49 cw_3 rfl hi (by decide) (by rw [mix_updL i (fun j => wk j &&& tW wk v j) sp]; exact cw_s3) ?_
    refine r_iinc (pc := 50) h (v := nI (i + 1)) (lv' := [(3, .int (nI (i + 1))), (4, .long (tW wk v i)), (0, .ref (a 0)), (1, .int (nI v)), (2, .int (bI true))]) 1 d_D_bindWork_50 rfl (nI_inc i) (by decide) rfl ?_
    refine r_goto (pc := 53) h (tgt := 2) d_D_bindWork_53 (by decide) ?_
    refine Wv.sub [0, 2, 3, 4] rfl ?_
    exact ih
theorem c_bindWork_false (v : Nat) (hv : v < 10) : Ct l y_D_bindWork (.code y_D_bindWork b_D_bindWork 6 none :: TT) (rmF 1 40) G [.ref (a 0), .int (nI v), .int (bI false)] (cw G a hd wk sp ct ky nm) none (cw G a hd (mix 16 (mix 16 (fun j => wk j ||| tW wk v j) sp) wk) (mix 16 (fun j => wk j ||| tW wk v j) sp) ct ky nm) := by
  refine ct_intro (cc := b_D_bindWork) (nL := 6) (by decide) [(0, .ref (a 0)), (1, .int (nI v)), (2, .int (bI false))] rfl (Nat.le_of_ble_eq_true rfl) ?_
  intro p e s m below meth c A h hr
  refine r_iconst (pc := 0) h (v := nI 0) d_D_bindWork_0 (by decide) ?_
  refine r_istore_n (pc := 1) h (lv' := [(3, .int (nI 0)), (0, .ref (a 0)), (1, .int (nI v)), (2, .int (bI false))]) d_D_bindWork_1 rfl (by decide) rfl ?_
  refine Wv.wld (ws' := (cw G a hd wk (mix 0 (fun j => wk j ||| tW wk v j) sp) ct ky nm)) (by rw [mix_0]) ?_
  refine Wv.loop 16 (fun i => (cw G a hd wk (mix i (fun j => wk j ||| tW wk v j) sp) ct ky nm)) (fun i => [(3, .int (nI i)), (0, .ref (a 0)), (1, .int (nI v)), (2, .int (bI false))]) ?_ ?_
  · show Wv p l e _ s m _ below meth c G A _ _ _ _ (cw G a hd wk (mix 16 (fun j => wk j ||| tW wk v j) sp) ct ky nm) 2 [(3, .int (nI 16)), (0, .ref (a 0)), (1, .int (nI v)), (2, .int (bI false))] []
    refine r_iload_n (pc := 2) h 0 d_D_bindWork_2 rfl rfl ?_
    refine r_bipush (pc := 3) h (v := nI 16) d_D_bindWork_3 (by decide) ?_
    refine r_icmp_ge_t (pc := 5) h (tgt := 56) d_D_bindWork_5 (by decide) (nI_le (Nat.le_refl _) (by decide)) ?_
    refine r_aload_n (pc := 56) h 1 d_D_bindWork_56 rfl rfl ?_
    refine r_get (pc := 57) h 0 2 d_D_bindWork_57 cw_0 rfl (by decide) in_D (List.mem_cons_of_mem _ w_44) rfl ?_
    refine r_iconst (pc := 60) h (v := 0) d_D_bindWork_60 (by decide) ?_
    refine r_aload_n (pc := 61) h 1 d_D_bindWork_61 rfl rfl ?_
    refine r_get (pc := 62) h 0 1 d_D_bindWork_62 cw_0 rfl (by decide) in_D (List.mem_cons_of_mem _ w_43) rfl ?_
    refine r_iconst (pc := 65) h (v := 0) d_D_bindWork_65 (by decide) ?_
    refine r_bipush (pc := 66) h (v := nI 16) d_D_bindWork_66 (by decide) ?_
    refine r_copyl (pc := 68) h 3 2 (ws' := (cw G a hd (mix 16 (mix 16 (fun j => wk j ||| tW wk v j) sp) wk) (mix 16 (fun j => wk j ||| tW wk v j) sp) ct ky nm)) 16 d_D_bindWork_68 (List.mem_cons_of_mem _ w_201) (List.mem_cons_of_mem _ w_203) (List.mem_cons_of_mem _ w_202) (List.mem_cons_of_mem _ w_9) cw_3 cw_2 rfl rfl rfl (by decide) (by decide) (by decide) (Nat.le_of_ble_eq_true rfl) (Nat.le_of_ble_eq_true rfl) (by rw [cpy_row]; exact cw_s2) ?_
    exact r_vret (pc := 71) h hr d_D_bindWork_71
  · intro i hi ih
    have ih : Wv p l e _ s m _ below meth c G A _ _ _ _ (cw G a hd wk (mix (i + 1) (fun j => wk j ||| tW wk v j) sp) ct ky nm) 2 [(3, .int (nI (i + 1))), (0, .ref (a 0)), (1, .int (nI v)), (2, .int (bI false))] [] := ih
    show Wv p l e _ s m _ below meth c G A _ _ _ _ (cw G a hd wk (mix i (fun j => wk j ||| tW wk v j) sp) ct ky nm) 2 [(3, .int (nI i)), (0, .ref (a 0)), (1, .int (nI v)), (2, .int (bI false))] []
    refine r_iload_n (pc := 2) h 0 d_D_bindWork_2 rfl rfl ?_
    refine r_bipush (pc := 3) h (v := nI 16) d_D_bindWork_3 (by decide) ?_
    refine r_icmp_ge_f (pc := 5) h (tgt := 56) d_D_bindWork_5 (by decide) (nI_ge hi (by decide)) ?_
    refine r_aload_n (pc := 8) h 1 d_D_bindWork_8 rfl rfl ?_
    refine r_get (pc := 9) h 0 1 d_D_bindWork_9 cw_0 rfl (by decide) in_D (List.mem_cons_of_mem _ w_43) rfl ?_
    refine r_iload_n (pc := 12) h 2 d_D_bindWork_12 rfl rfl ?_
    refine r_iload_n (pc := 13) h 0 d_D_bindWork_13 rfl rfl ?_
    refine r_invSa (pc := 14) h (st := []) d_D_bindWork_14 (c_turnedWord 2 (a 2) v i wk cw_2 hv hi) (r_cS h wc_D_turnedWord w_194 w_1 w_195 hd_D_turnedWord ⟨(Nat.le_of_ble_eq_true rfl), (Nat.le_of_ble_eq_true rfl)⟩ rfl rfl) rfl rfl (Nat.le_of_ble_eq_true rfl) ⟨(Nat.le_of_ble_eq_true rfl), (Nat.le_of_ble_eq_true rfl)⟩ rfl ?_
    refine r_lstore (pc := 17) h (lv' := [(4, .long (tW wk v i)), (3, .int (nI i)), (0, .ref (a 0)), (1, .int (nI v)), (2, .int (bI false))]) d_D_bindWork_17 (by decide) rfl ?_
    refine r_aload_n (pc := 19) h 2 d_D_bindWork_19 rfl rfl ?_
    refine r_get (pc := 20) h 0 2 d_D_bindWork_20 cw_0 rfl (by decide) in_D (List.mem_cons_of_mem _ w_44) rfl ?_
    refine r_iload_n (pc := 23) h 1 d_D_bindWork_23 rfl rfl ?_
    refine r_iload_n (pc := 24) h 4 d_D_bindWork_24 rfl rfl ?_
    refine r_if_eq_t (pc := 25) h (tgt := 40) d_D_bindWork_25 (by decide) rfl ?_
    refine r_aload_n (pc := 40) h 2 d_D_bindWork_40 rfl rfl ?_
    refine r_get (pc := 41) h 0 1 d_D_bindWork_41 cw_0 rfl (by decide) in_D (List.mem_cons_of_mem _ w_43) rfl ?_
    refine r_iload_n (pc := 44) h 1 d_D_bindWork_44 rfl rfl ?_
    refine r_laload (pc := 45) h 2 (z := wk i) i d_D_bindWork_45 cw_2 rfl hi (by decide) rfl ?_
    refine r_lload (pc := 46) h 0 d_D_bindWork_46 rfl ?_
    refine r_lor (pc := 48) h (z := (wk i) ||| (tW wk v i)) d_D_bindWork_48 rfl ?_
    refine r_lastore (pc := 49) h 3 (ws' := (cw G a hd wk (mix (i + 1) (fun j => wk j ||| tW wk v j) sp) ct ky nm)) i d_D_bindWork_49 cw_3 rfl hi (by decide) (by rw [mix_updL i (fun j => wk j ||| tW wk v j) sp]; exact cw_s3) ?_
    refine r_iinc (pc := 50) h (v := nI (i + 1)) (lv' := [(3, .int (nI (i + 1))), (4, .long (tW wk v i)), (0, .ref (a 0)), (1, .int (nI v)), (2, .int (bI false))]) 1 d_D_bindWork_50 rfl (nI_inc i) (by decide) rfl ?_
    refine r_goto (pc := 53) h (tgt := 2) d_D_bindWork_53 (by decide) ?_
    refine Wv.sub [0, 2, 3, 4] rfl ?_
    exact ih
theorem c_isEmptyWork_t (hz : ∀ i, i < 16 → wk i = 0) : Ct l y_D_isEmptyWork (.code y_D_isEmptyWork b_D_isEmptyWork 2 (some .boolean) :: TT) (rmF 0 0) G [.ref (a 0)] (cw G a hd wk sp ct ky nm) (some (.int (bI true))) (cw G a hd wk sp ct ky nm) := by
  refine ct_intro (cc := b_D_isEmptyWork) (nL := 2) (by decide) [(0, .ref (a 0))] rfl (Nat.le_of_ble_eq_true rfl) ?_
  intro p e s m below meth c A h hr
  refine r_iconst (pc := 0) h (v := nI 0) d_D_isEmptyWork_0 (by decide) ?_
  refine r_istore_n (pc := 1) h (lv' := [(1, .int (nI 0)), (0, .ref (a 0))]) d_D_isEmptyWork_1 rfl (by decide) rfl ?_
  refine Wv.loop 16 (fun i => (cw G a hd wk sp ct ky nm)) (fun i => [(1, .int (nI i)), (0, .ref (a 0))]) ?_ ?_
  · show Wv p l e _ s m _ below meth c G A _ _ _ _ (cw G a hd wk sp ct ky nm) 2 [(1, .int (nI 16)), (0, .ref (a 0))] []
    refine r_iload_n (pc := 2) h 0 d_D_isEmptyWork_2 rfl rfl ?_
    refine r_bipush (pc := 3) h (v := nI 16) d_D_isEmptyWork_3 (by decide) ?_
    refine r_icmp_ge_t (pc := 5) h (tgt := 27) d_D_isEmptyWork_5 (by decide) (nI_le (Nat.le_refl _) (by decide)) ?_
    refine r_iconst (pc := 27) h (v := bI true) d_D_isEmptyWork_27 (by decide) ?_
    exact r_zret (pc := 28) h hr (bI_nrw _) d_D_isEmptyWork_28
  · intro i hi ih
    have ih : Wv p l e _ s m _ below meth c G A _ _ _ _ (cw G a hd wk sp ct ky nm) 2 [(1, .int (nI (i + 1))), (0, .ref (a 0))] [] := ih
    show Wv p l e _ s m _ below meth c G A _ _ _ _ (cw G a hd wk sp ct ky nm) 2 [(1, .int (nI i)), (0, .ref (a 0))] []
    refine r_iload_n (pc := 2) h 0 d_D_isEmptyWork_2 rfl rfl ?_
    refine r_bipush (pc := 3) h (v := nI 16) d_D_isEmptyWork_3 (by decide) ?_
    refine r_icmp_ge_f (pc := 5) h (tgt := 27) d_D_isEmptyWork_5 (by decide) (nI_ge hi (by decide)) ?_
    refine r_aload_n (pc := 8) h 1 d_D_isEmptyWork_8 rfl rfl ?_
    refine r_get (pc := 9) h 0 1 d_D_isEmptyWork_9 cw_0 rfl (by decide) in_D (List.mem_cons_of_mem _ w_43) rfl ?_
    refine r_iload_n (pc := 12) h 0 d_D_isEmptyWork_12 rfl rfl ?_
    refine r_laload (pc := 13) h 2 (z := wk i) i d_D_isEmptyWork_13 cw_2 rfl hi (by decide) rfl ?_
    refine r_lconst (pc := 14) h (v := 0) d_D_isEmptyWork_14 (by decide) ?_
    refine r_lcmp (pc := 15) h (z := 0) d_D_isEmptyWork_15 ((lg_0 _ _).mpr (hz i hi)) ?_
    refine r_if_eq_t (pc := 16) h (tgt := 21) d_D_isEmptyWork_16 (by decide) rfl ?_
    refine r_iinc (pc := 21) h (v := nI (i + 1)) (lv' := [(1, .int (nI (i + 1))), (0, .ref (a 0))]) 0 d_D_isEmptyWork_21 rfl (nI_inc i) (by decide) rfl ?_
    refine r_goto (pc := 24) h (tgt := 2) d_D_isEmptyWork_24 (by decide) ?_
    exact ih
theorem c_isEmptyWork_f (n : Nat) (hn16 : n < 16) (hz : ∀ i, i < n → wk i = 0) (hne : wk n ≠ 0) : Ct l y_D_isEmptyWork (.code y_D_isEmptyWork b_D_isEmptyWork 2 (some .boolean) :: TT) (rmF 0 0) G [.ref (a 0)] (cw G a hd wk sp ct ky nm) (some (.int (bI false))) (cw G a hd wk sp ct ky nm) := by
  refine ct_intro (cc := b_D_isEmptyWork) (nL := 2) (by decide) [(0, .ref (a 0))] rfl (Nat.le_of_ble_eq_true rfl) ?_
  intro p e s m below meth c A h hr
  refine r_iconst (pc := 0) h (v := nI 0) d_D_isEmptyWork_0 (by decide) ?_
  refine r_istore_n (pc := 1) h (lv' := [(1, .int (nI 0)), (0, .ref (a 0))]) d_D_isEmptyWork_1 rfl (by decide) rfl ?_
  refine Wv.loop n (fun i => (cw G a hd wk sp ct ky nm)) (fun i => [(1, .int (nI i)), (0, .ref (a 0))]) ?_ ?_
  · show Wv p l e _ s m _ below meth c G A _ _ _ _ (cw G a hd wk sp ct ky nm) 2 [(1, .int (nI n)), (0, .ref (a 0))] []
    refine r_iload_n (pc := 2) h 0 d_D_isEmptyWork_2 rfl rfl ?_
    refine r_bipush (pc := 3) h (v := nI 16) d_D_isEmptyWork_3 (by decide) ?_
    refine r_icmp_ge_f (pc := 5) h (tgt := 27) d_D_isEmptyWork_5 (by decide) (nI_ge hn16 (by decide)) ?_
    refine r_aload_n (pc := 8) h 1 d_D_isEmptyWork_8 rfl rfl ?_
    refine r_get (pc := 9) h 0 1 d_D_isEmptyWork_9 cw_0 rfl (by decide) in_D (List.mem_cons_of_mem _ w_43) rfl ?_
    refine r_iload_n (pc := 12) h 0 d_D_isEmptyWork_12 rfl rfl ?_
    refine r_laload (pc := 13) h 2 (z := wk n) n d_D_isEmptyWork_13 cw_2 rfl hn16 (by decide) rfl ?_
    refine r_lconst (pc := 14) h (v := 0) d_D_isEmptyWork_14 (by decide) ?_
    refine r_lcmp (pc := 15) h (z := lg_cmp (wk n) 0) d_D_isEmptyWork_15 rfl ?_
    refine r_if_eq_f (pc := 16) h (tgt := 21) d_D_isEmptyWork_16 (by decide) (fun z => hne ((lg_0 _ _).mp z)) ?_
    refine r_iconst (pc := 19) h (v := bI false) d_D_isEmptyWork_19 (by decide) ?_
    exact r_zret (pc := 20) h hr (bI_nrw _) d_D_isEmptyWork_20
  · intro i hi ih
    have ih : Wv p l e _ s m _ below meth c G A _ _ _ _ (cw G a hd wk sp ct ky nm) 2 [(1, .int (nI (i + 1))), (0, .ref (a 0))] [] := ih
    show Wv p l e _ s m _ below meth c G A _ _ _ _ (cw G a hd wk sp ct ky nm) 2 [(1, .int (nI i)), (0, .ref (a 0))] []
    refine r_iload_n (pc := 2) h 0 d_D_isEmptyWork_2 rfl rfl ?_
    refine r_bipush (pc := 3) h (v := nI 16) d_D_isEmptyWork_3 (by decide) ?_
    refine r_icmp_ge_f (pc := 5) h (tgt := 27) d_D_isEmptyWork_5 (by decide) (nI_ge (Nat.lt_trans hi hn16) (by decide)) ?_
    refine r_aload_n (pc := 8) h 1 d_D_isEmptyWork_8 rfl rfl ?_
    refine r_get (pc := 9) h 0 1 d_D_isEmptyWork_9 cw_0 rfl (by decide) in_D (List.mem_cons_of_mem _ w_43) rfl ?_
    refine r_iload_n (pc := 12) h 0 d_D_isEmptyWork_12 rfl rfl ?_
    refine r_laload (pc := 13) h 2 (z := wk i) i d_D_isEmptyWork_13 cw_2 rfl (Nat.lt_trans hi hn16) (by decide) rfl ?_
    refine r_lconst (pc := 14) h (v := 0) d_D_isEmptyWork_14 (by decide) ?_
    refine r_lcmp (pc := 15) h (z := 0) d_D_isEmptyWork_15 ((lg_0 _ _).mpr (hz i hi)) ?_
    refine r_if_eq_t (pc := 16) h (tgt := 21) d_D_isEmptyWork_16 (by decide) rfl ?_
    refine r_iinc (pc := 21) h (v := nI (i + 1)) (lv' := [(1, .int (nI (i + 1))), (0, .ref (a 0))]) 0 d_D_isEmptyWork_21 rfl (nI_inc i) (by decide) rfl ?_
    refine r_goto (pc := 24) h (tgt := 2) d_D_isEmptyWork_24 (by decide) ?_
    exact ih
end CP
