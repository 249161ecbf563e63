-- the reference: small methods, and those that write
/-- outside of 0 .. n - 1 -/
def noR (n : Nat) (x : Int32) : Prop := x < 0 ∨ nI n ≤ x
/-- one of 0 .. n - 1 -/
def okR (n : Nat) (x : Int32) : Prop := ∃ j : Nat, j < n ∧ x = nI j
theorem bI_1 (b : Bool) : bI b = nI 1 ↔ b = true := by cases b <;> decide
theorem bI_T {b : Bool} (h : ¬ bI b = 0) : b = true := by
  cases b
  · exact absurd ((bI_0 _).mpr rfl) h
  · rfl
theorem bI_F {b : Bool} (h : bI b = 0) : b = false := (bI_0 b).mp h
theorem cpy_z (f g : Nat → Bool) : va_cpy (fun x => bI (f x)) (fun x => bI (g x)) 0 0 1024 = fun x => bI (mix 1024 f g x) := by
  funext j
  unfold va_cpy mix
  by_cases h : j < 1024 <;> simp [h]
theorem i32_nle {x y : Int32} (h : ¬ x ≤ y) : y < x := by
  rw [Int32.le_iff_toInt_le] at h
  rw [Int32.lt_iff_toInt_lt]
  omega
section MS
variable {l : Launch} {G : gG} {ws : va_W}
theorem c_none_f (r : Nat) (hr0 : r < 16) : Ct l y_M_none (.code y_M_none b_M_none 1 (some .boolean) :: TT) (rmF 0 0) G [.int (nI r)] ws (some (.int (bI false))) ws := by
  refine ct_intro (cc := b_M_none) (nL := 1) (by decide) [(0, .int (nI r))] rfl (Nat.le_of_ble_eq_true rfl) ?_
  intro p e s m below meth c A h hr
  refine r_iload_n (pc := 0) h 0 d_M_none_0 rfl rfl ?_
  refine r_if_lt_f (pc := 1) h (tgt := 10) d_M_none_1 (by decide) (nI_pos (by omega)) ?_
  refine r_iload_n (pc := 4) h 0 d_M_none_4 rfl rfl ?_
  refine r_bipush (pc := 5) h (v := nI 15) d_M_none_5 (by decide) ?_
  refine r_icmp_le_t (pc := 7) h (tgt := 14) d_M_none_7 (by decide) (nI_le (by omega) (by decide)) ?_
  refine r_iconst (pc := 14) h (v := bI false) d_M_none_14 (by decide) ?_
  exact r_zret (pc := 15) h hr (bI_nrw _) d_M_none_15
theorem c_none_t (x : Int32) (hx : noR 16 x) : Ct l y_M_none (.code y_M_none b_M_none 1 (some .boolean) :: TT) (rmF 0 0) G [.int x] ws (some (.int (bI true))) ws := by
  refine ct_intro (cc := b_M_none) (nL := 1) (by decide) [(0, .int x)] rfl (Nat.le_of_ble_eq_true rfl) ?_
  intro p e s m below meth c A h hr
  refine r_iload_n (pc := 0) h 0 d_M_none_0 rfl rfl ?_
  refine r_if_lt (pc := 1) h (tgt := 10) d_M_none_1 (by decide) (fun q1 => ?_) (fun q1 => ?_)
  · refine r_iconst (pc := 10) h (v := bI true) d_M_none_10 (by decide) ?_
    refine r_goto (pc := 11) h (tgt := 15) d_M_none_11 (by decide) ?_
    exact r_zret (pc := 15) h hr (bI_nrw _) d_M_none_15
  · refine r_iload_n (pc := 4) h 0 d_M_none_4 rfl rfl ?_
    refine r_bipush (pc := 5) h (v := nI 15) d_M_none_5 (by decide) ?_
    refine r_icmp_le_f (pc := 7) h (tgt := 14) d_M_none_7 (by decide) (hx.elim (fun z => absurd z q1) (fun z => fun q => absurd (Int32.le_iff_toInt_le.mp z) (by have h9 := Int32.le_iff_toInt_le.mp q; rw [nI_toInt (by decide)] at h9 ⊢; omega))) ?_
    refine r_iconst (pc := 10) h (v := bI true) d_M_none_10 (by decide) ?_
    refine r_goto (pc := 11) h (tgt := 15) d_M_none_11 (by decide) ?_
    exact r_zret (pc := 15) h hr (bI_nrw _) d_M_none_15
theorem c_outside_f (r : Nat) (hr0 : r < 10) : Ct l y_M_outside (.code y_M_outside b_M_outside 1 (some .boolean) :: TT) (rmF 0 0) G [.int (nI r)] ws (some (.int (bI false))) ws := by
  refine ct_intro (cc := b_M_outside) (nL := 1) (by decide) [(0, .int (nI r))] rfl (Nat.le_of_ble_eq_true rfl) ?_
  intro p e s m below meth c A h hr
  refine r_iload_n (pc := 0) h 0 d_M_outside_0 rfl rfl ?_
  refine r_if_lt_f (pc := 1) h (tgt := 10) d_M_outside_1 (by decide) (nI_pos (by omega)) ?_
  refine r_iload_n (pc := 4) h 0 d_M_outside_4 rfl rfl ?_
  refine r_bipush (pc := 5) h (v := nI 9) d_M_outside_5 (by decide) ?_
  refine r_icmp_le_t (pc := 7) h (tgt := 14) d_M_outside_7 (by decide) (nI_le (by omega) (by decide)) ?_
  refine r_iconst (pc := 14) h (v := bI false) d_M_outside_14 (by decide) ?_
  exact r_zret (pc := 15) h hr (bI_nrw _) d_M_outside_15
theorem c_outside_t (x : Int32) (hx : noR 10 x) : Ct l y_M_outside (.code y_M_outside b_M_outside 1 (some .boolean) :: TT) (rmF 0 0) G [.int x] ws (some (.int (bI true))) ws := by
  refine ct_intro (cc := b_M_outside) (nL := 1) (by decide) [(0, .int x)] rfl (Nat.le_of_ble_eq_true rfl) ?_
  intro p e s m below meth c A h hr
  refine r_iload_n (pc := 0) h 0 d_M_outside_0 rfl rfl ?_
  refine r_if_lt (pc := 1) h (tgt := 10) d_M_outside_1 (by decide) (fun q1 => ?_) (fun q1 => ?_)
  · refine r_iconst (pc := 10) h (v := bI true) d_M_outside_10 (by decide) ?_
    refine r_goto (pc := 11) h (tgt := 15) d_M_outside_11 (by decide) ?_
    exact r_zret (pc := 15) h hr (bI_nrw _) d_M_outside_15
  · refine r_iload_n (pc := 4) h 0 d_M_outside_4 rfl rfl ?_
    refine r_bipush (pc := 5) h (v := nI 9) d_M_outside_5 (by decide) ?_
    refine r_icmp_le_f (pc := 7) h (tgt := 14) d_M_outside_7 (by decide) (hx.elim (fun z => absurd z q1) (fun z => fun q => absurd (Int32.le_iff_toInt_le.mp z) (by have h9 := Int32.le_iff_toInt_le.mp q; rw [nI_toInt (by decide)] at h9 ⊢; omega))) ?_
    refine r_iconst (pc := 10) h (v := bI true) d_M_outside_10 (by decide) ?_
    refine r_goto (pc := 11) h (tgt := 15) d_M_outside_11 (by decide) ?_
    exact r_zret (pc := 15) h hr (bI_nrw _) d_M_outside_15
theorem c_beyond_f (r : Nat) (hr0 : r < 1024) : Ct l y_M_beyond (.code y_M_beyond b_M_beyond 1 (some .boolean) :: TT) (rmF 0 0) G [.int (nI r)] ws (some (.int (bI false))) ws := by
  refine ct_intro (cc := b_M_beyond) (nL := 1) (by decide) [(0, .int (nI r))] rfl (Nat.le_of_ble_eq_true rfl) ?_
  intro p e s m below meth c A h hr
  refine r_iload_n (pc := 0) h 0 d_M_beyond_0 rfl rfl ?_
  refine r_if_lt_f (pc := 1) h (tgt := 11) d_M_beyond_1 (by decide) (nI_pos (by omega)) ?_
  refine r_iload_n (pc := 4) h 0 d_M_beyond_4 rfl rfl ?_
  refine r_sipush (pc := 5) h (v := nI 1024) d_M_beyond_5 (by decide) ?_
  refine r_icmp_lt_t (pc := 8) h (tgt := 15) d_M_beyond_8 (by decide) (nI_lt hr0 (by decide)) ?_
  refine r_iconst (pc := 15) h (v := bI false) d_M_beyond_15 (by decide) ?_
  exact r_zret (pc := 16) h hr (bI_nrw _) d_M_beyond_16
theorem c_beyond_t (x : Int32) (hx : noR 1024 x) : Ct l y_M_beyond (.code y_M_beyond b_M_beyond 1 (some .boolean) :: TT) (rmF 0 0) G [.int x] ws (some (.int (bI true))) ws := by
  refine ct_intro (cc := b_M_beyond) (nL := 1) (by decide) [(0, .int x)] rfl (Nat.le_of_ble_eq_true rfl) ?_
  intro p e s m below meth c A h hr
  refine r_iload_n (pc := 0) h 0 d_M_beyond_0 rfl rfl ?_
  refine r_if_lt (pc := 1) h (tgt := 11) d_M_beyond_1 (by decide) (fun q1 => ?_) (fun q1 => ?_)
  · refine r_iconst (pc := 11) h (v := bI true) d_M_beyond_11 (by decide) ?_
    refine r_goto (pc := 12) h (tgt := 16) d_M_beyond_12 (by decide) ?_
    exact r_zret (pc := 16) h hr (bI_nrw _) d_M_beyond_16
  · refine r_iload_n (pc := 4) h 0 d_M_beyond_4 rfl rfl ?_
    refine r_sipush (pc := 5) h (v := nI 1024) d_M_beyond_5 (by decide) ?_
    refine r_icmp_lt_f (pc := 8) h (tgt := 15) d_M_beyond_8 (by decide) (hx.elim (fun z => absurd z q1) (fun z => by rw [Int32.not_lt]; exact z)) ?_
    refine r_iconst (pc := 11) h (v := bI true) d_M_beyond_11 (by decide) ?_
    refine r_goto (pc := 12) h (tgt := 16) d_M_beyond_12 (by decide) ?_
    exact r_zret (pc := 16) h hr (bI_nrw _) d_M_beyond_16
end MS
section MP
variable {l : Launch} {G : gG} {b : Nat → Nat} {th : Int32} {rg : Nat → Nat → Bool} {wk : Nat → Bool} {fi fa : Nat → Int32}
theorem c_thrown  : Ct l y_M_thrown (.code y_M_thrown b_M_thrown 1 (some .int) :: TT) (rmF 0 0) G [.ref (b 0)] (mw G b th rg wk fi fa) (some (.int th)) (mw G b th rg wk fi fa) := by
  refine ct_intro (cc := b_M_thrown) (nL := 1) (by decide) [(0, .ref (b 0))] rfl (Nat.le_of_ble_eq_true rfl) ?_
  intro p e s m below meth c A h hr
  refine r_aload_n (pc := 0) h 0 d_M_thrown_0 rfl rfl ?_
  refine r_get (pc := 1) h 0 0 d_M_thrown_1 mw_0 rfl (by decide) in_M (List.mem_cons_of_mem _ w_353) rfl ?_
  exact r_iret (pc := 4) h hr d_M_thrown_4
theorem c_bad_true  : Ct l y_M_bad (.code y_M_bad b_M_bad 2 (some .boolean) :: TT) (rmF 0 0) G [.ref (b 0), .int (bI true)] (mw G b th rg wk fi fa) (some (.int (bI true))) (mw G b (bI true) rg wk fi fa) := by
  refine ct_intro (cc := b_M_bad) (nL := 2) (by decide) [(0, .ref (b 0)), (1, .int (bI true))] rfl (Nat.le_of_ble_eq_true rfl) ?_
  intro p e s m below meth c A h hr
  refine r_aload_n (pc := 0) h 0 d_M_bad_0 rfl rfl ?_
  refine r_iload_n (pc := 1) h 1 d_M_bad_1 rfl rfl ?_
  refine r_if_eq_f (pc := 2) h (tgt := 9) d_M_bad_2 (by decide) (by decide) ?_
  refine r_iconst (pc := 5) h (v := bI true) d_M_bad_5 (by decide) ?_
  refine r_goto (pc := 6) h (tgt := 10) d_M_bad_6 (by decide) ?_
  refine r_put (pc := 10) h 0 0 (ty := .int) (ws' := (mw G b (bI true) rg wk fi fa)) t_M t_M_ok n_M d_M_bad_10 mw_0 rfl (by decide) in_M (List.mem_cons_of_mem _ w_353) rfl (by decide +kernel) rfl rfl (Nat.le_of_ble_eq_true rfl) mw_s0 ?_
  refine r_iload_n (pc := 13) h 1 d_M_bad_13 rfl rfl ?_
  exact r_zret (pc := 14) h hr (bI_nrw _) d_M_bad_14
theorem c_bad_false  : Ct l y_M_bad (.code y_M_bad b_M_bad 2 (some .boolean) :: TT) (rmF 0 0) G [.ref (b 0), .int (bI false)] (mw G b th rg wk fi fa) (some (.int (bI false))) (mw G b (bI false) rg wk fi fa) := by
  refine ct_intro (cc := b_M_bad) (nL := 2) (by decide) [(0, .ref (b 0)), (1, .int (bI false))] rfl (Nat.le_of_ble_eq_true rfl) ?_
  intro p e s m below meth c A h hr
  refine r_aload_n (pc := 0) h 0 d_M_bad_0 rfl rfl ?_
  refine r_iload_n (pc := 1) h 1 d_M_bad_1 rfl rfl ?_
  refine r_if_eq_t (pc := 2) h (tgt := 9) d_M_bad_2 (by decide) rfl ?_
  refine r_iconst (pc := 9) h (v := bI false) d_M_bad_9 (by decide) ?_
  refine r_put (pc := 10) h 0 0 (ty := .int) (ws' := (mw G b (bI false) rg wk fi fa)) t_M t_M_ok n_M d_M_bad_10 mw_0 rfl (by decide) in_M (List.mem_cons_of_mem _ w_353) rfl (by decide +kernel) rfl rfl (Nat.le_of_ble_eq_true rfl) mw_s0 ?_
  refine r_iload_n (pc := 13) h 1 d_M_bad_13 rfl rfl ?_
  exact r_zret (pc := 14) h hr (bI_nrw _) d_M_bad_14
theorem c_keep (t : Nat) (ht : t < 16) : Ct l y_M_keep (.code y_M_keep b_M_keep 2 none :: TT) (rmF 1 40) G [.ref (b 0), .int (nI t)] (mw G b th rg wk fi fa) none (mw G b th (va_up rg t (mix 1024 wk (rg t))) wk fi fa) := by
  refine ct_intro (cc := b_M_keep) (nL := 2) (by decide) [(0, .ref (b 0)), (1, .int (nI t))] rfl (Nat.le_of_ble_eq_true rfl) ?_
  intro p e s m below meth c A h hr
  refine r_aload_n (pc := 0) h 0 d_M_keep_0 rfl rfl ?_
  refine r_get (pc := 1) h 0 2 d_M_keep_1 mw_0 rfl (by decide) in_M (List.mem_cons_of_mem _ w_355) rfl ?_
  refine r_iconst (pc := 4) h (v := 0) d_M_keep_4 (by decide) ?_
  refine r_aload_n (pc := 5) h 0 d_M_keep_5 rfl rfl ?_
  refine r_get (pc := 6) h 0 1 d_M_keep_6 mw_0 rfl (by decide) in_M (List.mem_cons_of_mem _ w_354) rfl ?_
  refine r_iload_n (pc := 9) h 1 d_M_keep_9 rfl rfl ?_
  refine r_aaload (pc := 10) h 1 4 t d_M_keep_10 mw_1 rfl rfl rfl ht (by decide) (mw_o ht) ?_
  refine r_iconst (pc := 11) h (v := 0) d_M_keep_11 (by decide) ?_
  refine r_sipush (pc := 12) h (v := nI 1024) d_M_keep_12 (by decide) ?_
  refine r_copyz (pc := 15) h 2 (5 + t) (ws' := (mw G b th (va_up rg t (mix 1024 wk (rg t))) wk fi fa)) 1024 d_M_keep_15 (List.mem_cons_of_mem _ w_403) (List.mem_cons_of_mem _ w_203) (List.mem_cons_of_mem _ w_202) (List.mem_cons_of_mem _ w_9) mw_2 (mw_r ht) rfl rfl rfl (by decide) (by decide) (by decide) (fun i _ => bI_fit _) (Nat.le_of_ble_eq_true rfl) (Nat.le_of_ble_eq_true rfl) (by rw [cpy_z]; exact mw_sr) ?_
  exact r_vret (pc := 18) h hr d_M_keep_18
theorem mw_st {t i : Nat} {g : Nat → Bool} : (mw G b th (va_up rg t (mix i g (rg t))) wk fi fa).set (5 + t) (b (5 + t), .inl (G.2 2, 1024, .inl (upd (fun x => bI (va_up rg t (mix i g (rg t)) t x)) i (bI (g i))))) = mw G b th (va_up rg t (mix (i + 1) g (rg t))) wk fi fa := by
  rw [upd_b]
  refine mw_sr.trans ?_
  rw [va_up_s, mix_up, va_up2]
theorem mw_en {t : Nat} {g : Nat → Bool} : mw G b th rg wk fi fa = mw G b th (va_up rg t (mix 0 g (rg t))) wk fi fa := by rw [mix_0, va_up_id]
theorem m_variable (t : Nat) (ht : t < 16) (v : Nat) (hv : v < 10) : Ct l y_M_variable (.code y_M_variable b_M_variable 4 none :: TT) (rmF 1 21) G [.ref (b 0), .int (nI t), .int (nI v)] (mw G b th rg wk fi fa) none (mw G b (bI false) (va_up rg t (mix 1024 (fun x => x.testBit v) (rg t))) wk fi fa) := by
  refine ct_intro (cc := b_M_variable) (nL := 4) (by decide) [(0, .ref (b 0)), (1, .int (nI t)), (2, .int (nI v))] rfl (Nat.le_of_ble_eq_true rfl) ?_
  intro p e s m below meth c A h hr
  refine r_aload_n (pc := 0) h 0 d_M_variable_0 rfl rfl ?_
  refine r_iload_n (pc := 1) h 1 d_M_variable_1 rfl rfl ?_
  refine r_invSa (pc := 2) h (st := [.ref (b 0)]) d_M_variable_2 (c_none_f t ht) (r_cS h wc_M_none w_378 w_3 w_379 hd_M_none ⟨(Nat.le_of_ble_eq_true rfl), (Nat.le_of_ble_eq_true rfl)⟩ rfl rfl) rfl rfl (Nat.le_of_ble_eq_true rfl) ⟨(Nat.le_of_ble_eq_true rfl), (Nat.le_of_ble_eq_true rfl)⟩ rfl ?_
  refine r_if_ne_f (pc := 5) h (tgt := 15) d_M_variable_5 (by decide) rfl ?_
  refine r_iload_n (pc := 8) h 2 d_M_variable_8 rfl rfl ?_
  refine r_invSa (pc := 9) h (st := [.ref (b 0)]) d_M_variable_9 (c_outside_f v hv) (r_cS h wc_M_outside w_381 w_3 w_382 hd_M_outside ⟨(Nat.le_of_ble_eq_true rfl), (Nat.le_of_ble_eq_true rfl)⟩ rfl rfl) rfl rfl (Nat.le_of_ble_eq_true rfl) ⟨(Nat.le_of_ble_eq_true rfl), (Nat.le_of_ble_eq_true rfl)⟩ rfl ?_
  refine r_if_eq_t (pc := 12) h (tgt := 19) d_M_variable_12 (by decide) rfl ?_
  refine r_iconst (pc := 19) h (v := bI false) d_M_variable_19 (by decide) ?_
  refine r_invVa (pc := 20) h 0 (st := []) d_M_variable_20 c_bad_false (r_cV h wc_M_bad w_384 w_3 w_386 (TT_se (q := (y_M_bad, 5)) 10 rfl) hd_M_bad ⟨(Nat.le_of_ble_eq_true rfl), (Nat.le_of_ble_eq_true rfl)⟩ rfl rfl) mw_0 rfl rfl rfl (Nat.le_of_ble_eq_true rfl) ⟨(Nat.le_of_ble_eq_true rfl), (Nat.le_of_ble_eq_true rfl)⟩ mw_adr ?_
  refine r_if_eq_t (pc := 23) h (tgt := 27) d_M_variable_23 (by decide) rfl ?_
  refine r_iconst (pc := 27) h (v := nI 0) d_M_variable_27 (by decide) ?_
  refine r_istore_n (pc := 28) h (lv' := [(3, .int (nI 0)), (0, .ref (b 0)), (1, .int (nI t)), (2, .int (nI v))]) d_M_variable_28 rfl (by decide) rfl ?_
  refine Wv.wld (ws' := (mw G b (bI false) (va_up rg t (mix 0 (fun x => x.testBit v) (rg t))) wk fi fa)) mw_en ?_
  refine Wv.loop 1024 (fun i => (mw G b (bI false) (va_up rg t (mix i (fun x => x.testBit v) (rg t))) wk fi fa)) (fun i => [(3, .int (nI i)), (0, .ref (b 0)), (1, .int (nI t)), (2, .int (nI v))]) ?_ ?_
  · show Wv p l e _ s m _ below meth c G A _ _ _ _ (mw G b (bI false) (va_up rg t (mix 1024 (fun x => x.testBit v) (rg t))) wk fi fa) 29 [(3, .int (nI 1024)), (0, .ref (b 0)), (1, .int (nI t)), (2, .int (nI v))] []
    refine r_iload_n (pc := 29) h 0 d_M_variable_29 rfl rfl ?_
    refine r_sipush (pc := 30) h (v := nI 1024) d_M_variable_30 (by decide) ?_
    refine r_icmp_ge_t (pc := 33) h (tgt := 64) d_M_variable_33 (by decide) (nI_le (Nat.le_refl _) (by decide)) ?_
    exact r_vret (pc := 64) h hr d_M_variable_64
  · intro i hi ih
    have ih : Wv p l e _ s m _ below meth c G A _ _ _ _ (mw G b (bI false) (va_up rg t (mix (i + 1) (fun x => x.testBit v) (rg t))) wk fi fa) 29 [(3, .int (nI (i + 1))), (0, .ref (b 0)), (1, .int (nI t)), (2, .int (nI v))] [] := ih
    show Wv p l e _ s m _ below meth c G A _ _ _ _ (mw G b (bI false) (va_up rg t (mix i (fun x => x.testBit v) (rg t))) wk fi fa) 29 [(3, .int (nI i)), (0, .ref (b 0)), (1, .int (nI t)), (2, .int (nI v))] []
    refine r_iload_n (pc := 29) h 0 d_M_variable_29 rfl rfl ?_
    refine r_sipush (pc := 30) h (v := nI 1024) d_M_variable_30 (by decide) ?_
    refine r_icmp_ge_f (pc := 33) h (tgt := 64) d_M_variable_33 (by decide) (nI_ge hi (by decide)) ?_
    refine r_aload_n (pc := 36) h 1 d_M_variable_36 rfl rfl ?_
    refine r_get (pc := 37) h 0 1 d_M_variable_37 mw_0 rfl (by decide) in_M (List.mem_cons_of_mem _ w_354) rfl ?_
    refine r_iload_n (pc := 40) h 2 d_M_variable_40 rfl rfl ?_
    refine r_aaload (pc := 41) h 1 4 t d_M_variable_41 mw_1 rfl rfl rfl ht (by decide) (mw_o ht) ?_
    refine r_iload_n (pc := 42) h 0 d_M_variable_42 rfl rfl ?_
    refine r_iload_n (pc := 43) h 0 d_M_variable_43 rfl rfl ?_
    refine r_iload_n (pc := 44) h 3 d_M_variable_44 rfl rfl ?_
    refine r_ishr (pc := 45) h (z := (nI i) >>> ((nI v) &&& 31)) d_M_variable_45 rfl ?_
    refine r_iconst (pc := 46) h (v := nI 1) d_M_variable_46 (by decide) ?_
    refine r_iand (pc := 47) h (z := bI (i.testBit v)) d_M_variable_47 (nx_bit (by omega) (by omega)) ?_
    refine r_iconst (pc := 48) h (v := nI 1) d_M_variable_48 (by decide) ?_
    refine r_icmp_ne (pc := 49) h (tgt := 56) d_M_variable_49 (by decide) (fun q49 => ?_) (fun q49 => ?_)
    · refine r_iconst (pc := 56) h (v := bI (i.testBit v)) d_M_variable_56 (by cases h9 : i.testBit v; decide; exact absurd ((bI_1 _).mpr h9) q49) ?_
      refine r_bastore (pc := 57) h (5 + t) (ws' := (mw G b (bI false) (va_up rg t (mix (i + 1) (fun x => x.testBit v) (rg t))) wk fi fa)) i d_M_variable_57 (mw_r ht) rfl hi (by decide) (bI_nar _) (mw_st (g := (fun x => x.testBit v))) ?_
      refine r_iinc (pc := 58) h (v := nI (i + 1)) (lv' := [(3, .int (nI (i + 1))), (0, .ref (b 0)), (1, .int (nI t)), (2, .int (nI v))]) 0 d_M_variable_58 rfl (nI_inc i) (by decide) rfl ?_
      refine r_goto (pc := 61) h (tgt := 29) d_M_variable_61 (by decide) ?_
      exact ih
    · refine r_iconst (pc := 52) h (v := bI (i.testBit v)) d_M_variable_52 (by rw [(bI_1 _).mp q49]; decide) ?_
      refine r_goto (pc := 53) h (tgt := 57) d_M_variable_53 (by decide) ?_
      refine r_bastore (pc := 57) h (5 + t) (ws' := (mw G b (bI false) (va_up rg t (mix (i + 1) (fun x => x.testBit v) (rg t))) wk fi fa)) i d_M_variable_57 (mw_r ht) rfl hi (by decide) (bI_nar _) (mw_st (g := (fun x => x.testBit v))) ?_
      refine r_iinc (pc := 58) h (v := nI (i + 1)) (lv' := [(3, .int (nI (i + 1))), (0, .ref (b 0)), (1, .int (nI t)), (2, .int (nI v))]) 0 d_M_variable_58 rfl (nI_inc i) (by decide) rfl ?_
      refine r_goto (pc := 61) h (tgt := 29) d_M_variable_61 (by decide) ?_
      exact ih
theorem x_variable (t v : Int32)  (hB : ¬ (okR 16 t ∧ okR 10 v)) : Ct l y_M_variable (.code y_M_variable b_M_variable 4 none :: TT) (rmF 1 21) G [.ref (b 0), .int t, .int v] (mw G b th rg wk fi fa) none (mw G b (bI true) rg wk fi fa) := by
  refine ct_intro (cc := b_M_variable) (nL := 4) (by decide) [(0, .ref (b 0)), (1, .int t), (2, .int v)] rfl (Nat.le_of_ble_eq_true rfl) ?_
  intro p e s m below meth c A h hr
  refine r_aload_n (pc := 0) h 0 d_M_variable_0 rfl rfl ?_
  refine r_iload_n (pc := 1) h 1 d_M_variable_1 rfl rfl ?_
  rcases pk_ix t (n := 16) (by decide) with hN | hN | ⟨j2, hj2, hN2⟩
  · refine r_invSa (pc := 2) h (st := [.ref (b 0)]) d_M_variable_2 (c_none_t t (Or.inl hN)) (r_cS h wc_M_none w_378 w_3 w_379 hd_M_none ⟨(Nat.le_of_ble_eq_true rfl), (Nat.le_of_ble_eq_true rfl)⟩ rfl rfl) rfl rfl (Nat.le_of_ble_eq_true rfl) ⟨(Nat.le_of_ble_eq_true rfl), (Nat.le_of_ble_eq_true rfl)⟩ rfl ?_
    refine r_if_ne_t (pc := 5) h (tgt := 15) d_M_variable_5 (by decide) (by decide) ?_
    refine r_iconst (pc := 15) h (v := bI true) d_M_variable_15 (by decide) ?_
    refine r_goto (pc := 16) h (tgt := 20) d_M_variable_16 (by decide) ?_
    refine r_invVa (pc := 20) h 0 (st := []) d_M_variable_20 c_bad_true (r_cV h wc_M_bad w_384 w_3 w_386 (TT_se (q := (y_M_bad, 5)) 10 rfl) hd_M_bad ⟨(Nat.le_of_ble_eq_true rfl), (Nat.le_of_ble_eq_true rfl)⟩ rfl rfl) mw_0 rfl rfl rfl (Nat.le_of_ble_eq_true rfl) ⟨(Nat.le_of_ble_eq_true rfl), (Nat.le_of_ble_eq_true rfl)⟩ mw_adr ?_
    refine r_if_eq_f (pc := 23) h (tgt := 27) d_M_variable_23 (by decide) (by decide) ?_
    exact r_vret (pc := 26) h hr d_M_variable_26
  · refine r_invSa (pc := 2) h (st := [.ref (b 0)]) d_M_variable_2 (c_none_t t (Or.inr hN)) (r_cS h wc_M_none w_378 w_3 w_379 hd_M_none ⟨(Nat.le_of_ble_eq_true rfl), (Nat.le_of_ble_eq_true rfl)⟩ rfl rfl) rfl rfl (Nat.le_of_ble_eq_true rfl) ⟨(Nat.le_of_ble_eq_true rfl), (Nat.le_of_ble_eq_true rfl)⟩ rfl ?_
    refine r_if_ne_t (pc := 5) h (tgt := 15) d_M_variable_5 (by decide) (by decide) ?_
    refine r_iconst (pc := 15) h (v := bI true) d_M_variable_15 (by decide) ?_
    refine r_goto (pc := 16) h (tgt := 20) d_M_variable_16 (by decide) ?_
    refine r_invVa (pc := 20) h 0 (st := []) d_M_variable_20 c_bad_true (r_cV h wc_M_bad w_384 w_3 w_386 (TT_se (q := (y_M_bad, 5)) 10 rfl) hd_M_bad ⟨(Nat.le_of_ble_eq_true rfl), (Nat.le_of_ble_eq_true rfl)⟩ rfl rfl) mw_0 rfl rfl rfl (Nat.le_of_ble_eq_true rfl) ⟨(Nat.le_of_ble_eq_true rfl), (Nat.le_of_ble_eq_true rfl)⟩ mw_adr ?_
    refine r_if_eq_f (pc := 23) h (tgt := 27) d_M_variable_23 (by decide) (by decide) ?_
    exact r_vret (pc := 26) h hr d_M_variable_26
  · subst hN2
    refine r_invSa (pc := 2) h (st := [.ref (b 0)]) d_M_variable_2 (c_none_f j2 hj2) (r_cS h wc_M_none w_378 w_3 w_379 hd_M_none ⟨(Nat.le_of_ble_eq_true rfl), (Nat.le_of_ble_eq_true rfl)⟩ rfl rfl) rfl rfl (Nat.le_of_ble_eq_true rfl) ⟨(Nat.le_of_ble_eq_true rfl), (Nat.le_of_ble_eq_true rfl)⟩ rfl ?_
    refine r_if_ne_f (pc := 5) h (tgt := 15) d_M_variable_5 (by decide) rfl ?_
    refine r_iload_n (pc := 8) h 2 d_M_variable_8 rfl rfl ?_
    rcases pk_ix v (n := 10) (by decide) with hN | hN | ⟨j9, hj9, hN9⟩
    · refine r_invSa (pc := 9) h (st := [.ref (b 0)]) d_M_variable_9 (c_outside_t v (Or.inl hN)) (r_cS h wc_M_outside w_381 w_3 w_382 hd_M_outside ⟨(Nat.le_of_ble_eq_true rfl), (Nat.le_of_ble_eq_true rfl)⟩ rfl rfl) rfl rfl (Nat.le_of_ble_eq_true rfl) ⟨(Nat.le_of_ble_eq_true rfl), (Nat.le_of_ble_eq_true rfl)⟩ rfl ?_
      refine r_if_eq_f (pc := 12) h (tgt := 19) d_M_variable_12 (by decide) (by decide) ?_
      refine r_iconst (pc := 15) h (v := bI true) d_M_variable_15 (by decide) ?_
      refine r_goto (pc := 16) h (tgt := 20) d_M_variable_16 (by decide) ?_
      refine r_invVa (pc := 20) h 0 (st := []) d_M_variable_20 c_bad_true (r_cV h wc_M_bad w_384 w_3 w_386 (TT_se (q := (y_M_bad, 5)) 10 rfl) hd_M_bad ⟨(Nat.le_of_ble_eq_true rfl), (Nat.le_of_ble_eq_true rfl)⟩ rfl rfl) mw_0 rfl rfl rfl (Nat.le_of_ble_eq_true rfl) ⟨(Nat.le_of_ble_eq_true rfl), (Nat.le_of_ble_eq_true rfl)⟩ mw_adr ?_
      refine r_if_eq_f (pc := 23) h (tgt := 27) d_M_variable_23 (by decide) (by decide) ?_
      exact r_vret (pc := 26) h hr d_M_variable_26
    · refine r_invSa (pc := 9) h (st := [.ref (b 0)]) d_M_variable_9 (c_outside_t v (Or.inr hN)) (r_cS h wc_M_outside w_381 w_3 w_382 hd_M_outside ⟨(Nat.le_of_ble_eq_true rfl), (Nat.le_of_ble_eq_true rfl)⟩ rfl rfl) rfl rfl (Nat.le_of_ble_eq_true rfl) ⟨(Nat.le_of_ble_eq_true rfl), (Nat.le_of_ble_eq_true rfl)⟩ rfl ?_
      refine r_if_eq_f (pc := 12) h (tgt := 19) d_M_variable_12 (by decide) (by decide) ?_
      refine r_iconst (pc := 15) h (v := bI true) d_M_variable_15 (by decide) ?_
      refine r_goto (pc := 16) h (tgt := 20) d_M_variable_16 (by decide) ?_
      refine r_invVa (pc := 20) h 0 (st := []) d_M_variable_20 c_bad_true (r_cV h wc_M_bad w_384 w_3 w_386 (TT_se (q := (y_M_bad, 5)) 10 rfl) hd_M_bad ⟨(Nat.le_of_ble_eq_true rfl), (Nat.le_of_ble_eq_true rfl)⟩ rfl rfl) mw_0 rfl rfl rfl (Nat.le_of_ble_eq_true rfl) ⟨(Nat.le_of_ble_eq_true rfl), (Nat.le_of_ble_eq_true rfl)⟩ mw_adr ?_
      refine r_if_eq_f (pc := 23) h (tgt := 27) d_M_variable_23 (by decide) (by decide) ?_
      exact r_vret (pc := 26) h hr d_M_variable_26
    · exfalso
      exact hB ⟨⟨j2, hj2, rfl⟩, ⟨j9, hj9, hN9⟩⟩
noncomputable def eqB (x : Nat) (y : Nat) : Bool := bD (y = x)
theorem m_only (t : Nat) (ht : t < 16) (x : Nat) (hx : x < 1024) : Ct l y_M_only (.code y_M_only b_M_only 4 none :: TT) (rmF 1 21) G [.ref (b 0), .int (nI t), .int (nI x)] (mw G b th rg wk fi fa) none (mw G b (bI false) (va_up rg t (mix 1024 (eqB x) (rg t))) wk fi fa) := by
  refine ct_intro (cc := b_M_only) (nL := 4) (by decide) [(0, .ref (b 0)), (1, .int (nI t)), (2, .int (nI x))] rfl (Nat.le_of_ble_eq_true rfl) ?_
  intro p e s m below meth c A h hr
  refine r_aload_n (pc := 0) h 0 d_M_only_0 rfl rfl ?_
  refine r_iload_n (pc := 1) h 1 d_M_only_1 rfl rfl ?_
  refine r_invSa (pc := 2) h (st := [.ref (b 0)]) d_M_only_2 (c_none_f t ht) (r_cS h wc_M_none w_378 w_3 w_379 hd_M_none ⟨(Nat.le_of_ble_eq_true rfl), (Nat.le_of_ble_eq_true rfl)⟩ rfl rfl) rfl rfl (Nat.le_of_ble_eq_true rfl) ⟨(Nat.le_of_ble_eq_true rfl), (Nat.le_of_ble_eq_true rfl)⟩ rfl ?_
  refine r_if_ne_f (pc := 5) h (tgt := 15) d_M_only_5 (by decide) rfl ?_
  refine r_iload_n (pc := 8) h 2 d_M_only_8 rfl rfl ?_
  refine r_invSa (pc := 9) h (st := [.ref (b 0)]) d_M_only_9 (c_beyond_f x hx) (r_cS h wc_M_beyond w_392 w_3 w_393 hd_M_beyond ⟨(Nat.le_of_ble_eq_true rfl), (Nat.le_of_ble_eq_true rfl)⟩ rfl rfl) rfl rfl (Nat.le_of_ble_eq_true rfl) ⟨(Nat.le_of_ble_eq_true rfl), (Nat.le_of_ble_eq_true rfl)⟩ rfl ?_
  refine r_if_eq_t (pc := 12) h (tgt := 19) d_M_only_12 (by decide) rfl ?_
  refine r_iconst (pc := 19) h (v := bI false) d_M_only_19 (by decide) ?_
  refine r_invVa (pc := 20) h 0 (st := []) d_M_only_20 c_bad_false (r_cV h wc_M_bad w_384 w_3 w_386 (TT_se (q := (y_M_bad, 5)) 10 rfl) hd_M_bad ⟨(Nat.le_of_ble_eq_true rfl), (Nat.le_of_ble_eq_true rfl)⟩ rfl rfl) mw_0 rfl rfl rfl (Nat.le_of_ble_eq_true rfl) ⟨(Nat.le_of_ble_eq_true rfl), (Nat.le_of_ble_eq_true rfl)⟩ mw_adr ?_
  refine r_if_eq_t (pc := 23) h (tgt := 27) d_M_only_23 (by decide) rfl ?_
  refine r_iconst (pc := 27) h (v := nI 0) d_M_only_27 (by decide) ?_
  refine r_istore_n (pc := 28) h (lv' := [(3, .int (nI 0)), (0, .ref (b 0)), (1, .int (nI t)), (2, .int (nI x))]) d_M_only_28 rfl (by decide) rfl ?_
  refine Wv.wld (ws' := (mw G b (bI false) (va_up rg t (mix 0 (eqB x) (rg t))) wk fi fa)) mw_en ?_
  refine Wv.loop 1024 (fun i => (mw G b (bI false) (va_up rg t (mix i (eqB x) (rg t))) wk fi fa)) (fun i => [(3, .int (nI i)), (0, .ref (b 0)), (1, .int (nI t)), (2, .int (nI x))]) ?_ ?_
  · show Wv p l e _ s m _ below meth c G A _ _ _ _ (mw G b (bI false) (va_up rg t (mix 1024 (eqB x) (rg t))) wk fi fa) 29 [(3, .int (nI 1024)), (0, .ref (b 0)), (1, .int (nI t)), (2, .int (nI x))] []
    refine r_iload_n (pc := 29) h 0 d_M_only_29 rfl rfl ?_
    refine r_sipush (pc := 30) h (v := nI 1024) d_M_only_30 (by decide) ?_
    refine r_icmp_ge_t (pc := 33) h (tgt := 60) d_M_only_33 (by decide) (nI_le (Nat.le_refl _) (by decide)) ?_
    exact r_vret (pc := 60) h hr d_M_only_60
  · intro i hi ih
    have ih : Wv p l e _ s m _ below meth c G A _ _ _ _ (mw G b (bI false) (va_up rg t (mix (i + 1) (eqB x) (rg t))) wk fi fa) 29 [(3, .int (nI (i + 1))), (0, .ref (b 0)), (1, .int (nI t)), (2, .int (nI x))] [] := ih
    show Wv p l e _ s m _ below meth c G A _ _ _ _ (mw G b (bI false) (va_up rg t (mix i (eqB x) (rg t))) wk fi fa) 29 [(3, .int (nI i)), (0, .ref (b 0)), (1, .int (nI t)), (2, .int (nI x))] []
    refine r_iload_n (pc := 29) h 0 d_M_only_29 rfl rfl ?_
    refine r_sipush (pc := 30) h (v := nI 1024) d_M_only_30 (by decide) ?_
    refine r_icmp_ge_f (pc := 33) h (tgt := 60) d_M_only_33 (by decide) (nI_ge hi (by decide)) ?_
    refine r_aload_n (pc := 36) h 1 d_M_only_36 rfl rfl ?_
    refine r_get (pc := 37) h 0 1 d_M_only_37 mw_0 rfl (by decide) in_M (List.mem_cons_of_mem _ w_354) rfl ?_
    refine r_iload_n (pc := 40) h 2 d_M_only_40 rfl rfl ?_
    refine r_aaload (pc := 41) h 1 4 t d_M_only_41 mw_1 rfl rfl rfl ht (by decide) (mw_o ht) ?_
    refine r_iload_n (pc := 42) h 0 d_M_only_42 rfl rfl ?_
    refine r_iload_n (pc := 43) h 0 d_M_only_43 rfl rfl ?_
    refine r_iload_n (pc := 44) h 3 d_M_only_44 rfl rfl ?_
    refine r_icmp_ne (pc := 45) h (tgt := 52) d_M_only_45 (by decide) (fun q45 => ?_) (fun q45 => ?_)
    · refine r_iconst (pc := 52) h (v := bI (eqB x i)) d_M_only_52 (by rw [show eqB x i = false from bD_f (fun z => q45 (by rw [z]))]; decide) ?_
      refine r_bastore (pc := 53) h (5 + t) (ws' := (mw G b (bI false) (va_up rg t (mix (i + 1) (eqB x) (rg t))) wk fi fa)) i d_M_only_53 (mw_r ht) rfl hi (by decide) (bI_nar _) (mw_st (g := (eqB x))) ?_
      refine r_iinc (pc := 54) h (v := nI (i + 1)) (lv' := [(3, .int (nI (i + 1))), (0, .ref (b 0)), (1, .int (nI t)), (2, .int (nI x))]) 0 d_M_only_54 rfl (nI_inc i) (by decide) rfl ?_
      refine r_goto (pc := 57) h (tgt := 29) d_M_only_57 (by decide) ?_
      exact ih
    · refine r_iconst (pc := 48) h (v := bI (eqB x i)) d_M_only_48 (by rw [show eqB x i = true from bD_t ((nI_eq (by omega) (by omega)).mp q45)]; decide) ?_
      refine r_goto (pc := 49) h (tgt := 53) d_M_only_49 (by decide) ?_
      refine r_bastore (pc := 53) h (5 + t) (ws' := (mw G b (bI false) (va_up rg t (mix (i + 1) (eqB x) (rg t))) wk fi fa)) i d_M_only_53 (mw_r ht) rfl hi (by decide) (bI_nar _) (mw_st (g := (eqB x))) ?_
      refine r_iinc (pc := 54) h (v := nI (i + 1)) (lv' := [(3, .int (nI (i + 1))), (0, .ref (b 0)), (1, .int (nI t)), (2, .int (nI x))]) 0 d_M_only_54 rfl (nI_inc i) (by decide) rfl ?_
      refine r_goto (pc := 57) h (tgt := 29) d_M_only_57 (by decide) ?_
      exact ih
theorem x_only (t x : Int32)  (hB : ¬ (okR 16 t ∧ okR 1024 x)) : Ct l y_M_only (.code y_M_only b_M_only 4 none :: TT) (rmF 1 21) G [.ref (b 0), .int t, .int x] (mw G b th rg wk fi fa) none (mw G b (bI true) rg wk fi fa) := by
  refine ct_intro (cc := b_M_only) (nL := 4) (by decide) [(0, .ref (b 0)), (1, .int t), (2, .int x)] rfl (Nat.le_of_ble_eq_true rfl) ?_
  intro p e s m below meth c A h hr
  refine r_aload_n (pc := 0) h 0 d_M_only_0 rfl rfl ?_
  refine r_iload_n (pc := 1) h 1 d_M_only_1 rfl rfl ?_
  rcases pk_ix t (n := 16) (by decide) with hN | hN | ⟨j2, hj2, hN2⟩
  · refine r_invSa (pc := 2) h (st := [.ref (b 0)]) d_M_only_2 (c_none_t t (Or.inl hN)) (r_cS h wc_M_none w_378 w_3 w_379 hd_M_none ⟨(Nat.le_of_ble_eq_true rfl), (Nat.le_of_ble_eq_true rfl)⟩ rfl rfl) rfl rfl (Nat.le_of_ble_eq_true rfl) ⟨(Nat.le_of_ble_eq_true rfl), (Nat.le_of_ble_eq_true rfl)⟩ rfl ?_
    refine r_if_ne_t (pc := 5) h (tgt := 15) d_M_only_5 (by decide) (by decide) ?_
    refine r_iconst (pc := 15) h (v := bI true) d_M_only_15 (by decide) ?_
    refine r_goto (pc := 16) h (tgt := 20) d_M_only_16 (by decide) ?_
    refine r_invVa (pc := 20) h 0 (st := []) d_M_only_20 c_bad_true (r_cV h wc_M_bad w_384 w_3 w_386 (TT_se (q := (y_M_bad, 5)) 10 rfl) hd_M_bad ⟨(Nat.le_of_ble_eq_true rfl), (Nat.le_of_ble_eq_true rfl)⟩ rfl rfl) mw_0 rfl rfl rfl (Nat.le_of_ble_eq_true rfl) ⟨(Nat.le_of_ble_eq_true rfl), (Nat.le_of_ble_eq_true rfl)⟩ mw_adr ?_
    refine r_if_eq_f (pc := 23) h (tgt := 27) d_M_only_23 (by decide) (by decide) ?_
    exact r_vret (pc := 26) h hr d_M_only_26
  · refine r_invSa (pc := 2) h (st := [.ref (b 0)]) d_M_only_2 (c_none_t t (Or.inr hN)) (r_cS h wc_M_none w_378 w_3 w_379 hd_M_none ⟨(Nat.le_of_ble_eq_true rfl), (Nat.le_of_ble_eq_true rfl)⟩ rfl rfl) rfl rfl (Nat.le_of_ble_eq_true rfl) ⟨(Nat.le_of_ble_eq_true rfl), (Nat.le_of_ble_eq_true rfl)⟩ rfl ?_
    refine r_if_ne_t (pc := 5) h (tgt := 15) d_M_only_5 (by decide) (by decide) ?_
    refine r_iconst (pc := 15) h (v := bI true) d_M_only_15 (by decide) ?_
    refine r_goto (pc := 16) h (tgt := 20) d_M_only_16 (by decide) ?_
    refine r_invVa (pc := 20) h 0 (st := []) d_M_only_20 c_bad_true (r_cV h wc_M_bad w_384 w_3 w_386 (TT_se (q := (y_M_bad, 5)) 10 rfl) hd_M_bad ⟨(Nat.le_of_ble_eq_true rfl), (Nat.le_of_ble_eq_true rfl)⟩ rfl rfl) mw_0 rfl rfl rfl (Nat.le_of_ble_eq_true rfl) ⟨(Nat.le_of_ble_eq_true rfl), (Nat.le_of_ble_eq_true rfl)⟩ mw_adr ?_
    refine r_if_eq_f (pc := 23) h (tgt := 27) d_M_only_23 (by decide) (by decide) ?_
    exact r_vret (pc := 26) h hr d_M_only_26
  · subst hN2
    refine r_invSa (pc := 2) h (st := [.ref (b 0)]) d_M_only_2 (c_none_f j2 hj2) (r_cS h wc_M_none w_378 w_3 w_379 hd_M_none ⟨(Nat.le_of_ble_eq_true rfl), (Nat.le_of_ble_eq_true rfl)⟩ rfl rfl) rfl rfl (Nat.le_of_ble_eq_true rfl) ⟨(Nat.le_of_ble_eq_true rfl), (Nat.le_of_ble_eq_true rfl)⟩ rfl ?_
    refine r_if_ne_f (pc := 5) h (tgt := 15) d_M_only_5 (by decide) rfl ?_
    refine r_iload_n (pc := 8) h 2 d_M_only_8 rfl rfl ?_
    rcases pk_ix x (n := 1024) (by decide) with hN | hN | ⟨j9, hj9, hN9⟩
    · refine r_invSa (pc := 9) h (st := [.ref (b 0)]) d_M_only_9 (c_beyond_t x (Or.inl hN)) (r_cS h wc_M_beyond w_392 w_3 w_393 hd_M_beyond ⟨(Nat.le_of_ble_eq_true rfl), (Nat.le_of_ble_eq_true rfl)⟩ rfl rfl) rfl rfl (Nat.le_of_ble_eq_true rfl) ⟨(Nat.le_of_ble_eq_true rfl), (Nat.le_of_ble_eq_true rfl)⟩ rfl ?_
      refine r_if_eq_f (pc := 12) h (tgt := 19) d_M_only_12 (by decide) (by decide) ?_
      refine r_iconst (pc := 15) h (v := bI true) d_M_only_15 (by decide) ?_
      refine r_goto (pc := 16) h (tgt := 20) d_M_only_16 (by decide) ?_
      refine r_invVa (pc := 20) h 0 (st := []) d_M_only_20 c_bad_true (r_cV h wc_M_bad w_384 w_3 w_386 (TT_se (q := (y_M_bad, 5)) 10 rfl) hd_M_bad ⟨(Nat.le_of_ble_eq_true rfl), (Nat.le_of_ble_eq_true rfl)⟩ rfl rfl) mw_0 rfl rfl rfl (Nat.le_of_ble_eq_true rfl) ⟨(Nat.le_of_ble_eq_true rfl), (Nat.le_of_ble_eq_true rfl)⟩ mw_adr ?_
      refine r_if_eq_f (pc := 23) h (tgt := 27) d_M_only_23 (by decide) (by decide) ?_
      exact r_vret (pc := 26) h hr d_M_only_26
    · refine r_invSa (pc := 9) h (st := [.ref (b 0)]) d_M_only_9 (c_beyond_t x (Or.inr hN)) (r_cS h wc_M_beyond w_392 w_3 w_393 hd_M_beyond ⟨(Nat.le_of_ble_eq_true rfl), (Nat.le_of_ble_eq_true rfl)⟩ rfl rfl) rfl rfl (Nat.le_of_ble_eq_true rfl) ⟨(Nat.le_of_ble_eq_true rfl), (Nat.le_of_ble_eq_true rfl)⟩ rfl ?_
      refine r_if_eq_f (pc := 12) h (tgt := 19) d_M_only_12 (by decide) (by decide) ?_
      refine r_iconst (pc := 15) h (v := bI true) d_M_only_15 (by decide) ?_
      refine r_goto (pc := 16) h (tgt := 20) d_M_only_16 (by decide) ?_
      refine r_invVa (pc := 20) h 0 (st := []) d_M_only_20 c_bad_true (r_cV h wc_M_bad w_384 w_3 w_386 (TT_se (q := (y_M_bad, 5)) 10 rfl) hd_M_bad ⟨(Nat.le_of_ble_eq_true rfl), (Nat.le_of_ble_eq_true rfl)⟩ rfl rfl) mw_0 rfl rfl rfl (Nat.le_of_ble_eq_true rfl) ⟨(Nat.le_of_ble_eq_true rfl), (Nat.le_of_ble_eq_true rfl)⟩ mw_adr ?_
      refine r_if_eq_f (pc := 23) h (tgt := 27) d_M_only_23 (by decide) (by decide) ?_
      exact r_vret (pc := 26) h hr d_M_only_26
    · exfalso
      exact hB ⟨⟨j2, hj2, rfl⟩, ⟨j9, hj9, hN9⟩⟩
theorem m_choose (t : Nat) (ht : t < 16) (r1 r2 r3 : Nat) (h1 : r1 < 16) (h2 : r2 < 16) (h3 : r3 < 16) : Ct l y_M_choose (.code y_M_choose b_M_choose 6 none :: TT) (rmF 2 61) G [.ref (b 0), .int (nI t), .int (nI r1), .int (nI r2), .int (nI r3)] (mw G b th rg wk fi fa) none (mw G b (bI false) (va_up rg t (mix 1024 (mix 1024 (fun x => if rg r1 x = true then rg r2 x else rg r3 x) wk) (rg t))) (mix 1024 (fun x => if rg r1 x = true then rg r2 x else rg r3 x) wk) fi fa) := by
  refine ct_intro (cc := b_M_choose) (nL := 6) (by decide) [(0, .ref (b 0)), (1, .int (nI t)), (2, .int (nI r1)), (3, .int (nI r2)), (4, .int (nI r3))] rfl (Nat.le_of_ble_eq_true rfl) ?_
  intro p e s m below meth c A h hr
  refine r_aload_n (pc := 0) h 0 d_M_choose_0 rfl rfl ?_
  refine r_iload_n (pc := 1) h 1 d_M_choose_1 rfl rfl ?_
  refine r_invSa (pc := 2) h (st := [.ref (b 0)]) d_M_choose_2 (c_none_f t ht) (r_cS h wc_M_none w_378 w_3 w_379 hd_M_none ⟨(Nat.le_of_ble_eq_true rfl), (Nat.le_of_ble_eq_true rfl)⟩ rfl rfl) rfl rfl (Nat.le_of_ble_eq_true rfl) ⟨(Nat.le_of_ble_eq_true rfl), (Nat.le_of_ble_eq_true rfl)⟩ rfl ?_
  refine r_if_ne_f (pc := 5) h (tgt := 30) d_M_choose_5 (by decide) rfl ?_
  refine r_iload_n (pc := 8) h 2 d_M_choose_8 rfl rfl ?_
  refine r_invSa (pc := 9) h (st := [.ref (b 0)]) d_M_choose_9 (c_none_f r1 h1) (r_cS h wc_M_none w_378 w_3 w_379 hd_M_none ⟨(Nat.le_of_ble_eq_true rfl), (Nat.le_of_ble_eq_true rfl)⟩ rfl rfl) rfl rfl (Nat.le_of_ble_eq_true rfl) ⟨(Nat.le_of_ble_eq_true rfl), (Nat.le_of_ble_eq_true rfl)⟩ rfl ?_
  refine r_if_ne_f (pc := 12) h (tgt := 30) d_M_choose_12 (by decide) rfl ?_
  refine r_iload_n (pc := 15) h 3 d_M_choose_15 rfl rfl ?_
  refine r_invSa (pc := 16) h (st := [.ref (b 0)]) d_M_choose_16 (c_none_f r2 h2) (r_cS h wc_M_none w_378 w_3 w_379 hd_M_none ⟨(Nat.le_of_ble_eq_true rfl), (Nat.le_of_ble_eq_true rfl)⟩ rfl rfl) rfl rfl (Nat.le_of_ble_eq_true rfl) ⟨(Nat.le_of_ble_eq_true rfl), (Nat.le_of_ble_eq_true rfl)⟩ rfl ?_
  refine r_if_ne_f (pc := 19) h (tgt := 30) d_M_choose_19 (by decide) rfl ?_
  refine r_iload (pc := 22) h 4 d_M_choose_22 rfl ?_
  refine r_invSa (pc := 24) h (st := [.ref (b 0)]) d_M_choose_24 (c_none_f r3 h3) (r_cS h wc_M_none w_378 w_3 w_379 hd_M_none ⟨(Nat.le_of_ble_eq_true rfl), (Nat.le_of_ble_eq_true rfl)⟩ rfl rfl) rfl rfl (Nat.le_of_ble_eq_true rfl) ⟨(Nat.le_of_ble_eq_true rfl), (Nat.le_of_ble_eq_true rfl)⟩ rfl ?_
  refine r_if_eq_t (pc := 27) h (tgt := 34) d_M_choose_27 (by decide) rfl ?_
  refine r_iconst (pc := 34) h (v := bI false) d_M_choose_34 (by decide) ?_
  refine r_invVa (pc := 35) h 0 (st := []) d_M_choose_35 c_bad_false (r_cV h wc_M_bad w_384 w_3 w_386 (TT_se (q := (y_M_bad, 5)) 10 rfl) hd_M_bad ⟨(Nat.le_of_ble_eq_true rfl), (Nat.le_of_ble_eq_true rfl)⟩ rfl rfl) mw_0 rfl rfl rfl (Nat.le_of_ble_eq_true rfl) ⟨(Nat.le_of_ble_eq_true rfl), (Nat.le_of_ble_eq_true rfl)⟩ mw_adr ?_
  refine r_if_eq_t (pc := 38) h (tgt := 42) d_M_choose_38 (by decide) rfl ?_
  refine r_iconst (pc := 42) h (v := nI 0) d_M_choose_42 (by decide) ?_
  refine r_istore (pc := 43) h (lv' := [(5, .int (nI 0)), (0, .ref (b 0)), (1, .int (nI t)), (2, .int (nI r1)), (3, .int (nI r2)), (4, .int (nI r3))]) d_M_choose_43 (by decide) rfl ?_
  refine Wv.wld (ws' := (mw G b (bI false) rg (mix 0 (fun x => if rg r1 x = true then rg r2 x else rg r3 x) wk) fi fa)) (by rw [mix_0]) ?_
  refine Wv.loop 1024 (fun i => (mw G b (bI false) rg (mix i (fun x => if rg r1 x = true then rg r2 x else rg r3 x) wk) fi fa)) (fun i => [(5, .int (nI i)), (0, .ref (b 0)), (1, .int (nI t)), (2, .int (nI r1)), (3, .int (nI r2)), (4, .int (nI r3))]) ?_ ?_
  · show Wv p l e _ s m _ below meth c G A _ _ _ _ (mw G b (bI false) rg (mix 1024 (fun x => if rg r1 x = true then rg r2 x else rg r3 x) wk) fi fa) 45 [(5, .int (nI 1024)), (0, .ref (b 0)), (1, .int (nI t)), (2, .int (nI r1)), (3, .int (nI r2)), (4, .int (nI r3))] []
    refine r_iload (pc := 45) h 0 d_M_choose_45 rfl ?_
    refine r_sipush (pc := 47) h (v := nI 1024) d_M_choose_47 (by decide) ?_
    refine r_icmp_ge_t (pc := 50) h (tgt := 100) d_M_choose_50 (by decide) (nI_le (Nat.le_refl _) (by decide)) ?_
    refine r_aload_n (pc := 100) h 1 d_M_choose_100 rfl rfl ?_
    refine r_iload_n (pc := 101) h 2 d_M_choose_101 rfl rfl ?_
    refine r_invVv (pc := 102) h 0 (st := []) d_M_choose_102 (c_keep t ht) (r_cV h wc_M_keep w_399 w_3 w_401 (TT_se (q := (y_M_keep, 5)) 11 rfl) hd_M_keep ⟨(Nat.le_of_ble_eq_true rfl), (Nat.le_of_ble_eq_true rfl)⟩ rfl rfl) mw_0 rfl rfl rfl (Nat.le_of_ble_eq_true rfl) ⟨(Nat.le_of_ble_eq_true rfl), (Nat.le_of_ble_eq_true rfl)⟩ mw_adr ?_
    exact r_vret (pc := 105) h hr d_M_choose_105
  · intro i hi ih
    have ih : Wv p l e _ s m _ below meth c G A _ _ _ _ (mw G b (bI false) rg (mix (i + 1) (fun x => if rg r1 x = true then rg r2 x else rg r3 x) wk) fi fa) 45 [(5, .int (nI (i + 1))), (0, .ref (b 0)), (1, .int (nI t)), (2, .int (nI r1)), (3, .int (nI r2)), (4, .int (nI r3))] [] := ih
    show Wv p l e _ s m _ below meth c G A _ _ _ _ (mw G b (bI false) rg (mix i (fun x => if rg r1 x = true then rg r2 x else rg r3 x) wk) fi fa) 45 [(5, .int (nI i)), (0, .ref (b 0)), (1, .int (nI t)), (2, .int (nI r1)), (3, .int (nI r2)), (4, .int (nI r3))] []
    refine r_iload (pc := 45) h 0 d_M_choose_45 rfl ?_
    refine r_sipush (pc := 47) h (v := nI 1024) d_M_choose_47 (by decide) ?_
    refine r_icmp_ge_f (pc := 50) h (tgt := 100) d_M_choose_50 (by decide) (nI_ge hi (by decide)) ?_
    refine r_aload_n (pc := 53) h 1 d_M_choose_53 rfl rfl ?_
    refine r_get (pc := 54) h 0 2 d_M_choose_54 mw_0 rfl (by decide) in_M (List.mem_cons_of_mem _ w_355) rfl ?_
    refine r_iload (pc := 57) h 0 d_M_choose_57 rfl ?_
    refine r_aload_n (pc := 59) h 1 d_M_choose_59 rfl rfl ?_
    refine r_get (pc := 60) h 0 1 d_M_choose_60 mw_0 rfl (by decide) in_M (List.mem_cons_of_mem _ w_354) rfl ?_
    refine r_iload_n (pc := 63) h 3 d_M_choose_63 rfl rfl ?_
    refine r_aaload (pc := 64) h 1 4 r1 d_M_choose_64 mw_1 rfl rfl rfl h1 (by decide) (mw_o h1) ?_
    refine r_iload (pc := 65) h 0 d_M_choose_65 rfl ?_
    refine r_baload (pc := 67) h (5 + r1) (z := bI (rg r1 i)) i d_M_choose_67 (mw_r h1) rfl hi (by decide) rfl ?_
    refine r_if_eq (pc := 68) h (tgt := 83) d_M_choose_68 (by decide) (fun q68 => ?_) (fun q68 => ?_)
    · have hb68 := bI_F q68
      refine r_aload_n (pc := 83) h 1 d_M_choose_83 rfl rfl ?_
      refine r_get (pc := 84) h 0 1 d_M_choose_84 mw_0 rfl (by decide) in_M (List.mem_cons_of_mem _ w_354) rfl ?_
      refine r_iload (pc := 87) h 5 d_M_choose_87 rfl ?_
      refine r_aaload (pc := 89) h 1 4 r3 d_M_choose_89 mw_1 rfl rfl rfl h3 (by decide) (mw_o h3) ?_
      refine r_iload (pc := 90) h 0 d_M_choose_90 rfl ?_
      refine r_baload (pc := 92) h (5 + r3) (z := bI (rg r3 i)) i d_M_choose_92 (mw_r h3) rfl hi (by decide) rfl ?_
      refine Wv.top (v' := .int (bI (if rg r1 i = true then rg r2 i else rg r3 i))) (by rw [if_neg (by rw [hb68]; decide)]) ?_
      refine r_bastore (pc := 93) h 2 (ws' := (mw G b (bI false) rg (mix (i + 1) (fun x => if rg r1 x = true then rg r2 x else rg r3 x) wk) fi fa)) i d_M_choose_93 mw_2 rfl hi (by decide) (bI_nar _) (by rw [upd_b, mix_up i (fun x => if rg r1 x = true then rg r2 x else rg r3 x) wk]; exact mw_s2) ?_
      refine r_iinc (pc := 94) h (v := nI (i + 1)) (lv' := [(5, .int (nI (i + 1))), (0, .ref (b 0)), (1, .int (nI t)), (2, .int (nI r1)), (3, .int (nI r2)), (4, .int (nI r3))]) 0 d_M_choose_94 rfl (nI_inc i) (by decide) rfl ?_
      refine r_goto (pc := 97) h (tgt := 45) d_M_choose_97 (by decide) ?_
      exact ih
    · have hb68 := bI_T q68
      refine r_aload_n (pc := 71) h 1 d_M_choose_71 rfl rfl ?_
      refine r_get (pc := 72) h 0 1 d_M_choose_72 mw_0 rfl (by decide) in_M (List.mem_cons_of_mem _ w_354) rfl ?_
      refine r_iload_n (pc := 75) h 4 d_M_choose_75 rfl rfl ?_
      refine r_aaload (pc := 76) h 1 4 r2 d_M_choose_76 mw_1 rfl rfl rfl h2 (by decide) (mw_o h2) ?_
      refine r_iload (pc := 77) h 0 d_M_choose_77 rfl ?_
      refine r_baload (pc := 79) h (5 + r2) (z := bI (rg r2 i)) i d_M_choose_79 (mw_r h2) rfl hi (by decide) rfl ?_
      refine r_goto (pc := 80) h (tgt := 93) d_M_choose_80 (by decide) ?_
      refine Wv.top (v' := .int (bI (if rg r1 i = true then rg r2 i else rg r3 i))) (by rw [if_pos hb68]) ?_
      refine r_bastore (pc := 93) h 2 (ws' := (mw G b (bI false) rg (mix (i + 1) (fun x => if rg r1 x = true then rg r2 x else rg r3 x) wk) fi fa)) i d_M_choose_93 mw_2 rfl hi (by decide) (bI_nar _) (by rw [upd_b, mix_up i (fun x => if rg r1 x = true then rg r2 x else rg r3 x) wk]; exact mw_s2) ?_
      refine r_iinc (pc := 94) h (v := nI (i + 1)) (lv' := [(5, .int (nI (i + 1))), (0, .ref (b 0)), (1, .int (nI t)), (2, .int (nI r1)), (3, .int (nI r2)), (4, .int (nI r3))]) 0 d_M_choose_94 rfl (nI_inc i) (by decide) rfl ?_
      refine r_goto (pc := 97) h (tgt := 45) d_M_choose_97 (by decide) ?_
      exact ih
theorem x_choose (t r1 r2 r3 : Int32)  (hB : ¬ (okR 16 t ∧ okR 16 r1 ∧ okR 16 r2 ∧ okR 16 r3)) : Ct l y_M_choose (.code y_M_choose b_M_choose 6 none :: TT) (rmF 2 61) G [.ref (b 0), .int t, .int r1, .int r2, .int r3] (mw G b th rg wk fi fa) none (mw G b (bI true) rg wk fi fa) := by
  refine ct_intro (cc := b_M_choose) (nL := 6) (by decide) [(0, .ref (b 0)), (1, .int t), (2, .int r1), (3, .int r2), (4, .int r3)] rfl (Nat.le_of_ble_eq_true rfl) ?_
  intro p e s m below meth c A h hr
  refine r_aload_n (pc := 0) h 0 d_M_choose_0 rfl rfl ?_
  refine r_iload_n (pc := 1) h 1 d_M_choose_1 rfl rfl ?_
  rcases pk_ix t (n := 16) (by decide) with hN | hN | ⟨j2, hj2, hN2⟩
  · refine r_invSa (pc := 2) h (st := [.ref (b 0)]) d_M_choose_2 (c_none_t t (Or.inl hN)) (r_cS h wc_M_none w_378 w_3 w_379 hd_M_none ⟨(Nat.le_of_ble_eq_true rfl), (Nat.le_of_ble_eq_true rfl)⟩ rfl rfl) rfl rfl (Nat.le_of_ble_eq_true rfl) ⟨(Nat.le_of_ble_eq_true rfl), (Nat.le_of_ble_eq_true rfl)⟩ rfl ?_
    refine r_if_ne_t (pc := 5) h (tgt := 30) d_M_choose_5 (by decide) (by decide) ?_
    refine r_iconst (pc := 30) h (v := bI true) d_M_choose_30 (by decide) ?_
    refine r_goto (pc := 31) h (tgt := 35) d_M_choose_31 (by decide) ?_
    refine r_invVa (pc := 35) h 0 (st := []) d_M_choose_35 c_bad_true (r_cV h wc_M_bad w_384 w_3 w_386 (TT_se (q := (y_M_bad, 5)) 10 rfl) hd_M_bad ⟨(Nat.le_of_ble_eq_true rfl), (Nat.le_of_ble_eq_true rfl)⟩ rfl rfl) mw_0 rfl rfl rfl (Nat.le_of_ble_eq_true rfl) ⟨(Nat.le_of_ble_eq_true rfl), (Nat.le_of_ble_eq_true rfl)⟩ mw_adr ?_
    refine r_if_eq_f (pc := 38) h (tgt := 42) d_M_choose_38 (by decide) (by decide) ?_
    exact r_vret (pc := 41) h hr d_M_choose_41
  · refine r_invSa (pc := 2) h (st := [.ref (b 0)]) d_M_choose_2 (c_none_t t (Or.inr hN)) (r_cS h wc_M_none w_378 w_3 w_379 hd_M_none ⟨(Nat.le_of_ble_eq_true rfl), (Nat.le_of_ble_eq_true rfl)⟩ rfl rfl) rfl rfl (Nat.le_of_ble_eq_true rfl) ⟨(Nat.le_of_ble_eq_true rfl), (Nat.le_of_ble_eq_true rfl)⟩ rfl ?_
    refine r_if_ne_t (pc := 5) h (tgt := 30) d_M_choose_5 (by decide) (by decide) ?_
    refine r_iconst (pc := 30) h (v := bI true) d_M_choose_30 (by decide) ?_
    refine r_goto (pc := 31) h (tgt := 35) d_M_choose_31 (by decide) ?_
    refine r_invVa (pc := 35) h 0 (st := []) d_M_choose_35 c_bad_true (r_cV h wc_M_bad w_384 w_3 w_386 (TT_se (q := (y_M_bad, 5)) 10 rfl) hd_M_bad ⟨(Nat.le_of_ble_eq_true rfl), (Nat.le_of_ble_eq_true rfl)⟩ rfl rfl) mw_0 rfl rfl rfl (Nat.le_of_ble_eq_true rfl) ⟨(Nat.le_of_ble_eq_true rfl), (Nat.le_of_ble_eq_true rfl)⟩ mw_adr ?_
    refine r_if_eq_f (pc := 38) h (tgt := 42) d_M_choose_38 (by decide) (by decide) ?_
    exact r_vret (pc := 41) h hr d_M_choose_41
  · subst hN2
    refine r_invSa (pc := 2) h (st := [.ref (b 0)]) d_M_choose_2 (c_none_f j2 hj2) (r_cS h wc_M_none w_378 w_3 w_379 hd_M_none ⟨(Nat.le_of_ble_eq_true rfl), (Nat.le_of_ble_eq_true rfl)⟩ rfl rfl) rfl rfl (Nat.le_of_ble_eq_true rfl) ⟨(Nat.le_of_ble_eq_true rfl), (Nat.le_of_ble_eq_true rfl)⟩ rfl ?_
    refine r_if_ne_f (pc := 5) h (tgt := 30) d_M_choose_5 (by decide) rfl ?_
    refine r_iload_n (pc := 8) h 2 d_M_choose_8 rfl rfl ?_
    rcases pk_ix r1 (n := 16) (by decide) with hN | hN | ⟨j9, hj9, hN9⟩
    · refine r_invSa (pc := 9) h (st := [.ref (b 0)]) d_M_choose_9 (c_none_t r1 (Or.inl hN)) (r_cS h wc_M_none w_378 w_3 w_379 hd_M_none ⟨(Nat.le_of_ble_eq_true rfl), (Nat.le_of_ble_eq_true rfl)⟩ rfl rfl) rfl rfl (Nat.le_of_ble_eq_true rfl) ⟨(Nat.le_of_ble_eq_true rfl), (Nat.le_of_ble_eq_true rfl)⟩ rfl ?_
      refine r_if_ne_t (pc := 12) h (tgt := 30) d_M_choose_12 (by decide) (by decide) ?_
      refine r_iconst (pc := 30) h (v := bI true) d_M_choose_30 (by decide) ?_
      refine r_goto (pc := 31) h (tgt := 35) d_M_choose_31 (by decide) ?_
      refine r_invVa (pc := 35) h 0 (st := []) d_M_choose_35 c_bad_true (r_cV h wc_M_bad w_384 w_3 w_386 (TT_se (q := (y_M_bad, 5)) 10 rfl) hd_M_bad ⟨(Nat.le_of_ble_eq_true rfl), (Nat.le_of_ble_eq_true rfl)⟩ rfl rfl) mw_0 rfl rfl rfl (Nat.le_of_ble_eq_true rfl) ⟨(Nat.le_of_ble_eq_true rfl), (Nat.le_of_ble_eq_true rfl)⟩ mw_adr ?_
      refine r_if_eq_f (pc := 38) h (tgt := 42) d_M_choose_38 (by decide) (by decide) ?_
      exact r_vret (pc := 41) h hr d_M_choose_41
    · refine r_invSa (pc := 9) h (st := [.ref (b 0)]) d_M_choose_9 (c_none_t r1 (Or.inr hN)) (r_cS h wc_M_none w_378 w_3 w_379 hd_M_none ⟨(Nat.le_of_ble_eq_true rfl), (Nat.le_of_ble_eq_true rfl)⟩ rfl rfl) rfl rfl (Nat.le_of_ble_eq_true rfl) ⟨(Nat.le_of_ble_eq_true rfl), (Nat.le_of_ble_eq_true rfl)⟩ rfl ?_
      refine r_if_ne_t (pc := 12) h (tgt := 30) d_M_choose_12 (by decide) (by decide) ?_
      refine r_iconst (pc := 30) h (v := bI true) d_M_choose_30 (by decide) ?_
      refine r_goto (pc := 31) h (tgt := 35) d_M_choose_31 (by decide) ?_
      refine r_invVa (pc := 35) h 0 (st := []) d_M_choose_35 c_bad_true (r_cV h wc_M_bad w_384 w_3 w_386 (TT_se (q := (y_M_bad, 5)) 10 rfl) hd_M_bad ⟨(Nat.le_of_ble_eq_true rfl), (Nat.le_of_ble_eq_true rfl)⟩ rfl rfl) mw_0 rfl rfl rfl (Nat.le_of_ble_eq_true rfl) ⟨(Nat.le_of_ble_eq_true rfl), (Nat.le_of_ble_eq_true rfl)⟩ mw_adr ?_
      refine r_if_eq_f (pc := 38) h (tgt := 42) d_M_choose_38 (by decide) (by decide) ?_
      exact r_vret (pc := 41) h hr d_M_choose_41
    · subst hN9
      refine r_invSa (pc := 9) h (st := [.ref (b 0)]) d_M_choose_9 (c_none_f j9 hj9) (r_cS h wc_M_none w_378 w_3 w_379 hd_M_none ⟨(Nat.le_of_ble_eq_true rfl), (Nat.le_of_ble_eq_true rfl)⟩ rfl rfl) rfl rfl (Nat.le_of_ble_eq_true rfl) ⟨(Nat.le_of_ble_eq_true rfl), (Nat.le_of_ble_eq_true rfl)⟩ rfl ?_
      refine r_if_ne_f (pc := 12) h (tgt := 30) d_M_choose_12 (by decide) rfl ?_
      refine r_iload_n (pc := 15) h 3 d_M_choose_15 rfl rfl ?_
      rcases pk_ix r2 (n := 16) (by decide) with hN | hN | ⟨j16, hj16, hN16⟩
      · refine r_invSa (pc := 16) h (st := [.ref (b 0)]) d_M_choose_16 (c_none_t r2 (Or.inl hN)) (r_cS h wc_M_none w_378 w_3 w_379 hd_M_none ⟨(Nat.le_of_ble_eq_true rfl), (Nat.le_of_ble_eq_true rfl)⟩ rfl rfl) rfl rfl (Nat.le_of_ble_eq_true rfl) ⟨(Nat.le_of_ble_eq_true rfl), (Nat.le_of_ble_eq_true rfl)⟩ rfl ?_
        refine r_if_ne_t (pc := 19) h (tgt := 30) d_M_choose_19 (by decide) (by decide) ?_
        refine r_iconst (pc := 30) h (v := bI true) d_M_choose_30 (by decide) ?_
        refine r_goto (pc := 31) h (tgt := 35) d_M_choose_31 (by decide) ?_
        refine r_invVa (pc := 35) h 0 (st := []) d_M_choose_35 c_bad_true (r_cV h wc_M_bad w_384 w_3 w_386 (TT_se (q := (y_M_bad, 5)) 10 rfl) hd_M_bad ⟨(Nat.le_of_ble_eq_true rfl), (Nat.le_of_ble_eq_true rfl)⟩ rfl rfl) mw_0 rfl rfl rfl (Nat.le_of_ble_eq_true rfl) ⟨(Nat.le_of_ble_eq_true rfl), (Nat.le_of_ble_eq_true rfl)⟩ mw_adr ?_
        refine r_if_eq_f (pc := 38) h (tgt := 42) d_M_choose_38 (by decide) (by decide) ?_
        exact r_vret (pc := 41) h hr d_M_choose_41
      · refine r_invSa (pc := 16) h (st := [.ref (b 0)]) d_M_choose_16 (c_none_t r2 (Or.inr hN)) (r_cS h wc_M_none w_378 w_3 w_379 hd_M_none ⟨(Nat.le_of_ble_eq_true rfl), (Nat.le_of_ble_eq_true rfl)⟩ rfl rfl) rfl rfl (Nat.le_of_ble_eq_true rfl) ⟨(Nat.le_of_ble_eq_true rfl), (Nat.le_of_ble_eq_true rfl)⟩ rfl ?_
        refine r_if_ne_t (pc := 19) h (tgt := 30) d_M_choose_19 (by decide) (by decide) ?_
        refine r_iconst (pc := 30) h (v := bI true) d_M_choose_30 (by decide) ?_
        refine r_goto (pc := 31) h (tgt := 35) d_M_choose_31 (by decide) ?_
        refine r_invVa (pc := 35) h 0 (st := []) d_M_choose_35 c_bad_true (r_cV h wc_M_bad w_384 w_3 w_386 (TT_se (q := (y_M_bad, 5)) 10 rfl) hd_M_bad ⟨(Nat.le_of_ble_eq_true rfl), (Nat.le_of_ble_eq_true rfl)⟩ rfl rfl) mw_0 rfl rfl rfl (Nat.le_of_ble_eq_true rfl) ⟨(Nat.le_of_ble_eq_true rfl), (Nat.le_of_ble_eq_true rfl)⟩ mw_adr ?_
        refine r_if_eq_f (pc := 38) h (tgt := 42) d_M_choose_38 (by decide) (by decide) ?_
        exact r_vret (pc := 41) h hr d_M_choose_41
      · subst hN16
        refine r_invSa (pc := 16) h (st := [.ref (b 0)]) d_M_choose_16 (c_none_f j16 hj16) (r_cS h wc_M_none w_378 w_3 w_379 hd_M_none ⟨(Nat.le_of_ble_eq_true rfl), (Nat.le_of_ble_eq_true rfl)⟩ rfl rfl) rfl rfl (Nat.le_of_ble_eq_true rfl) ⟨(Nat.le_of_ble_eq_true rfl), (Nat.le_of_ble_eq_true rfl)⟩ rfl ?_
        refine r_if_ne_f (pc := 19) h (tgt := 30) d_M_choose_19 (by decide) rfl ?_
        refine r_iload (pc := 22) h 4 d_M_choose_22 rfl ?_
        rcases pk_ix r3 (n := 16) (by decide) with hN | hN | ⟨j24, hj24, hN24⟩
        · refine r_invSa (pc := 24) h (st := [.ref (b 0)]) d_M_choose_24 (c_none_t r3 (Or.inl hN)) (r_cS h wc_M_none w_378 w_3 w_379 hd_M_none ⟨(Nat.le_of_ble_eq_true rfl), (Nat.le_of_ble_eq_true rfl)⟩ rfl rfl) rfl rfl (Nat.le_of_ble_eq_true rfl) ⟨(Nat.le_of_ble_eq_true rfl), (Nat.le_of_ble_eq_true rfl)⟩ rfl ?_
          refine r_if_eq_f (pc := 27) h (tgt := 34) d_M_choose_27 (by decide) (by decide) ?_
          refine r_iconst (pc := 30) h (v := bI true) d_M_choose_30 (by decide) ?_
          refine r_goto (pc := 31) h (tgt := 35) d_M_choose_31 (by decide) ?_
          refine r_invVa (pc := 35) h 0 (st := []) d_M_choose_35 c_bad_true (r_cV h wc_M_bad w_384 w_3 w_386 (TT_se (q := (y_M_bad, 5)) 10 rfl) hd_M_bad ⟨(Nat.le_of_ble_eq_true rfl), (Nat.le_of_ble_eq_true rfl)⟩ rfl rfl) mw_0 rfl rfl rfl (Nat.le_of_ble_eq_true rfl) ⟨(Nat.le_of_ble_eq_true rfl), (Nat.le_of_ble_eq_true rfl)⟩ mw_adr ?_
          refine r_if_eq_f (pc := 38) h (tgt := 42) d_M_choose_38 (by decide) (by decide) ?_
          exact r_vret (pc := 41) h hr d_M_choose_41
        · refine r_invSa (pc := 24) h (st := [.ref (b 0)]) d_M_choose_24 (c_none_t r3 (Or.inr hN)) (r_cS h wc_M_none w_378 w_3 w_379 hd_M_none ⟨(Nat.le_of_ble_eq_true rfl), (Nat.le_of_ble_eq_true rfl)⟩ rfl rfl) rfl rfl (Nat.le_of_ble_eq_true rfl) ⟨(Nat.le_of_ble_eq_true rfl), (Nat.le_of_ble_eq_true rfl)⟩ rfl ?_
          refine r_if_eq_f (pc := 27) h (tgt := 34) d_M_choose_27 (by decide) (by decide) ?_
          refine r_iconst (pc := 30) h (v := bI true) d_M_choose_30 (by decide) ?_
          refine r_goto (pc := 31) h (tgt := 35) d_M_choose_31 (by decide) ?_
          refine r_invVa (pc := 35) h 0 (st := []) d_M_choose_35 c_bad_true (r_cV h wc_M_bad w_384 w_3 w_386 (TT_se (q := (y_M_bad, 5)) 10 rfl) hd_M_bad ⟨(Nat.le_of_ble_eq_true rfl), (Nat.le_of_ble_eq_true rfl)⟩ rfl rfl) mw_0 rfl rfl rfl (Nat.le_of_ble_eq_true rfl) ⟨(Nat.le_of_ble_eq_true rfl), (Nat.le_of_ble_eq_true rfl)⟩ mw_adr ?_
          refine r_if_eq_f (pc := 38) h (tgt := 42) d_M_choose_38 (by decide) (by decide) ?_
          exact r_vret (pc := 41) h hr d_M_choose_41
        · exfalso
          exact hB ⟨⟨j2, hj2, rfl⟩, ⟨j9, hj9, rfl⟩, ⟨j16, hj16, rfl⟩, ⟨j24, hj24, hN24⟩⟩
theorem m_cut_true (t : Nat) (ht : t < 16) (r1 v : Nat) (h1 : r1 < 16) (hv : v < 10) : Ct l y_M_cut (.code y_M_cut b_M_cut 6 none :: TT) (rmF 2 61) G [.ref (b 0), .int (nI t), .int (nI r1), .int (nI v), .int (bI true)] (mw G b th rg wk fi fa) none (mw G b (bI false) (va_up rg t (mix 1024 (mix 1024 (fun x => rg r1 (sb x v true)) wk) (rg t))) (mix 1024 (fun x => rg r1 (sb x v true)) wk) fi fa) := by
  refine ct_intro (cc := b_M_cut) (nL := 6) (by decide) [(0, .ref (b 0)), (1, .int (nI t)), (2, .int (nI r1)), (3, .int (nI v)), (4, .int (bI true))] rfl (Nat.le_of_ble_eq_true rfl) ?_
  intro p e s m below meth c A h hr
  refine r_aload_n (pc := 0) h 0 d_M_cut_0 rfl rfl ?_
  refine r_iload_n (pc := 1) h 1 d_M_cut_1 rfl rfl ?_
  refine r_invSa (pc := 2) h (st := [.ref (b 0)]) d_M_cut_2 (c_none_f t ht) (r_cS h wc_M_none w_378 w_3 w_379 hd_M_none ⟨(Nat.le_of_ble_eq_true rfl), (Nat.le_of_ble_eq_true rfl)⟩ rfl rfl) rfl rfl (Nat.le_of_ble_eq_true rfl) ⟨(Nat.le_of_ble_eq_true rfl), (Nat.le_of_ble_eq_true rfl)⟩ rfl ?_
  refine r_if_ne_f (pc := 5) h (tgt := 22) d_M_cut_5 (by decide) rfl ?_
  refine r_iload_n (pc := 8) h 2 d_M_cut_8 rfl rfl ?_
  refine r_invSa (pc := 9) h (st := [.ref (b 0)]) d_M_cut_9 (c_none_f r1 h1) (r_cS h wc_M_none w_378 w_3 w_379 hd_M_none ⟨(Nat.le_of_ble_eq_true rfl), (Nat.le_of_ble_eq_true rfl)⟩ rfl rfl) rfl rfl (Nat.le_of_ble_eq_true rfl) ⟨(Nat.le_of_ble_eq_true rfl), (Nat.le_of_ble_eq_true rfl)⟩ rfl ?_
  refine r_if_ne_f (pc := 12) h (tgt := 22) d_M_cut_12 (by decide) rfl ?_
  refine r_iload_n (pc := 15) h 3 d_M_cut_15 rfl rfl ?_
  refine r_invSa (pc := 16) h (st := [.ref (b 0)]) d_M_cut_16 (c_outside_f v hv) (r_cS h wc_M_outside w_381 w_3 w_382 hd_M_outside ⟨(Nat.le_of_ble_eq_true rfl), (Nat.le_of_ble_eq_true rfl)⟩ rfl rfl) rfl rfl (Nat.le_of_ble_eq_true rfl) ⟨(Nat.le_of_ble_eq_true rfl), (Nat.le_of_ble_eq_true rfl)⟩ rfl ?_
  refine r_if_eq_t (pc := 19) h (tgt := 26) d_M_cut_19 (by decide) rfl ?_
  refine r_iconst (pc := 26) h (v := bI false) d_M_cut_26 (by decide) ?_
  refine r_invVa (pc := 27) h 0 (st := []) d_M_cut_27 c_bad_false (r_cV h wc_M_bad w_384 w_3 w_386 (TT_se (q := (y_M_bad, 5)) 10 rfl) hd_M_bad ⟨(Nat.le_of_ble_eq_true rfl), (Nat.le_of_ble_eq_true rfl)⟩ rfl rfl) mw_0 rfl rfl rfl (Nat.le_of_ble_eq_true rfl) ⟨(Nat.le_of_ble_eq_true rfl), (Nat.le_of_ble_eq_true rfl)⟩ mw_adr ?_
  refine r_if_eq_t (pc := 30) h (tgt := 34) d_M_cut_30 (by decide) rfl ?_
  refine r_iconst (pc := 34) h (v := nI 0) d_M_cut_34 (by decide) ?_
  refine r_istore (pc := 35) h (lv' := [(5, .int (nI 0)), (0, .ref (b 0)), (1, .int (nI t)), (2, .int (nI r1)), (3, .int (nI v)), (4, .int (bI true))]) d_M_cut_35 (by decide) rfl ?_
  refine Wv.wld (ws' := (mw G b (bI false) rg (mix 0 (fun x => rg r1 (sb x v true)) wk) fi fa)) (by rw [mix_0]) ?_
  refine Wv.loop 1024 (fun i => (mw G b (bI false) rg (mix i (fun x => rg r1 (sb x v true)) wk) fi fa)) (fun i => [(5, .int (nI i)), (0, .ref (b 0)), (1, .int (nI t)), (2, .int (nI r1)), (3, .int (nI v)), (4, .int (bI true))]) ?_ ?_
  · show Wv p l e _ s m _ below meth c G A _ _ _ _ (mw G b (bI false) rg (mix 1024 (fun x => rg r1 (sb x v true)) wk) fi fa) 37 [(5, .int (nI 1024)), (0, .ref (b 0)), (1, .int (nI t)), (2, .int (nI r1)), (3, .int (nI v)), (4, .int (bI true))] []
    refine r_iload (pc := 37) h 0 d_M_cut_37 rfl ?_
    refine r_sipush (pc := 39) h (v := nI 1024) d_M_cut_39 (by decide) ?_
    refine r_icmp_ge_t (pc := 42) h (tgt := 87) d_M_cut_42 (by decide) (nI_le (Nat.le_refl _) (by decide)) ?_
    refine r_aload_n (pc := 87) h 1 d_M_cut_87 rfl rfl ?_
    refine r_iload_n (pc := 88) h 2 d_M_cut_88 rfl rfl ?_
    refine r_invVv (pc := 89) h 0 (st := []) d_M_cut_89 (c_keep t ht) (r_cV h wc_M_keep w_399 w_3 w_401 (TT_se (q := (y_M_keep, 5)) 11 rfl) hd_M_keep ⟨(Nat.le_of_ble_eq_true rfl), (Nat.le_of_ble_eq_true rfl)⟩ rfl rfl) mw_0 rfl rfl rfl (Nat.le_of_ble_eq_true rfl) ⟨(Nat.le_of_ble_eq_true rfl), (Nat.le_of_ble_eq_true rfl)⟩ mw_adr ?_
    exact r_vret (pc := 92) h hr d_M_cut_92
  · intro i hi ih
    have ih : Wv p l e _ s m _ below meth c G A _ _ _ _ (mw G b (bI false) rg (mix (i + 1) (fun x => rg r1 (sb x v true)) wk) fi fa) 37 [(5, .int (nI (i + 1))), (0, .ref (b 0)), (1, .int (nI t)), (2, .int (nI r1)), (3, .int (nI v)), (4, .int (bI true))] [] := ih
    show Wv p l e _ s m _ below meth c G A _ _ _ _ (mw G b (bI false) rg (mix i (fun x => rg r1 (sb x v true)) wk) fi fa) 37 [(5, .int (nI i)), (0, .ref (b 0)), (1, .int (nI t)), (2, .int (nI r1)), (3, .int (nI v)), (4, .int (bI true))] []
    refine r_iload (pc := 37) h 0 d_M_cut_37 rfl ?_
    refine r_sipush (pc := 39) h (v := nI 1024) d_M_cut_39 (by decide) ?_
    refine r_icmp_ge_f (pc := 42) h (tgt := 87) d_M_cut_42 (by decide) (nI_ge hi (by decide)) ?_
    refine r_aload_n (pc := 45) h 1 d_M_cut_45 rfl rfl ?_
    refine r_get (pc := 46) h 0 2 d_M_cut_46 mw_0 rfl (by decide) in_M (List.mem_cons_of_mem _ w_355) rfl ?_
    refine r_iload (pc := 49) h 0 d_M_cut_49 rfl ?_
    refine r_aload_n (pc := 51) h 1 d_M_cut_51 rfl rfl ?_
    refine r_get (pc := 52) h 0 1 d_M_cut_52 mw_0 rfl (by decide) in_M (List.mem_cons_of_mem _ w_354) rfl ?_
    refine r_iload_n (pc := 55) h 3 d_M_cut_55 rfl rfl ?_
    refine r_aaload (pc := 56) h 1 4 r1 d_M_cut_56 mw_1 rfl rfl rfl h1 (by decide) (mw_o h1) ?_
    refine r_iload (pc := 57) h 5 d_M_cut_57 rfl ?_
    refine r_if_eq_f (pc := 59) h (tgt := 71) d_M_cut_59 (by decide) (by decide) ?_
    refine r_iload (pc := 62) h 0 d_M_cut_62 rfl ?_
    refine r_iconst (pc := 64) h (v := nI 1) d_M_cut_64 (by decide) ?_
    refine r_iload_n (pc := 65) h 4 d_M_cut_65 rfl rfl ?_
    refine r_ishl (pc := 66) h (z := nI (2 ^ v)) d_M_cut_66 (nx_pw (by omega)) ?_
    refine r_ior (pc := 67) h (z := nI (sb i v true)) d_M_cut_67 (by rw [nx_or, sb_or]) ?_
    refine r_goto (pc := 68) h (tgt := 79) d_M_cut_68 (by decide) ?_
    refine r_baload (pc := 79) h (5 + r1) (z := bI (rg r1 (sb i v true))) (sb i v true) d_M_cut_79 (mw_r h1) rfl (sb_lt hi hv) (by decide) rfl ?_
    refine r_bastore (pc := 80) h 2 (ws' := (mw G b (bI false) rg (mix (i + 1) (fun x => rg r1 (sb x v true)) wk) fi fa)) i d_M_cut_80 mw_2 rfl hi (by decide) (bI_nar _) (by rw [upd_b, mix_up i (fun x => rg r1 (sb x v true)) wk]; exact mw_s2) ?_
    refine r_iinc (pc := 81) h (v := nI (i + 1)) (lv' := [(5, .int (nI (i + 1))), (0, .ref (b 0)), (1, .int (nI t)), (2, .int (nI r1)), (3, .int (nI v)), (4, .int (bI true))]) 0 d_M_cut_81 rfl (nI_inc i) (by decide) rfl ?_
    refine r_goto (pc := 84) h (tgt := 37) d_M_cut_84 (by decide) ?_
    exact ih
theorem m_cut_false (t : Nat) (ht : t < 16) (r1 v : Nat) (h1 : r1 < 16) (hv : v < 10) : Ct l y_M_cut (.code y_M_cut b_M_cut 6 none :: TT) (rmF 2 61) G [.ref (b 0), .int (nI t), .int (nI r1), .int (nI v), .int (bI false)] (mw G b th rg wk fi fa) none (mw G b (bI false) (va_up rg t (mix 1024 (mix 1024 (fun x => rg r1 (sb x v false)) wk) (rg t))) (mix 1024 (fun x => rg r1 (sb x v false)) wk) fi fa) := by
  refine ct_intro (cc := b_M_cut) (nL := 6) (by decide) [(0, .ref (b 0)), (1, .int (nI t)), (2, .int (nI r1)), (3, .int (nI v)), (4, .int (bI false))] rfl (Nat.le_of_ble_eq_true rfl) ?_
  intro p e s m below meth c A h hr
  refine r_aload_n (pc := 0) h 0 d_M_cut_0 rfl rfl ?_
  refine r_iload_n (pc := 1) h 1 d_M_cut_1 rfl rfl ?_
  refine r_invSa (pc := 2) h (st := [.ref (b 0)]) d_M_cut_2 (c_none_f t ht) (r_cS h wc_M_none w_378 w_3 w_379 hd_M_none ⟨(Nat.le_of_ble_eq_true rfl), (Nat.le_of_ble_eq_true rfl)⟩ rfl rfl) rfl rfl (Nat.le_of_ble_eq_true rfl) ⟨(Nat.le_of_ble_eq_true rfl), (Nat.le_of_ble_eq_true rfl)⟩ rfl ?_
  refine r_if_ne_f (pc := 5) h (tgt := 22) d_M_cut_5 (by decide) rfl ?_
  refine r_iload_n (pc := 8) h 2 d_M_cut_8 rfl rfl ?_
  refine r_invSa (pc := 9) h (st := [.ref (b 0)]) d_M_cut_9 (c_none_f r1 h1) (r_cS h wc_M_none w_378 w_3 w_379 hd_M_none ⟨(Nat.le_of_ble_eq_true rfl), (Nat.le_of_ble_eq_true rfl)⟩ rfl rfl) rfl rfl (Nat.le_of_ble_eq_true rfl) ⟨(Nat.le_of_ble_eq_true rfl), (Nat.le_of_ble_eq_true rfl)⟩ rfl ?_
  refine r_if_ne_f (pc := 12) h (tgt := 22) d_M_cut_12 (by decide) rfl ?_
  refine r_iload_n (pc := 15) h 3 d_M_cut_15 rfl rfl ?_
  refine r_invSa (pc := 16) h (st := [.ref (b 0)]) d_M_cut_16 (c_outside_f v hv) (r_cS h wc_M_outside w_381 w_3 w_382 hd_M_outside ⟨(Nat.le_of_ble_eq_true rfl), (Nat.le_of_ble_eq_true rfl)⟩ rfl rfl) rfl rfl (Nat.le_of_ble_eq_true rfl) ⟨(Nat.le_of_ble_eq_true rfl), (Nat.le_of_ble_eq_true rfl)⟩ rfl ?_
  refine r_if_eq_t (pc := 19) h (tgt := 26) d_M_cut_19 (by decide) rfl ?_
  refine r_iconst (pc := 26) h (v := bI false) d_M_cut_26 (by decide) ?_
  refine r_invVa (pc := 27) h 0 (st := []) d_M_cut_27 c_bad_false (r_cV h wc_M_bad w_384 w_3 w_386 (TT_se (q := (y_M_bad, 5)) 10 rfl) hd_M_bad ⟨(Nat.le_of_ble_eq_true rfl), (Nat.le_of_ble_eq_true rfl)⟩ rfl rfl) mw_0 rfl rfl rfl (Nat.le_of_ble_eq_true rfl) ⟨(Nat.le_of_ble_eq_true rfl), (Nat.le_of_ble_eq_true rfl)⟩ mw_adr ?_
  refine r_if_eq_t (pc := 30) h (tgt := 34) d_M_cut_30 (by decide) rfl ?_
  refine r_iconst (pc := 34) h (v := nI 0) d_M_cut_34 (by decide) ?_
  refine r_istore (pc := 35) h (lv' := [(5, .int (nI 0)), (0, .ref (b 0)), (1, .int (nI t)), (2, .int (nI r1)), (3, .int (nI v)), (4, .int (bI false))]) d_M_cut_35 (by decide) rfl ?_
  refine Wv.wld (ws' := (mw G b (bI false) rg (mix 0 (fun x => rg r1 (sb x v false)) wk) fi fa)) (by rw [mix_0]) ?_
  refine Wv.loop 1024 (fun i => (mw G b (bI false) rg (mix i (fun x => rg r1 (sb x v false)) wk) fi fa)) (fun i => [(5, .int (nI i)), (0, .ref (b 0)), (1, .int (nI t)), (2, .int (nI r1)), (3, .int (nI v)), (4, .int (bI false))]) ?_ ?_
  · show Wv p l e _ s m _ below meth c G A _ _ _ _ (mw G b (bI false) rg (mix 1024 (fun x => rg r1 (sb x v false)) wk) fi fa) 37 [(5, .int (nI 1024)), (0, .ref (b 0)), (1, .int (nI t)), (2, .int (nI r1)), (3, .int (nI v)), (4, .int (bI false))] []
    refine r_iload (pc := 37) h 0 d_M_cut_37 rfl ?_
    refine r_sipush (pc := 39) h (v := nI 1024) d_M_cut_39 (by decide) ?_
    refine r_icmp_ge_t (pc := 42) h (tgt := 87) d_M_cut_42 (by decide) (nI_le (Nat.le_refl _) (by decide)) ?_
    refine r_aload_n (pc := 87) h 1 d_M_cut_87 rfl rfl ?_
    refine r_iload_n (pc := 88) h 2 d_M_cut_88 rfl rfl ?_
    refine r_invVv (pc := 89) h 0 (st := []) d_M_cut_89 (c_keep t ht) (r_cV h wc_M_keep w_399 w_3 w_401 (TT_se (q := (y_M_keep, 5)) 11 rfl) hd_M_keep ⟨(Nat.le_of_ble_eq_true rfl), (Nat.le_of_ble_eq_true rfl)⟩ rfl rfl) mw_0 rfl rfl rfl (Nat.le_of_ble_eq_true rfl) ⟨(Nat.le_of_ble_eq_true rfl), (Nat.le_of_ble_eq_true rfl)⟩ mw_adr ?_
    exact r_vret (pc := 92) h hr d_M_cut_92
  · intro i hi ih
    have ih : Wv p l e _ s m _ below meth c G A _ _ _ _ (mw G b (bI false) rg (mix (i + 1) (fun x => rg r1 (sb x v false)) wk) fi fa) 37 [(5, .int (nI (i + 1))), (0, .ref (b 0)), (1, .int (nI t)), (2, .int (nI r1)), (3, .int (nI v)), (4, .int (bI false))] [] := ih
    show Wv p l e _ s m _ below meth c G A _ _ _ _ (mw G b (bI false) rg (mix i (fun x => rg r1 (sb x v false)) wk) fi fa) 37 [(5, .int (nI i)), (0, .ref (b 0)), (1, .int (nI t)), (2, .int (nI r1)), (3, .int (nI v)), (4, .int (bI false))] []
    refine r_iload (pc := 37) h 0 d_M_cut_37 rfl ?_
    refine r_sipush (pc := 39) h (v := nI 1024) d_M_cut_39 (by decide) ?_
    refine r_icmp_ge_f (pc := 42) h (tgt := 87) d_M_cut_42 (by decide) (nI_ge hi (by decide)) ?_
    refine r_aload_n (pc := 45) h 1 d_M_cut_45 rfl rfl ?_
    refine r_get (pc := 46) h 0 2 d_M_cut_46 mw_0 rfl (by decide) in_M (List.mem_cons_of_mem _ w_355) rfl ?_
    refine r_iload (pc := 49) h 0 d_M_cut_49 rfl ?_
    refine r_aload_n (pc := 51) h 1 d_M_cut_51 rfl rfl ?_
    refine r_get (pc := 52) h 0 1 d_M_cut_52 mw_0 rfl (by decide) in_M (List.mem_cons_of_mem _ w_354) rfl ?_
    refine r_iload_n (pc := 55) h 3 d_M_cut_55 rfl rfl ?_
    refine r_aaload (pc := 56) h 1 4 r1 d_M_cut_56 mw_1 rfl rfl rfl h1 (by decide) (mw_o h1) ?_
    refine r_iload (pc := 57) h 5 d_M_cut_57 rfl ?_
    refine r_if_eq_t (pc := 59) h (tgt := 71) d_M_cut_59 (by decide) rfl ?_
    refine r_iload (pc := 71) h 0 d_M_cut_71 rfl ?_
    refine r_iconst (pc := 73) h (v := nI 1) d_M_cut_73 (by decide) ?_
    refine r_iload_n (pc := 74) h 4 d_M_cut_74 rfl rfl ?_
    refine r_ishl (pc := 75) h (z := nI (2 ^ v)) d_M_cut_75 (nx_pw (by omega)) ?_
    refine r_iconst (pc := 76) h (v := (-1)) d_M_cut_76 (by decide) ?_
    refine r_ixor (pc := 77) h (z := nI (2 ^ v ^^^ 4294967295)) d_M_cut_77 (by rw [nx_m1, nx_xor]) ?_
    refine r_iand (pc := 78) h (z := nI (sb i v false)) d_M_cut_78 (by rw [nx_and, sb_and (by omega)]) ?_
    refine r_baload (pc := 79) h (5 + r1) (z := bI (rg r1 (sb i v false))) (sb i v false) d_M_cut_79 (mw_r h1) rfl (sb_lt hi hv) (by decide) rfl ?_
    refine r_bastore (pc := 80) h 2 (ws' := (mw G b (bI false) rg (mix (i + 1) (fun x => rg r1 (sb x v false)) wk) fi fa)) i d_M_cut_80 mw_2 rfl hi (by decide) (bI_nar _) (by rw [upd_b, mix_up i (fun x => rg r1 (sb x v false)) wk]; exact mw_s2) ?_
    refine r_iinc (pc := 81) h (v := nI (i + 1)) (lv' := [(5, .int (nI (i + 1))), (0, .ref (b 0)), (1, .int (nI t)), (2, .int (nI r1)), (3, .int (nI v)), (4, .int (bI false))]) 0 d_M_cut_81 rfl (nI_inc i) (by decide) rfl ?_
    refine r_goto (pc := 84) h (tgt := 37) d_M_cut_84 (by decide) ?_
    exact ih
theorem x_cut (t r1 v : Int32) (z : Int32) (hB : ¬ (okR 16 t ∧ okR 16 r1 ∧ okR 10 v)) : Ct l y_M_cut (.code y_M_cut b_M_cut 6 none :: TT) (rmF 2 61) G [.ref (b 0), .int t, .int r1, .int v, .int z] (mw G b th rg wk fi fa) none (mw G b (bI true) rg wk fi fa) := by
  refine ct_intro (cc := b_M_cut) (nL := 6) (by decide) [(0, .ref (b 0)), (1, .int t), (2, .int r1), (3, .int v), (4, .int z)] rfl (Nat.le_of_ble_eq_true rfl) ?_
  intro p e s m below meth c A h hr
  refine r_aload_n (pc := 0) h 0 d_M_cut_0 rfl rfl ?_
  refine r_iload_n (pc := 1) h 1 d_M_cut_1 rfl rfl ?_
  rcases pk_ix t (n := 16) (by decide) with hN | hN | ⟨j2, hj2, hN2⟩
  · refine r_invSa (pc := 2) h (st := [.ref (b 0)]) d_M_cut_2 (c_none_t t (Or.inl hN)) (r_cS h wc_M_none w_378 w_3 w_379 hd_M_none ⟨(Nat.le_of_ble_eq_true rfl), (Nat.le_of_ble_eq_true rfl)⟩ rfl rfl) rfl rfl (Nat.le_of_ble_eq_true rfl) ⟨(Nat.le_of_ble_eq_true rfl), (Nat.le_of_ble_eq_true rfl)⟩ rfl ?_
    refine r_if_ne_t (pc := 5) h (tgt := 22) d_M_cut_5 (by decide) (by decide) ?_
    refine r_iconst (pc := 22) h (v := bI true) d_M_cut_22 (by decide) ?_
    refine r_goto (pc := 23) h (tgt := 27) d_M_cut_23 (by decide) ?_
    refine r_invVa (pc := 27) h 0 (st := []) d_M_cut_27 c_bad_true (r_cV h wc_M_bad w_384 w_3 w_386 (TT_se (q := (y_M_bad, 5)) 10 rfl) hd_M_bad ⟨(Nat.le_of_ble_eq_true rfl), (Nat.le_of_ble_eq_true rfl)⟩ rfl rfl) mw_0 rfl rfl rfl (Nat.le_of_ble_eq_true rfl) ⟨(Nat.le_of_ble_eq_true rfl), (Nat.le_of_ble_eq_true rfl)⟩ mw_adr ?_
    refine r_if_eq_f (pc := 30) h (tgt := 34) d_M_cut_30 (by decide) (by decide) ?_
    exact r_vret (pc := 33) h hr d_M_cut_33
  · refine r_invSa (pc := 2) h (st := [.ref (b 0)]) d_M_cut_2 (c_none_t t (Or.inr hN)) (r_cS h wc_M_none w_378 w_3 w_379 hd_M_none ⟨(Nat.le_of_ble_eq_true rfl), (Nat.le_of_ble_eq_true rfl)⟩ rfl rfl) rfl rfl (Nat.le_of_ble_eq_true rfl) ⟨(Nat.le_of_ble_eq_true rfl), (Nat.le_of_ble_eq_true rfl)⟩ rfl ?_
    refine r_if_ne_t (pc := 5) h (tgt := 22) d_M_cut_5 (by decide) (by decide) ?_
    refine r_iconst (pc := 22) h (v := bI true) d_M_cut_22 (by decide) ?_
    refine r_goto (pc := 23) h (tgt := 27) d_M_cut_23 (by decide) ?_
    refine r_invVa (pc := 27) h 0 (st := []) d_M_cut_27 c_bad_true (r_cV h wc_M_bad w_384 w_3 w_386 (TT_se (q := (y_M_bad, 5)) 10 rfl) hd_M_bad ⟨(Nat.le_of_ble_eq_true rfl), (Nat.le_of_ble_eq_true rfl)⟩ rfl rfl) mw_0 rfl rfl rfl (Nat.le_of_ble_eq_true rfl) ⟨(Nat.le_of_ble_eq_true rfl), (Nat.le_of_ble_eq_true rfl)⟩ mw_adr ?_
    refine r_if_eq_f (pc := 30) h (tgt := 34) d_M_cut_30 (by decide) (by decide) ?_
    exact r_vret (pc := 33) h hr d_M_cut_33
  · subst hN2
    refine r_invSa (pc := 2) h (st := [.ref (b 0)]) d_M_cut_2 (c_none_f j2 hj2) (r_cS h wc_M_none w_378 w_3 w_379 hd_M_none ⟨(Nat.le_of_ble_eq_true rfl), (Nat.le_of_ble_eq_true rfl)⟩ rfl rfl) rfl rfl (Nat.le_of_ble_eq_true rfl) ⟨(Nat.le_of_ble_eq_true rfl), (Nat.le_of_ble_eq_true rfl)⟩ rfl ?_
    refine r_if_ne_f (pc := 5) h (tgt := 22) d_M_cut_5 (by decide) rfl ?_
    refine r_iload_n (pc := 8) h 2 d_M_cut_8 rfl rfl ?_
    rcases pk_ix r1 (n := 16) (by decide) with hN | hN | ⟨j9, hj9, hN9⟩
    · refine r_invSa (pc := 9) h (st := [.ref (b 0)]) d_M_cut_9 (c_none_t r1 (Or.inl hN)) (r_cS h wc_M_none w_378 w_3 w_379 hd_M_none ⟨(Nat.le_of_ble_eq_true rfl), (Nat.le_of_ble_eq_true rfl)⟩ rfl rfl) rfl rfl (Nat.le_of_ble_eq_true rfl) ⟨(Nat.le_of_ble_eq_true rfl), (Nat.le_of_ble_eq_true rfl)⟩ rfl ?_
      refine r_if_ne_t (pc := 12) h (tgt := 22) d_M_cut_12 (by decide) (by decide) ?_
      refine r_iconst (pc := 22) h (v := bI true) d_M_cut_22 (by decide) ?_
      refine r_goto (pc := 23) h (tgt := 27) d_M_cut_23 (by decide) ?_
      refine r_invVa (pc := 27) h 0 (st := []) d_M_cut_27 c_bad_true (r_cV h wc_M_bad w_384 w_3 w_386 (TT_se (q := (y_M_bad, 5)) 10 rfl) hd_M_bad ⟨(Nat.le_of_ble_eq_true rfl), (Nat.le_of_ble_eq_true rfl)⟩ rfl rfl) mw_0 rfl rfl rfl (Nat.le_of_ble_eq_true rfl) ⟨(Nat.le_of_ble_eq_true rfl), (Nat.le_of_ble_eq_true rfl)⟩ mw_adr ?_
      refine r_if_eq_f (pc := 30) h (tgt := 34) d_M_cut_30 (by decide) (by decide) ?_
      exact r_vret (pc := 33) h hr d_M_cut_33
    · refine r_invSa (pc := 9) h (st := [.ref (b 0)]) d_M_cut_9 (c_none_t r1 (Or.inr hN)) (r_cS h wc_M_none w_378 w_3 w_379 hd_M_none ⟨(Nat.le_of_ble_eq_true rfl), (Nat.le_of_ble_eq_true rfl)⟩ rfl rfl) rfl rfl (Nat.le_of_ble_eq_true rfl) ⟨(Nat.le_of_ble_eq_true rfl), (Nat.le_of_ble_eq_true rfl)⟩ rfl ?_
      refine r_if_ne_t (pc := 12) h (tgt := 22) d_M_cut_12 (by decide) (by decide) ?_
      refine r_iconst (pc := 22) h (v := bI true) d_M_cut_22 (by decide) ?_
      refine r_goto (pc := 23) h (tgt := 27) d_M_cut_23 (by decide) ?_
      refine r_invVa (pc := 27) h 0 (st := []) d_M_cut_27 c_bad_true (r_cV h wc_M_bad w_384 w_3 w_386 (TT_se (q := (y_M_bad, 5)) 10 rfl) hd_M_bad ⟨(Nat.le_of_ble_eq_true rfl), (Nat.le_of_ble_eq_true rfl)⟩ rfl rfl) mw_0 rfl rfl rfl (Nat.le_of_ble_eq_true rfl) ⟨(Nat.le_of_ble_eq_true rfl), (Nat.le_of_ble_eq_true rfl)⟩ mw_adr ?_
      refine r_if_eq_f (pc := 30) h (tgt := 34) d_M_cut_30 (by decide) (by decide) ?_
      exact r_vret (pc := 33) h hr d_M_cut_33
    · subst hN9
      refine r_invSa (pc := 9) h (st := [.ref (b 0)]) d_M_cut_9 (c_none_f j9 hj9) (r_cS h wc_M_none w_378 w_3 w_379 hd_M_none ⟨(Nat.le_of_ble_eq_true rfl), (Nat.le_of_ble_eq_true rfl)⟩ rfl rfl) rfl rfl (Nat.le_of_ble_eq_true rfl) ⟨(Nat.le_of_ble_eq_true rfl), (Nat.le_of_ble_eq_true rfl)⟩ rfl ?_
      refine r_if_ne_f (pc := 12) h (tgt := 22) d_M_cut_12 (by decide) rfl ?_
      refine r_iload_n (pc := 15) h 3 d_M_cut_15 rfl rfl ?_
      rcases pk_ix v (n := 10) (by decide) with hN | hN | ⟨j16, hj16, hN16⟩
      · refine r_invSa (pc := 16) h (st := [.ref (b 0)]) d_M_cut_16 (c_outside_t v (Or.inl hN)) (r_cS h wc_M_outside w_381 w_3 w_382 hd_M_outside ⟨(Nat.le_of_ble_eq_true rfl), (Nat.le_of_ble_eq_true rfl)⟩ rfl rfl) rfl rfl (Nat.le_of_ble_eq_true rfl) ⟨(Nat.le_of_ble_eq_true rfl), (Nat.le_of_ble_eq_true rfl)⟩ rfl ?_
        refine r_if_eq_f (pc := 19) h (tgt := 26) d_M_cut_19 (by decide) (by decide) ?_
        refine r_iconst (pc := 22) h (v := bI true) d_M_cut_22 (by decide) ?_
        refine r_goto (pc := 23) h (tgt := 27) d_M_cut_23 (by decide) ?_
        refine r_invVa (pc := 27) h 0 (st := []) d_M_cut_27 c_bad_true (r_cV h wc_M_bad w_384 w_3 w_386 (TT_se (q := (y_M_bad, 5)) 10 rfl) hd_M_bad ⟨(Nat.le_of_ble_eq_true rfl), (Nat.le_of_ble_eq_true rfl)⟩ rfl rfl) mw_0 rfl rfl rfl (Nat.le_of_ble_eq_true rfl) ⟨(Nat.le_of_ble_eq_true rfl), (Nat.le_of_ble_eq_true rfl)⟩ mw_adr ?_
        refine r_if_eq_f (pc := 30) h (tgt := 34) d_M_cut_30 (by decide) (by decide) ?_
        exact r_vret (pc := 33) h hr d_M_cut_33
      · refine r_invSa (pc := 16) h (st := [.ref (b 0)]) d_M_cut_16 (c_outside_t v (Or.inr hN)) (r_cS h wc_M_outside w_381 w_3 w_382 hd_M_outside ⟨(Nat.le_of_ble_eq_true rfl), (Nat.le_of_ble_eq_true rfl)⟩ rfl rfl) rfl rfl (Nat.le_of_ble_eq_true rfl) ⟨(Nat.le_of_ble_eq_true rfl), (Nat.le_of_ble_eq_true rfl)⟩ rfl ?_
        refine r_if_eq_f (pc := 19) h (tgt := 26) d_M_cut_19 (by decide) (by decide) ?_
        refine r_iconst (pc := 22) h (v := bI true) d_M_cut_22 (by decide) ?_
        refine r_goto (pc := 23) h (tgt := 27) d_M_cut_23 (by decide) ?_
        refine r_invVa (pc := 27) h 0 (st := []) d_M_cut_27 c_bad_true (r_cV h wc_M_bad w_384 w_3 w_386 (TT_se (q := (y_M_bad, 5)) 10 rfl) hd_M_bad ⟨(Nat.le_of_ble_eq_true rfl), (Nat.le_of_ble_eq_true rfl)⟩ rfl rfl) mw_0 rfl rfl rfl (Nat.le_of_ble_eq_true rfl) ⟨(Nat.le_of_ble_eq_true rfl), (Nat.le_of_ble_eq_true rfl)⟩ mw_adr ?_
        refine r_if_eq_f (pc := 30) h (tgt := 34) d_M_cut_30 (by decide) (by decide) ?_
        exact r_vret (pc := 33) h hr d_M_cut_33
      · exfalso
        exact hB ⟨⟨j2, hj2, rfl⟩, ⟨j9, hj9, rfl⟩, ⟨j16, hj16, hN16⟩⟩
theorem m_put (t : Nat) (ht : t < 16) (r1 v r2 : Nat) (h1 : r1 < 16) (hv : v < 10) (h2 : r2 < 16) : Ct l y_M_put (.code y_M_put b_M_put 6 none :: TT) (rmF 2 61) G [.ref (b 0), .int (nI t), .int (nI r1), .int (nI v), .int (nI r2)] (mw G b th rg wk fi fa) none (mw G b (bI false) (va_up rg t (mix 1024 (mix 1024 (fun x => rg r1 (sb x v (rg r2 x))) wk) (rg t))) (mix 1024 (fun x => rg r1 (sb x v (rg r2 x))) wk) fi fa) := by
  refine ct_intro (cc := b_M_put) (nL := 6) (by decide) [(0, .ref (b 0)), (1, .int (nI t)), (2, .int (nI r1)), (3, .int (nI v)), (4, .int (nI r2))] rfl (Nat.le_of_ble_eq_true rfl) ?_
  intro p e s m below meth c A h hr
  refine r_aload_n (pc := 0) h 0 d_M_put_0 rfl rfl ?_
  refine r_iload_n (pc := 1) h 1 d_M_put_1 rfl rfl ?_
  refine r_invSa (pc := 2) h (st := [.ref (b 0)]) d_M_put_2 (c_none_f t ht) (r_cS h wc_M_none w_378 w_3 w_379 hd_M_none ⟨(Nat.le_of_ble_eq_true rfl), (Nat.le_of_ble_eq_true rfl)⟩ rfl rfl) rfl rfl (Nat.le_of_ble_eq_true rfl) ⟨(Nat.le_of_ble_eq_true rfl), (Nat.le_of_ble_eq_true rfl)⟩ rfl ?_
  refine r_if_ne_f (pc := 5) h (tgt := 30) d_M_put_5 (by decide) rfl ?_
  refine r_iload_n (pc := 8) h 2 d_M_put_8 rfl rfl ?_
  refine r_invSa (pc := 9) h (st := [.ref (b 0)]) d_M_put_9 (c_none_f r1 h1) (r_cS h wc_M_none w_378 w_3 w_379 hd_M_none ⟨(Nat.le_of_ble_eq_true rfl), (Nat.le_of_ble_eq_true rfl)⟩ rfl rfl) rfl rfl (Nat.le_of_ble_eq_true rfl) ⟨(Nat.le_of_ble_eq_true rfl), (Nat.le_of_ble_eq_true rfl)⟩ rfl ?_
  refine r_if_ne_f (pc := 12) h (tgt := 30) d_M_put_12 (by decide) rfl ?_
  refine r_iload_n (pc := 15) h 3 d_M_put_15 rfl rfl ?_
  refine r_invSa (pc := 16) h (st := [.ref (b 0)]) d_M_put_16 (c_outside_f v hv) (r_cS h wc_M_outside w_381 w_3 w_382 hd_M_outside ⟨(Nat.le_of_ble_eq_true rfl), (Nat.le_of_ble_eq_true rfl)⟩ rfl rfl) rfl rfl (Nat.le_of_ble_eq_true rfl) ⟨(Nat.le_of_ble_eq_true rfl), (Nat.le_of_ble_eq_true rfl)⟩ rfl ?_
  refine r_if_ne_f (pc := 19) h (tgt := 30) d_M_put_19 (by decide) rfl ?_
  refine r_iload (pc := 22) h 4 d_M_put_22 rfl ?_
  refine r_invSa (pc := 24) h (st := [.ref (b 0)]) d_M_put_24 (c_none_f r2 h2) (r_cS h wc_M_none w_378 w_3 w_379 hd_M_none ⟨(Nat.le_of_ble_eq_true rfl), (Nat.le_of_ble_eq_true rfl)⟩ rfl rfl) rfl rfl (Nat.le_of_ble_eq_true rfl) ⟨(Nat.le_of_ble_eq_true rfl), (Nat.le_of_ble_eq_true rfl)⟩ rfl ?_
  refine r_if_eq_t (pc := 27) h (tgt := 34) d_M_put_27 (by decide) rfl ?_
  refine r_iconst (pc := 34) h (v := bI false) d_M_put_34 (by decide) ?_
  refine r_invVa (pc := 35) h 0 (st := []) d_M_put_35 c_bad_false (r_cV h wc_M_bad w_384 w_3 w_386 (TT_se (q := (y_M_bad, 5)) 10 rfl) hd_M_bad ⟨(Nat.le_of_ble_eq_true rfl), (Nat.le_of_ble_eq_true rfl)⟩ rfl rfl) mw_0 rfl rfl rfl (Nat.le_of_ble_eq_true rfl) ⟨(Nat.le_of_ble_eq_true rfl), (Nat.le_of_ble_eq_true rfl)⟩ mw_adr ?_
  refine r_if_eq_t (pc := 38) h (tgt := 42) d_M_put_38 (by decide) rfl ?_
  refine r_iconst (pc := 42) h (v := nI 0) d_M_put_42 (by decide) ?_
  refine r_istore (pc := 43) h (lv' := [(5, .int (nI 0)), (0, .ref (b 0)), (1, .int (nI t)), (2, .int (nI r1)), (3, .int (nI v)), (4, .int (nI r2))]) d_M_put_43 (by decide) rfl ?_
  refine Wv.wld (ws' := (mw G b (bI false) rg (mix 0 (fun x => rg r1 (sb x v (rg r2 x))) wk) fi fa)) (by rw [mix_0]) ?_
  refine Wv.loop 1024 (fun i => (mw G b (bI false) rg (mix i (fun x => rg r1 (sb x v (rg r2 x))) wk) fi fa)) (fun i => [(5, .int (nI i)), (0, .ref (b 0)), (1, .int (nI t)), (2, .int (nI r1)), (3, .int (nI v)), (4, .int (nI r2))]) ?_ ?_
  · show Wv p l e _ s m _ below meth c G A _ _ _ _ (mw G b (bI false) rg (mix 1024 (fun x => rg r1 (sb x v (rg r2 x))) wk) fi fa) 45 [(5, .int (nI 1024)), (0, .ref (b 0)), (1, .int (nI t)), (2, .int (nI r1)), (3, .int (nI v)), (4, .int (nI r2))] []
    refine r_iload (pc := 45) h 0 d_M_put_45 rfl ?_
    refine r_sipush (pc := 47) h (v := nI 1024) d_M_put_47 (by decide) ?_
    refine r_icmp_ge_t (pc := 50) h (tgt := 103) d_M_put_50 (by decide) (nI_le (Nat.le_refl _) (by decide)) ?_
    refine r_aload_n (pc := 103) h 1 d_M_put_103 rfl rfl ?_
    refine r_iload_n (pc := 104) h 2 d_M_put_104 rfl rfl ?_
    refine r_invVv (pc := 105) h 0 (st := []) d_M_put_105 (c_keep t ht) (r_cV h wc_M_keep w_399 w_3 w_401 (TT_se (q := (y_M_keep, 5)) 11 rfl) hd_M_keep ⟨(Nat.le_of_ble_eq_true rfl), (Nat.le_of_ble_eq_true rfl)⟩ rfl rfl) mw_0 rfl rfl rfl (Nat.le_of_ble_eq_true rfl) ⟨(Nat.le_of_ble_eq_true rfl), (Nat.le_of_ble_eq_true rfl)⟩ mw_adr ?_
    exact r_vret (pc := 108) h hr d_M_put_108
  · intro i hi ih
    have ih : Wv p l e _ s m _ below meth c G A _ _ _ _ (mw G b (bI false) rg (mix (i + 1) (fun x => rg r1 (sb x v (rg r2 x))) wk) fi fa) 45 [(5, .int (nI (i + 1))), (0, .ref (b 0)), (1, .int (nI t)), (2, .int (nI r1)), (3, .int (nI v)), (4, .int (nI r2))] [] := ih
    show Wv p l e _ s m _ below meth c G A _ _ _ _ (mw G b (bI false) rg (mix i (fun x => rg r1 (sb x v (rg r2 x))) wk) fi fa) 45 [(5, .int (nI i)), (0, .ref (b 0)), (1, .int (nI t)), (2, .int (nI r1)), (3, .int (nI v)), (4, .int (nI r2))] []
    refine r_iload (pc := 45) h 0 d_M_put_45 rfl ?_
    refine r_sipush (pc := 47) h (v := nI 1024) d_M_put_47 (by decide) ?_
    refine r_icmp_ge_f (pc := 50) h (tgt := 103) d_M_put_50 (by decide) (nI_ge hi (by decide)) ?_
    refine r_aload_n (pc := 53) h 1 d_M_put_53 rfl rfl ?_
    refine r_get (pc := 54) h 0 2 d_M_put_54 mw_0 rfl (by decide) in_M (List.mem_cons_of_mem _ w_355) rfl ?_
    refine r_iload (pc := 57) h 0 d_M_put_57 rfl ?_
    refine r_aload_n (pc := 59) h 1 d_M_put_59 rfl rfl ?_
    refine r_get (pc := 60) h 0 1 d_M_put_60 mw_0 rfl (by decide) in_M (List.mem_cons_of_mem _ w_354) rfl ?_
    refine r_iload_n (pc := 63) h 3 d_M_put_63 rfl rfl ?_
    refine r_aaload (pc := 64) h 1 4 r1 d_M_put_64 mw_1 rfl rfl rfl h1 (by decide) (mw_o h1) ?_
    refine r_aload_n (pc := 65) h 1 d_M_put_65 rfl rfl ?_
    refine r_get (pc := 66) h 0 1 d_M_put_66 mw_0 rfl (by decide) in_M (List.mem_cons_of_mem _ w_354) rfl ?_
    refine r_iload (pc := 69) h 5 d_M_put_69 rfl ?_
    refine r_aaload (pc := 71) h 1 4 r2 d_M_put_71 mw_1 rfl rfl rfl h2 (by decide) (mw_o h2) ?_
    refine r_iload (pc := 72) h 0 d_M_put_72 rfl ?_
    refine r_baload (pc := 74) h (5 + r2) (z := bI (rg r2 i)) i d_M_put_74 (mw_r h2) rfl hi (by decide) rfl ?_
    refine r_if_eq (pc := 75) h (tgt := 87) d_M_put_75 (by decide) (fun q75 => ?_) (fun q75 => ?_)
    · have hb75 := bI_F q75
      refine r_iload (pc := 87) h 0 d_M_put_87 rfl ?_
      refine r_iconst (pc := 89) h (v := nI 1) d_M_put_89 (by decide) ?_
      refine r_iload_n (pc := 90) h 4 d_M_put_90 rfl rfl ?_
      refine r_ishl (pc := 91) h (z := nI (2 ^ v)) d_M_put_91 (nx_pw (by omega)) ?_
      refine r_iconst (pc := 92) h (v := (-1)) d_M_put_92 (by decide) ?_
      refine r_ixor (pc := 93) h (z := nI (2 ^ v ^^^ 4294967295)) d_M_put_93 (by rw [nx_m1, nx_xor]) ?_
      refine r_iand (pc := 94) h (z := nI (sb i v false)) d_M_put_94 (by rw [nx_and, sb_and (by omega)]) ?_
      refine r_baload (pc := 95) h (5 + r1) (z := bI (rg r1 (sb i v false))) (sb i v false) d_M_put_95 (mw_r h1) rfl (sb_lt hi hv) (by decide) rfl ?_
      refine Wv.top (v' := .int (bI (rg r1 (sb i v (rg r2 i))))) (by rw [hb75]) ?_
      refine r_bastore (pc := 96) h 2 (ws' := (mw G b (bI false) rg (mix (i + 1) (fun x => rg r1 (sb x v (rg r2 x))) wk) fi fa)) i d_M_put_96 mw_2 rfl hi (by decide) (bI_nar _) (by rw [upd_b, mix_up i (fun x => rg r1 (sb x v (rg r2 x))) wk]; exact mw_s2) ?_
      refine r_iinc (pc := 97) h (v := nI (i + 1)) (lv' := [(5, .int (nI (i + 1))), (0, .ref (b 0)), (1, .int (nI t)), (2, .int (nI r1)), (3, .int (nI v)), (4, .int (nI r2))]) 0 d_M_put_97 rfl (nI_inc i) (by decide) rfl ?_
      refine r_goto (pc := 100) h (tgt := 45) d_M_put_100 (by decide) ?_
      exact ih
    · have hb75 := bI_T q75
      refine r_iload (pc := 78) h 0 d_M_put_78 rfl ?_
      refine r_iconst (pc := 80) h (v := nI 1) d_M_put_80 (by decide) ?_
      refine r_iload_n (pc := 81) h 4 d_M_put_81 rfl rfl ?_
      refine r_ishl (pc := 82) h (z := nI (2 ^ v)) d_M_put_82 (nx_pw (by omega)) ?_
      refine r_ior (pc := 83) h (z := nI (sb i v true)) d_M_put_83 (by rw [nx_or, sb_or]) ?_
      refine r_goto (pc := 84) h (tgt := 95) d_M_put_84 (by decide) ?_
      refine r_baload (pc := 95) h (5 + r1) (z := bI (rg r1 (sb i v true))) (sb i v true) d_M_put_95 (mw_r h1) rfl (sb_lt hi hv) (by decide) rfl ?_
      refine Wv.top (v' := .int (bI (rg r1 (sb i v (rg r2 i))))) (by rw [hb75]) ?_
      refine r_bastore (pc := 96) h 2 (ws' := (mw G b (bI false) rg (mix (i + 1) (fun x => rg r1 (sb x v (rg r2 x))) wk) fi fa)) i d_M_put_96 mw_2 rfl hi (by decide) (bI_nar _) (by rw [upd_b, mix_up i (fun x => rg r1 (sb x v (rg r2 x))) wk]; exact mw_s2) ?_
      refine r_iinc (pc := 97) h (v := nI (i + 1)) (lv' := [(5, .int (nI (i + 1))), (0, .ref (b 0)), (1, .int (nI t)), (2, .int (nI r1)), (3, .int (nI v)), (4, .int (nI r2))]) 0 d_M_put_97 rfl (nI_inc i) (by decide) rfl ?_
      refine r_goto (pc := 100) h (tgt := 45) d_M_put_100 (by decide) ?_
      exact ih
theorem x_put (t r1 v r2 : Int32)  (hB : ¬ (okR 16 t ∧ okR 16 r1 ∧ okR 10 v ∧ okR 16 r2)) : Ct l y_M_put (.code y_M_put b_M_put 6 none :: TT) (rmF 2 61) G [.ref (b 0), .int t, .int r1, .int v, .int r2] (mw G b th rg wk fi fa) none (mw G b (bI true) rg wk fi fa) := by
  refine ct_intro (cc := b_M_put) (nL := 6) (by decide) [(0, .ref (b 0)), (1, .int t), (2, .int r1), (3, .int v), (4, .int r2)] rfl (Nat.le_of_ble_eq_true rfl) ?_
  intro p e s m below meth c A h hr
  refine r_aload_n (pc := 0) h 0 d_M_put_0 rfl rfl ?_
  refine r_iload_n (pc := 1) h 1 d_M_put_1 rfl rfl ?_
  rcases pk_ix t (n := 16) (by decide) with hN | hN | ⟨j2, hj2, hN2⟩
  · refine r_invSa (pc := 2) h (st := [.ref (b 0)]) d_M_put_2 (c_none_t t (Or.inl hN)) (r_cS h wc_M_none w_378 w_3 w_379 hd_M_none ⟨(Nat.le_of_ble_eq_true rfl), (Nat.le_of_ble_eq_true rfl)⟩ rfl rfl) rfl rfl (Nat.le_of_ble_eq_true rfl) ⟨(Nat.le_of_ble_eq_true rfl), (Nat.le_of_ble_eq_true rfl)⟩ rfl ?_
    refine r_if_ne_t (pc := 5) h (tgt := 30) d_M_put_5 (by decide) (by decide) ?_
    refine r_iconst (pc := 30) h (v := bI true) d_M_put_30 (by decide) ?_
    refine r_goto (pc := 31) h (tgt := 35) d_M_put_31 (by decide) ?_
    refine r_invVa (pc := 35) h 0 (st := []) d_M_put_35 c_bad_true (r_cV h wc_M_bad w_384 w_3 w_386 (TT_se (q := (y_M_bad, 5)) 10 rfl) hd_M_bad ⟨(Nat.le_of_ble_eq_true rfl), (Nat.le_of_ble_eq_true rfl)⟩ rfl rfl) mw_0 rfl rfl rfl (Nat.le_of_ble_eq_true rfl) ⟨(Nat.le_of_ble_eq_true rfl), (Nat.le_of_ble_eq_true rfl)⟩ mw_adr ?_
    refine r_if_eq_f (pc := 38) h (tgt := 42) d_M_put_38 (by decide) (by decide) ?_
    exact r_vret (pc := 41) h hr d_M_put_41
  · refine r_invSa (pc := 2) h (st := [.ref (b 0)]) d_M_put_2 (c_none_t t (Or.inr hN)) (r_cS h wc_M_none w_378 w_3 w_379 hd_M_none ⟨(Nat.le_of_ble_eq_true rfl), (Nat.le_of_ble_eq_true rfl)⟩ rfl rfl) rfl rfl (Nat.le_of_ble_eq_true rfl) ⟨(Nat.le_of_ble_eq_true rfl), (Nat.le_of_ble_eq_true rfl)⟩ rfl ?_
    refine r_if_ne_t (pc := 5) h (tgt := 30) d_M_put_5 (by decide) (by decide) ?_
    refine r_iconst (pc := 30) h (v := bI true) d_M_put_30 (by decide) ?_
    refine r_goto (pc := 31) h (tgt := 35) d_M_put_31 (by decide) ?_
    refine r_invVa (pc := 35) h 0 (st := []) d_M_put_35 c_bad_true (r_cV h wc_M_bad w_384 w_3 w_386 (TT_se (q := (y_M_bad, 5)) 10 rfl) hd_M_bad ⟨(Nat.le_of_ble_eq_true rfl), (Nat.le_of_ble_eq_true rfl)⟩ rfl rfl) mw_0 rfl rfl rfl (Nat.le_of_ble_eq_true rfl) ⟨(Nat.le_of_ble_eq_true rfl), (Nat.le_of_ble_eq_true rfl)⟩ mw_adr ?_
    refine r_if_eq_f (pc := 38) h (tgt := 42) d_M_put_38 (by decide) (by decide) ?_
    exact r_vret (pc := 41) h hr d_M_put_41
  · subst hN2
    refine r_invSa (pc := 2) h (st := [.ref (b 0)]) d_M_put_2 (c_none_f j2 hj2) (r_cS h wc_M_none w_378 w_3 w_379 hd_M_none ⟨(Nat.le_of_ble_eq_true rfl), (Nat.le_of_ble_eq_true rfl)⟩ rfl rfl) rfl rfl (Nat.le_of_ble_eq_true rfl) ⟨(Nat.le_of_ble_eq_true rfl), (Nat.le_of_ble_eq_true rfl)⟩ rfl ?_
    refine r_if_ne_f (pc := 5) h (tgt := 30) d_M_put_5 (by decide) rfl ?_
    refine r_iload_n (pc := 8) h 2 d_M_put_8 rfl rfl ?_
    rcases pk_ix r1 (n := 16) (by decide) with hN | hN | ⟨j9, hj9, hN9⟩
    · refine r_invSa (pc := 9) h (st := [.ref (b 0)]) d_M_put_9 (c_none_t r1 (Or.inl hN)) (r_cS h wc_M_none w_378 w_3 w_379 hd_M_none ⟨(Nat.le_of_ble_eq_true rfl), (Nat.le_of_ble_eq_true rfl)⟩ rfl rfl) rfl rfl (Nat.le_of_ble_eq_true rfl) ⟨(Nat.le_of_ble_eq_true rfl), (Nat.le_of_ble_eq_true rfl)⟩ rfl ?_
      refine r_if_ne_t (pc := 12) h (tgt := 30) d_M_put_12 (by decide) (by decide) ?_
      refine r_iconst (pc := 30) h (v := bI true) d_M_put_30 (by decide) ?_
      refine r_goto (pc := 31) h (tgt := 35) d_M_put_31 (by decide) ?_
      refine r_invVa (pc := 35) h 0 (st := []) d_M_put_35 c_bad_true (r_cV h wc_M_bad w_384 w_3 w_386 (TT_se (q := (y_M_bad, 5)) 10 rfl) hd_M_bad ⟨(Nat.le_of_ble_eq_true rfl), (Nat.le_of_ble_eq_true rfl)⟩ rfl rfl) mw_0 rfl rfl rfl (Nat.le_of_ble_eq_true rfl) ⟨(Nat.le_of_ble_eq_true rfl), (Nat.le_of_ble_eq_true rfl)⟩ mw_adr ?_
      refine r_if_eq_f (pc := 38) h (tgt := 42) d_M_put_38 (by decide) (by decide) ?_
      exact r_vret (pc := 41) h hr d_M_put_41
    · refine r_invSa (pc := 9) h (st := [.ref (b 0)]) d_M_put_9 (c_none_t r1 (Or.inr hN)) (r_cS h wc_M_none w_378 w_3 w_379 hd_M_none ⟨(Nat.le_of_ble_eq_true rfl), (Nat.le_of_ble_eq_true rfl)⟩ rfl rfl) rfl rfl (Nat.le_of_ble_eq_true rfl) ⟨(Nat.le_of_ble_eq_true rfl), (Nat.le_of_ble_eq_true rfl)⟩ rfl ?_
      refine r_if_ne_t (pc := 12) h (tgt := 30) d_M_put_12 (by decide) (by decide) ?_
      refine r_iconst (pc := 30) h (v := bI true) d_M_put_30 (by decide) ?_
      refine r_goto (pc := 31) h (tgt := 35) d_M_put_31 (by decide) ?_
      refine r_invVa (pc := 35) h 0 (st := []) d_M_put_35 c_bad_true (r_cV h wc_M_bad w_384 w_3 w_386 (TT_se (q := (y_M_bad, 5)) 10 rfl) hd_M_bad ⟨(Nat.le_of_ble_eq_true rfl), (Nat.le_of_ble_eq_true rfl)⟩ rfl rfl) mw_0 rfl rfl rfl (Nat.le_of_ble_eq_true rfl) ⟨(Nat.le_of_ble_eq_true rfl), (Nat.le_of_ble_eq_true rfl)⟩ mw_adr ?_
      refine r_if_eq_f (pc := 38) h (tgt := 42) d_M_put_38 (by decide) (by decide) ?_
      exact r_vret (pc := 41) h hr d_M_put_41
    · subst hN9
      refine r_invSa (pc := 9) h (st := [.ref (b 0)]) d_M_put_9 (c_none_f j9 hj9) (r_cS h wc_M_none w_378 w_3 w_379 hd_M_none ⟨(Nat.le_of_ble_eq_true rfl), (Nat.le_of_ble_eq_true rfl)⟩ rfl rfl) rfl rfl (Nat.le_of_ble_eq_true rfl) ⟨(Nat.le_of_ble_eq_true rfl), (Nat.le_of_ble_eq_true rfl)⟩ rfl ?_
      refine r_if_ne_f (pc := 12) h (tgt := 30) d_M_put_12 (by decide) rfl ?_
      refine r_iload_n (pc := 15) h 3 d_M_put_15 rfl rfl ?_
      rcases pk_ix v (n := 10) (by decide) with hN | hN | ⟨j16, hj16, hN16⟩
      · refine r_invSa (pc := 16) h (st := [.ref (b 0)]) d_M_put_16 (c_outside_t v (Or.inl hN)) (r_cS h wc_M_outside w_381 w_3 w_382 hd_M_outside ⟨(Nat.le_of_ble_eq_true rfl), (Nat.le_of_ble_eq_true rfl)⟩ rfl rfl) rfl rfl (Nat.le_of_ble_eq_true rfl) ⟨(Nat.le_of_ble_eq_true rfl), (Nat.le_of_ble_eq_true rfl)⟩ rfl ?_
        refine r_if_ne_t (pc := 19) h (tgt := 30) d_M_put_19 (by decide) (by decide) ?_
        refine r_iconst (pc := 30) h (v := bI true) d_M_put_30 (by decide) ?_
        refine r_goto (pc := 31) h (tgt := 35) d_M_put_31 (by decide) ?_
        refine r_invVa (pc := 35) h 0 (st := []) d_M_put_35 c_bad_true (r_cV h wc_M_bad w_384 w_3 w_386 (TT_se (q := (y_M_bad, 5)) 10 rfl) hd_M_bad ⟨(Nat.le_of_ble_eq_true rfl), (Nat.le_of_ble_eq_true rfl)⟩ rfl rfl) mw_0 rfl rfl rfl (Nat.le_of_ble_eq_true rfl) ⟨(Nat.le_of_ble_eq_true rfl), (Nat.le_of_ble_eq_true rfl)⟩ mw_adr ?_
        refine r_if_eq_f (pc := 38) h (tgt := 42) d_M_put_38 (by decide) (by decide) ?_
        exact r_vret (pc := 41) h hr d_M_put_41
      · refine r_invSa (pc := 16) h (st := [.ref (b 0)]) d_M_put_16 (c_outside_t v (Or.inr hN)) (r_cS h wc_M_outside w_381 w_3 w_382 hd_M_outside ⟨(Nat.le_of_ble_eq_true rfl), (Nat.le_of_ble_eq_true rfl)⟩ rfl rfl) rfl rfl (Nat.le_of_ble_eq_true rfl) ⟨(Nat.le_of_ble_eq_true rfl), (Nat.le_of_ble_eq_true rfl)⟩ rfl ?_
        refine r_if_ne_t (pc := 19) h (tgt := 30) d_M_put_19 (by decide) (by decide) ?_
        refine r_iconst (pc := 30) h (v := bI true) d_M_put_30 (by decide) ?_
        refine r_goto (pc := 31) h (tgt := 35) d_M_put_31 (by decide) ?_
        refine r_invVa (pc := 35) h 0 (st := []) d_M_put_35 c_bad_true (r_cV h wc_M_bad w_384 w_3 w_386 (TT_se (q := (y_M_bad, 5)) 10 rfl) hd_M_bad ⟨(Nat.le_of_ble_eq_true rfl), (Nat.le_of_ble_eq_true rfl)⟩ rfl rfl) mw_0 rfl rfl rfl (Nat.le_of_ble_eq_true rfl) ⟨(Nat.le_of_ble_eq_true rfl), (Nat.le_of_ble_eq_true rfl)⟩ mw_adr ?_
        refine r_if_eq_f (pc := 38) h (tgt := 42) d_M_put_38 (by decide) (by decide) ?_
        exact r_vret (pc := 41) h hr d_M_put_41
      · subst hN16
        refine r_invSa (pc := 16) h (st := [.ref (b 0)]) d_M_put_16 (c_outside_f j16 hj16) (r_cS h wc_M_outside w_381 w_3 w_382 hd_M_outside ⟨(Nat.le_of_ble_eq_true rfl), (Nat.le_of_ble_eq_true rfl)⟩ rfl rfl) rfl rfl (Nat.le_of_ble_eq_true rfl) ⟨(Nat.le_of_ble_eq_true rfl), (Nat.le_of_ble_eq_true rfl)⟩ rfl ?_
        refine r_if_ne_f (pc := 19) h (tgt := 30) d_M_put_19 (by decide) rfl ?_
        refine r_iload (pc := 22) h 4 d_M_put_22 rfl ?_
        rcases pk_ix r2 (n := 16) (by decide) with hN | hN | ⟨j24, hj24, hN24⟩
        · refine r_invSa (pc := 24) h (st := [.ref (b 0)]) d_M_put_24 (c_none_t r2 (Or.inl hN)) (r_cS h wc_M_none w_378 w_3 w_379 hd_M_none ⟨(Nat.le_of_ble_eq_true rfl), (Nat.le_of_ble_eq_true rfl)⟩ rfl rfl) rfl rfl (Nat.le_of_ble_eq_true rfl) ⟨(Nat.le_of_ble_eq_true rfl), (Nat.le_of_ble_eq_true rfl)⟩ rfl ?_
          refine r_if_eq_f (pc := 27) h (tgt := 34) d_M_put_27 (by decide) (by decide) ?_
          refine r_iconst (pc := 30) h (v := bI true) d_M_put_30 (by decide) ?_
          refine r_goto (pc := 31) h (tgt := 35) d_M_put_31 (by decide) ?_
          refine r_invVa (pc := 35) h 0 (st := []) d_M_put_35 c_bad_true (r_cV h wc_M_bad w_384 w_3 w_386 (TT_se (q := (y_M_bad, 5)) 10 rfl) hd_M_bad ⟨(Nat.le_of_ble_eq_true rfl), (Nat.le_of_ble_eq_true rfl)⟩ rfl rfl) mw_0 rfl rfl rfl (Nat.le_of_ble_eq_true rfl) ⟨(Nat.le_of_ble_eq_true rfl), (Nat.le_of_ble_eq_true rfl)⟩ mw_adr ?_
          refine r_if_eq_f (pc := 38) h (tgt := 42) d_M_put_38 (by decide) (by decide) ?_
          exact r_vret (pc := 41) h hr d_M_put_41
        · refine r_invSa (pc := 24) h (st := [.ref (b 0)]) d_M_put_24 (c_none_t r2 (Or.inr hN)) (r_cS h wc_M_none w_378 w_3 w_379 hd_M_none ⟨(Nat.le_of_ble_eq_true rfl), (Nat.le_of_ble_eq_true rfl)⟩ rfl rfl) rfl rfl (Nat.le_of_ble_eq_true rfl) ⟨(Nat.le_of_ble_eq_true rfl), (Nat.le_of_ble_eq_true rfl)⟩ rfl ?_
          refine r_if_eq_f (pc := 27) h (tgt := 34) d_M_put_27 (by decide) (by decide) ?_
          refine r_iconst (pc := 30) h (v := bI true) d_M_put_30 (by decide) ?_
          refine r_goto (pc := 31) h (tgt := 35) d_M_put_31 (by decide) ?_
          refine r_invVa (pc := 35) h 0 (st := []) d_M_put_35 c_bad_true (r_cV h wc_M_bad w_384 w_3 w_386 (TT_se (q := (y_M_bad, 5)) 10 rfl) hd_M_bad ⟨(Nat.le_of_ble_eq_true rfl), (Nat.le_of_ble_eq_true rfl)⟩ rfl rfl) mw_0 rfl rfl rfl (Nat.le_of_ble_eq_true rfl) ⟨(Nat.le_of_ble_eq_true rfl), (Nat.le_of_ble_eq_true rfl)⟩ mw_adr ?_
          refine r_if_eq_f (pc := 38) h (tgt := 42) d_M_put_38 (by decide) (by decide) ?_
          exact r_vret (pc := 41) h hr d_M_put_41
        · exfalso
          exact hB ⟨⟨j2, hj2, rfl⟩, ⟨j9, hj9, rfl⟩, ⟨j16, hj16, rfl⟩, ⟨j24, hj24, hN24⟩⟩
end MP
