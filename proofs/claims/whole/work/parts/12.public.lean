-- the class's public methods where they don't throw
def gB (b : Bool) (wk : Nat → Int64) (v j : Nat) : Int64 := if b = true then wk j &&& tW wk v j else wk j ||| tW wk v j
/-- work and spare along bound -/
def bnd (S : Nat) (b : Bool) (wk sp : Nat → Int64) : Nat → (Nat → Int64) × (Nat → Int64)
  | 0 => (wk, sp)
  | v + 1 => if S.testBit v = true then (mix 16 (mix 16 (gB b (bnd S b wk sp v).1 v) (bnd S b wk sp v).2) (bnd S b wk sp v).1, mix 16 (gB b (bnd S b wk sp v).1 v) (bnd S b wk sp v).2) else bnd S b wk sp v
/-- is it so? -/
noncomputable def bD (P : Prop) : Bool := @decide P (Classical.propDecidable P)
theorem bD_t {P : Prop} (h : P) : bD P = true := @decide_eq_true P (Classical.propDecidable P) h
theorem bD_f {P : Prop} (h : ¬ P) : bD P = false := @decide_eq_false P (Classical.propDecidable P) h
theorem bD_i {P : Prop} : bD P = true ↔ P := ⟨fun h => Classical.byContradiction (fun q => by rw [bD_f q] at h; cases h), bD_t⟩
theorem bD_c {P Q : Prop} (h : P ↔ Q) : bD P = bD Q := by rw [propext h]
noncomputable def hgB (f : Nat → Int64) (v : Nat) : Bool := !bD (∀ i, i < 16 → f i = tW f v i)
noncomputable def hgN (f : Nat → Int64) : Nat → Nat
  | 0 => 0
  | v + 1 => if hgB f v = true then hgN f v ||| 2 ^ v else hgN f v
def wyN (f : Nat → Int64) : Nat → Nat
  | 0 => 0
  | j + 1 => wyN f j + bys pc8 8 (f j).toBitVec.toNat
section CV
variable {l : Launch} {G : gG} {a : Nat → Nat} {hd : Nat → Nat → Int64} {wk sp : Nat → Int64} {ct : Int32} {ky nm : Nat → Int32}
theorem rd_mix {t r i : Nat} {g : Nat → Int64} : va_up hd t (mix i g (hd t)) r i = hd r i := by
  by_cases h : r = t
  · subst h
    rw [va_up_s, mix_ge (Nat.lt_irrefl i)]
  · rw [va_up_n _ _ h]
theorem cw_st {t i : Nat} {g : Nat → Int64} : (cw G a (va_up hd t (mix i g (hd t))) wk sp ct ky nm).set (7 + t) (a (7 + t), rwL G (vp_updL (va_up hd t (mix i g (hd t)) t) i (g i))) = cw G a (va_up hd t (mix (i + 1) g (hd t))) wk sp ct ky nm := by
  rw [cw_sr, va_up_s, mix_updL, va_up2]
theorem cw_en {t : Nat} {g : Nat → Int64} : cw G a hd wk sp ct ky nm = cw G a (va_up hd t (mix 0 g (hd t))) wk sp ct ky nm := by rw [mix_0, va_up_id]
theorem c_variable (t : Nat) (ht : t < 16) (v : Nat) (hv : v < 10) : Ct l y_D_variable (.code y_D_variable b_D_variable 4 none :: TT) (rmF 2 42) G [.ref (a 0), .int (nI t), .int (nI v)] (cw G a hd wk sp ct ky nm) none (cw G a (va_up hd t (mix 16 (vW v) (hd t))) wk sp ct ky nm) := by
  refine ct_intro (cc := b_D_variable) (nL := 4) (by decide) [(0, .ref (a 0)), (1, .int (nI t)), (2, .int (nI v))] rfl (Nat.le_of_ble_eq_true rfl) ?_
  intro p e s m below meth c A h hr
  refine r_iload_n (pc := 0) h 1 d_D_variable_0 rfl rfl ?_
  refine r_invSv (pc := 1) h (st := []) d_D_variable_1 (c_checkRegister t ht) (r_cS h wc_D_checkRegister w_63 w_1 w_64 hd_D_checkRegister ⟨(Nat.le_of_ble_eq_true rfl), (Nat.le_of_ble_eq_true rfl)⟩ rfl rfl) rfl rfl (Nat.le_of_ble_eq_true rfl) ⟨(Nat.le_of_ble_eq_true rfl), (Nat.le_of_ble_eq_true rfl)⟩ rfl ?_
  refine r_iload_n (pc := 4) h 2 d_D_variable_4 rfl rfl ?_
  refine r_invSv (pc := 5) h (st := []) d_D_variable_5 (c_checkVariable v hv) (r_cS h wc_D_checkVariable w_133 w_1 w_134 hd_D_checkVariable ⟨(Nat.le_of_ble_eq_true rfl), (Nat.le_of_ble_eq_true rfl)⟩ rfl rfl) rfl rfl (Nat.le_of_ble_eq_true rfl) ⟨(Nat.le_of_ble_eq_true rfl), (Nat.le_of_ble_eq_true rfl)⟩ rfl ?_
  refine r_iconst (pc := 8) h (v := nI 0) d_D_variable_8 (by decide) ?_
  refine r_istore_n (pc := 9) h (lv' := [(3, .int (nI 0)), (0, .ref (a 0)), (1, .int (nI t)), (2, .int (nI v))]) d_D_variable_9 rfl (by decide) rfl ?_
  refine Wv.wld (ws' := (cw G a (va_up hd t (mix 0 (vW v) (hd t))) wk sp ct ky nm)) cw_en ?_
  refine Wv.loop 16 (fun i => (cw G a (va_up hd t (mix i (vW v) (hd t))) wk sp ct ky nm)) (fun i => [(3, .int (nI i)), (0, .ref (a 0)), (1, .int (nI t)), (2, .int (nI v))]) ?_ ?_
  · show Wv p l e _ s m _ below meth c G A _ _ _ _ (cw G a (va_up hd t (mix 16 (vW v) (hd t))) wk sp ct ky nm) 10 [(3, .int (nI 16)), (0, .ref (a 0)), (1, .int (nI t)), (2, .int (nI v))] []
    refine r_iload_n (pc := 10) h 0 d_D_variable_10 rfl rfl ?_
    refine r_bipush (pc := 11) h (v := nI 16) d_D_variable_11 (by decide) ?_
    refine r_icmp_ge_t (pc := 13) h (tgt := 35) d_D_variable_13 (by decide) (nI_le (Nat.le_refl _) (by decide)) ?_
    exact r_vret (pc := 35) h hr d_D_variable_35
  · intro i hi ih
    have ih : Wv p l e _ s m _ below meth c G A _ _ _ _ (cw G a (va_up hd t (mix (i + 1) (vW v) (hd t))) wk sp ct ky nm) 10 [(3, .int (nI (i + 1))), (0, .ref (a 0)), (1, .int (nI t)), (2, .int (nI v))] [] := ih
    show Wv p l e _ s m _ below meth c G A _ _ _ _ (cw G a (va_up hd t (mix i (vW v) (hd t))) wk sp ct ky nm) 10 [(3, .int (nI i)), (0, .ref (a 0)), (1, .int (nI t)), (2, .int (nI v))] []
    refine r_iload_n (pc := 10) h 0 d_D_variable_10 rfl rfl ?_
    refine r_bipush (pc := 11) h (v := nI 16) d_D_variable_11 (by decide) ?_
    refine r_icmp_ge_f (pc := 13) h (tgt := 35) d_D_variable_13 (by decide) (nI_ge hi (by decide)) ?_
    refine r_aload_n (pc := 16) h 1 d_D_variable_16 rfl rfl ?_
    refine r_get (pc := 17) h 0 0 d_D_variable_17 cw_0 rfl (by decide) in_D (List.mem_cons_of_mem _ w_42) rfl ?_
    refine r_iload_n (pc := 20) h 2 d_D_variable_20 rfl rfl ?_
    refine r_aaload (pc := 21) h 1 3 t d_D_variable_21 cw_1 rfl rfl rfl ht (by decide) (cw_o ht) ?_
    refine r_iload_n (pc := 22) h 0 d_D_variable_22 rfl rfl ?_
    refine r_iload_n (pc := 23) h 3 d_D_variable_23 rfl rfl ?_
    refine r_iload_n (pc := 24) h 0 d_D_variable_24 rfl rfl ?_
    refine r_invSa (pc := 25) h (st := [.int (nI i), .ref (a (7 + t))]) d_D_variable_25 (c_variableWord v i hv hi) (r_cS h wc_D_variableWord w_137 w_1 w_138 hd_D_variableWord ⟨(Nat.le_of_ble_eq_true rfl), (Nat.le_of_ble_eq_true rfl)⟩ rfl rfl) rfl rfl (Nat.le_of_ble_eq_true rfl) ⟨(Nat.le_of_ble_eq_true rfl), (Nat.le_of_ble_eq_true rfl)⟩ rfl ?_
    refine r_lastore (pc := 28) h (7 + t) (ws' := (cw G a (va_up hd t (mix (i + 1) (vW v) (hd t))) wk sp ct ky nm)) i d_D_variable_28 (cw_r ht) rfl hi (by decide) (cw_st (g := (vW v))) ?_
    refine r_iinc (pc := 29) h (v := nI (i + 1)) (lv' := [(3, .int (nI (i + 1))), (0, .ref (a 0)), (1, .int (nI t)), (2, .int (nI v))]) 0 d_D_variable_29 rfl (nI_inc i) (by decide) rfl ?_
    refine r_goto (pc := 32) h (tgt := 10) d_D_variable_32 (by decide) ?_
    exact ih
theorem c_join (t : Nat) (ht : t < 16) (k r1 r2 : Nat) (hk : k < 5) (h1 : r1 < 16) (h2 : r2 < 16) : Ct l y_D_join (.code y_D_join b_D_join 6 none :: TT) (rmF 1 24) G [.ref (a 0), .int (nI t), .int (nI k), .int (nI r1), .int (nI r2)] (cw G a hd wk sp ct ky nm) none (cw G a (va_up hd t (mix 16 (fun j => jW k (hd r1 j) (hd r2 j)) (hd t))) wk sp ct ky nm) := by
  refine ct_intro (cc := b_D_join) (nL := 6) (by decide) [(0, .ref (a 0)), (1, .int (nI t)), (2, .int (nI k)), (3, .int (nI r1)), (4, .int (nI r2))] rfl (Nat.le_of_ble_eq_true rfl) ?_
  intro p e s m below meth c A h hr
  refine r_iload_n (pc := 0) h 1 d_D_join_0 rfl rfl ?_
  refine r_invSv (pc := 1) h (st := []) d_D_join_1 (c_checkRegister t ht) (r_cS h wc_D_checkRegister w_63 w_1 w_64 hd_D_checkRegister ⟨(Nat.le_of_ble_eq_true rfl), (Nat.le_of_ble_eq_true rfl)⟩ rfl rfl) rfl rfl (Nat.le_of_ble_eq_true rfl) ⟨(Nat.le_of_ble_eq_true rfl), (Nat.le_of_ble_eq_true rfl)⟩ rfl ?_
  refine r_iload_n (pc := 4) h 2 d_D_join_4 rfl rfl ?_
  refine r_invSv (pc := 5) h (st := []) d_D_join_5 (c_checkKind k hk) (r_cS h wc_D_checkKind w_167 w_1 w_168 hd_D_checkKind ⟨(Nat.le_of_ble_eq_true rfl), (Nat.le_of_ble_eq_true rfl)⟩ rfl rfl) rfl rfl (Nat.le_of_ble_eq_true rfl) ⟨(Nat.le_of_ble_eq_true rfl), (Nat.le_of_ble_eq_true rfl)⟩ rfl ?_
  refine r_iload_n (pc := 8) h 3 d_D_join_8 rfl rfl ?_
  refine r_invSv (pc := 9) h (st := []) d_D_join_9 (c_checkRegister r1 h1) (r_cS h wc_D_checkRegister w_63 w_1 w_64 hd_D_checkRegister ⟨(Nat.le_of_ble_eq_true rfl), (Nat.le_of_ble_eq_true rfl)⟩ rfl rfl) rfl rfl (Nat.le_of_ble_eq_true rfl) ⟨(Nat.le_of_ble_eq_true rfl), (Nat.le_of_ble_eq_true rfl)⟩ rfl ?_
  refine r_iload (pc := 12) h 4 d_D_join_12 rfl ?_
  refine r_invSv (pc := 14) h (st := []) d_D_join_14 (c_checkRegister r2 h2) (r_cS h wc_D_checkRegister w_63 w_1 w_64 hd_D_checkRegister ⟨(Nat.le_of_ble_eq_true rfl), (Nat.le_of_ble_eq_true rfl)⟩ rfl rfl) rfl rfl (Nat.le_of_ble_eq_true rfl) ⟨(Nat.le_of_ble_eq_true rfl), (Nat.le_of_ble_eq_true rfl)⟩ rfl ?_
  refine r_iconst (pc := 17) h (v := nI 0) d_D_join_17 (by decide) ?_
  refine r_istore (pc := 18) h (lv' := [(5, .int (nI 0)), (0, .ref (a 0)), (1, .int (nI t)), (2, .int (nI k)), (3, .int (nI r1)), (4, .int (nI r2))]) d_D_join_18 (by decide) rfl ?_
  refine Wv.wld (ws' := (cw G a (va_up hd t (mix 0 (fun j => jW k (hd r1 j) (hd r2 j)) (hd t))) wk sp ct ky nm)) cw_en ?_
  refine Wv.loop 16 (fun i => (cw G a (va_up hd t (mix i (fun j => jW k (hd r1 j) (hd r2 j)) (hd t))) wk sp ct ky nm)) (fun i => [(5, .int (nI i)), (0, .ref (a 0)), (1, .int (nI t)), (2, .int (nI k)), (3, .int (nI r1)), (4, .int (nI r2))]) ?_ ?_
  · show Wv p l e _ s m _ below meth c G A _ _ _ _ (cw G a (va_up hd t (mix 16 (fun j => jW k (hd r1 j) (hd r2 j)) (hd t))) wk sp ct ky nm) 20 [(5, .int (nI 16)), (0, .ref (a 0)), (1, .int (nI t)), (2, .int (nI k)), (3, .int (nI r1)), (4, .int (nI r2))] []
    refine r_iload (pc := 20) h 0 d_D_join_20 rfl ?_
    refine r_bipush (pc := 22) h (v := nI 16) d_D_join_22 (by decide) ?_
    refine r_icmp_ge_t (pc := 24) h (tgt := 65) d_D_join_24 (by decide) (nI_le (Nat.le_refl _) (by decide)) ?_
    exact r_vret (pc := 65) h hr d_D_join_65
  · intro i hi ih
    have ih : Wv p l e _ s m _ below meth c G A _ _ _ _ (cw G a (va_up hd t (mix (i + 1) (fun j => jW k (hd r1 j) (hd r2 j)) (hd t))) wk sp ct ky nm) 20 [(5, .int (nI (i + 1))), (0, .ref (a 0)), (1, .int (nI t)), (2, .int (nI k)), (3, .int (nI r1)), (4, .int (nI r2))] [] := ih
    show Wv p l e _ s m _ below meth c G A _ _ _ _ (cw G a (va_up hd t (mix i (fun j => jW k (hd r1 j) (hd r2 j)) (hd t))) wk sp ct ky nm) 20 [(5, .int (nI i)), (0, .ref (a 0)), (1, .int (nI t)), (2, .int (nI k)), (3, .int (nI r1)), (4, .int (nI r2))] []
    refine r_iload (pc := 20) h 0 d_D_join_20 rfl ?_
    refine r_bipush (pc := 22) h (v := nI 16) d_D_join_22 (by decide) ?_
    refine r_icmp_ge_f (pc := 24) h (tgt := 65) d_D_join_24 (by decide) (nI_ge hi (by decide)) ?_
    refine r_aload_n (pc := 27) h 1 d_D_join_27 rfl rfl ?_
    refine r_get (pc := 28) h 0 0 d_D_join_28 cw_0 rfl (by decide) in_D (List.mem_cons_of_mem _ w_42) rfl ?_
    refine r_iload_n (pc := 31) h 2 d_D_join_31 rfl rfl ?_
    refine r_aaload (pc := 32) h 1 3 t d_D_join_32 cw_1 rfl rfl rfl ht (by decide) (cw_o ht) ?_
    refine r_iload (pc := 33) h 0 d_D_join_33 rfl ?_
    refine r_iload_n (pc := 35) h 3 d_D_join_35 rfl rfl ?_
    refine r_aload_n (pc := 36) h 1 d_D_join_36 rfl rfl ?_
    refine r_get (pc := 37) h 0 0 d_D_join_37 cw_0 rfl (by decide) in_D (List.mem_cons_of_mem _ w_42) rfl ?_
    refine r_iload_n (pc := 40) h 4 d_D_join_40 rfl rfl ?_
    refine r_aaload (pc := 41) h 1 3 r1 d_D_join_41 cw_1 rfl rfl rfl h1 (by decide) (cw_o h1) ?_
    refine r_iload (pc := 42) h 0 d_D_join_42 rfl ?_
    refine r_laload (pc := 44) h (7 + r1) (z := hd r1 i) i d_D_join_44 (cw_r h1) rfl hi (by decide) rd_mix ?_
    refine r_aload_n (pc := 45) h 1 d_D_join_45 rfl rfl ?_
    refine r_get (pc := 46) h 0 0 d_D_join_46 cw_0 rfl (by decide) in_D (List.mem_cons_of_mem _ w_42) rfl ?_
    refine r_iload (pc := 49) h 5 d_D_join_49 rfl ?_
    refine r_aaload (pc := 51) h 1 3 r2 d_D_join_51 cw_1 rfl rfl rfl h2 (by decide) (cw_o h2) ?_
    refine r_iload (pc := 52) h 0 d_D_join_52 rfl ?_
    refine r_laload (pc := 54) h (7 + r2) (z := hd r2 i) i d_D_join_54 (cw_r h2) rfl hi (by decide) rd_mix ?_
    refine r_invSa (pc := 55) h (st := [.int (nI i), .ref (a (7 + t))]) d_D_join_55 (c_joinedWord k (hd r1 i) (hd r2 i) hk) (r_cS h wc_D_joinedWord w_171 w_1 w_172 hd_D_joinedWord ⟨(Nat.le_of_ble_eq_true rfl), (Nat.le_of_ble_eq_true rfl)⟩ rfl rfl) rfl rfl (Nat.le_of_ble_eq_true rfl) ⟨(Nat.le_of_ble_eq_true rfl), (Nat.le_of_ble_eq_true rfl)⟩ rfl ?_
    refine r_lastore (pc := 58) h (7 + t) (ws' := (cw G a (va_up hd t (mix (i + 1) (fun j => jW k (hd r1 j) (hd r2 j)) (hd t))) wk sp ct ky nm)) i d_D_join_58 (cw_r ht) rfl hi (by decide) (cw_st (g := (fun j => jW k (hd r1 j) (hd r2 j)))) ?_
    refine r_iinc (pc := 59) h (v := nI (i + 1)) (lv' := [(5, .int (nI (i + 1))), (0, .ref (a 0)), (1, .int (nI t)), (2, .int (nI k)), (3, .int (nI r1)), (4, .int (nI r2))]) 0 d_D_join_59 rfl (nI_inc i) (by decide) rfl ?_
    refine r_goto (pc := 62) h (tgt := 20) d_D_join_62 (by decide) ?_
    exact ih
theorem c_choose (t : Nat) (ht : t < 16) (r1 r2 r3 : Nat) (h1 : r1 < 16) (h2 : r2 < 16) (h3 : r3 < 16) : Ct l y_D_choose (.code y_D_choose b_D_choose 6 none :: TT) (rmF 1 25) G [.ref (a 0), .int (nI t), .int (nI r1), .int (nI r2), .int (nI r3)] (cw G a hd wk sp ct ky nm) none (cw G a (va_up hd t (mix 16 (fun j => cW (hd r1 j) (hd r2 j) (hd r3 j)) (hd t))) wk sp ct ky nm) := by
  refine ct_intro (cc := b_D_choose) (nL := 6) (by decide) [(0, .ref (a 0)), (1, .int (nI t)), (2, .int (nI r1)), (3, .int (nI r2)), (4, .int (nI r3))] rfl (Nat.le_of_ble_eq_true rfl) ?_
  intro p e s m below meth c A h hr
  refine r_iload_n (pc := 0) h 1 d_D_choose_0 rfl rfl ?_
  refine r_invSv (pc := 1) h (st := []) d_D_choose_1 (c_checkRegister t ht) (r_cS h wc_D_checkRegister w_63 w_1 w_64 hd_D_checkRegister ⟨(Nat.le_of_ble_eq_true rfl), (Nat.le_of_ble_eq_true rfl)⟩ rfl rfl) rfl rfl (Nat.le_of_ble_eq_true rfl) ⟨(Nat.le_of_ble_eq_true rfl), (Nat.le_of_ble_eq_true rfl)⟩ rfl ?_
  refine r_iload_n (pc := 4) h 2 d_D_choose_4 rfl rfl ?_
  refine r_invSv (pc := 5) h (st := []) d_D_choose_5 (c_checkRegister r1 h1) (r_cS h wc_D_checkRegister w_63 w_1 w_64 hd_D_checkRegister ⟨(Nat.le_of_ble_eq_true rfl), (Nat.le_of_ble_eq_true rfl)⟩ rfl rfl) rfl rfl (Nat.le_of_ble_eq_true rfl) ⟨(Nat.le_of_ble_eq_true rfl), (Nat.le_of_ble_eq_true rfl)⟩ rfl ?_
  refine r_iload_n (pc := 8) h 3 d_D_choose_8 rfl rfl ?_
  refine r_invSv (pc := 9) h (st := []) d_D_choose_9 (c_checkRegister r2 h2) (r_cS h wc_D_checkRegister w_63 w_1 w_64 hd_D_checkRegister ⟨(Nat.le_of_ble_eq_true rfl), (Nat.le_of_ble_eq_true rfl)⟩ rfl rfl) rfl rfl (Nat.le_of_ble_eq_true rfl) ⟨(Nat.le_of_ble_eq_true rfl), (Nat.le_of_ble_eq_true rfl)⟩ rfl ?_
  refine r_iload (pc := 12) h 4 d_D_choose_12 rfl ?_
  refine r_invSv (pc := 14) h (st := []) d_D_choose_14 (c_checkRegister r3 h3) (r_cS h wc_D_checkRegister w_63 w_1 w_64 hd_D_checkRegister ⟨(Nat.le_of_ble_eq_true rfl), (Nat.le_of_ble_eq_true rfl)⟩ rfl rfl) rfl rfl (Nat.le_of_ble_eq_true rfl) ⟨(Nat.le_of_ble_eq_true rfl), (Nat.le_of_ble_eq_true rfl)⟩ rfl ?_
  refine r_iconst (pc := 17) h (v := nI 0) d_D_choose_17 (by decide) ?_
  refine r_istore (pc := 18) h (lv' := [(5, .int (nI 0)), (0, .ref (a 0)), (1, .int (nI t)), (2, .int (nI r1)), (3, .int (nI r2)), (4, .int (nI r3))]) d_D_choose_18 (by decide) rfl ?_
  refine Wv.wld (ws' := (cw G a (va_up hd t (mix 0 (fun j => cW (hd r1 j) (hd r2 j) (hd r3 j)) (hd t))) wk sp ct ky nm)) cw_en ?_
  refine Wv.loop 16 (fun i => (cw G a (va_up hd t (mix i (fun j => cW (hd r1 j) (hd r2 j) (hd r3 j)) (hd t))) wk sp ct ky nm)) (fun i => [(5, .int (nI i)), (0, .ref (a 0)), (1, .int (nI t)), (2, .int (nI r1)), (3, .int (nI r2)), (4, .int (nI r3))]) ?_ ?_
  · show Wv p l e _ s m _ below meth c G A _ _ _ _ (cw G a (va_up hd t (mix 16 (fun j => cW (hd r1 j) (hd r2 j) (hd r3 j)) (hd t))) wk sp ct ky nm) 20 [(5, .int (nI 16)), (0, .ref (a 0)), (1, .int (nI t)), (2, .int (nI r1)), (3, .int (nI r2)), (4, .int (nI r3))] []
    refine r_iload (pc := 20) h 0 d_D_choose_20 rfl ?_
    refine r_bipush (pc := 22) h (v := nI 16) d_D_choose_22 (by decide) ?_
    refine r_icmp_ge_t (pc := 24) h (tgt := 73) d_D_choose_24 (by decide) (nI_le (Nat.le_refl _) (by decide)) ?_
    exact r_vret (pc := 73) h hr d_D_choose_73
  · intro i hi ih
    have ih : Wv p l e _ s m _ below meth c G A _ _ _ _ (cw G a (va_up hd t (mix (i + 1) (fun j => cW (hd r1 j) (hd r2 j) (hd r3 j)) (hd t))) wk sp ct ky nm) 20 [(5, .int (nI (i + 1))), (0, .ref (a 0)), (1, .int (nI t)), (2, .int (nI r1)), (3, .int (nI r2)), (4, .int (nI r3))] [] := ih
    show Wv p l e _ s m _ below meth c G A _ _ _ _ (cw G a (va_up hd t (mix i (fun j => cW (hd r1 j) (hd r2 j) (hd r3 j)) (hd t))) wk sp ct ky nm) 20 [(5, .int (nI i)), (0, .ref (a 0)), (1, .int (nI t)), (2, .int (nI r1)), (3, .int (nI r2)), (4, .int (nI r3))] []
    refine r_iload (pc := 20) h 0 d_D_choose_20 rfl ?_
    refine r_bipush (pc := 22) h (v := nI 16) d_D_choose_22 (by decide) ?_
    refine r_icmp_ge_f (pc := 24) h (tgt := 73) d_D_choose_24 (by decide) (nI_ge hi (by decide)) ?_
    refine r_aload_n (pc := 27) h 1 d_D_choose_27 rfl rfl ?_
    refine r_get (pc := 28) h 0 0 d_D_choose_28 cw_0 rfl (by decide) in_D (List.mem_cons_of_mem _ w_42) rfl ?_
    refine r_iload_n (pc := 31) h 2 d_D_choose_31 rfl rfl ?_
    refine r_aaload (pc := 32) h 1 3 t d_D_choose_32 cw_1 rfl rfl rfl ht (by decide) (cw_o ht) ?_
    refine r_iload (pc := 33) h 0 d_D_choose_33 rfl ?_
    refine r_aload_n (pc := 35) h 1 d_D_choose_35 rfl rfl ?_
    refine r_get (pc := 36) h 0 0 d_D_choose_36 cw_0 rfl (by decide) in_D (List.mem_cons_of_mem _ w_42) rfl ?_
    refine r_iload_n (pc := 39) h 3 d_D_choose_39 rfl rfl ?_
    refine r_aaload (pc := 40) h 1 3 r1 d_D_choose_40 cw_1 rfl rfl rfl h1 (by decide) (cw_o h1) ?_
    refine r_iload (pc := 41) h 0 d_D_choose_41 rfl ?_
    refine r_laload (pc := 43) h (7 + r1) (z := hd r1 i) i d_D_choose_43 (cw_r h1) rfl hi (by decide) rd_mix ?_
    refine r_aload_n (pc := 44) h 1 d_D_choose_44 rfl rfl ?_
    refine r_get (pc := 45) h 0 0 d_D_choose_45 cw_0 rfl (by decide) in_D (List.mem_cons_of_mem _ w_42) rfl ?_
    refine r_iload_n (pc := 48) h 4 d_D_choose_48 rfl rfl ?_
    refine r_aaload (pc := 49) h 1 3 r2 d_D_choose_49 cw_1 rfl rfl rfl h2 (by decide) (cw_o h2) ?_
    refine r_iload (pc := 50) h 0 d_D_choose_50 rfl ?_
    refine r_laload (pc := 52) h (7 + r2) (z := hd r2 i) i d_D_choose_52 (cw_r h2) rfl hi (by decide) rd_mix ?_
    refine r_aload_n (pc := 53) h 1 d_D_choose_53 rfl rfl ?_
    refine r_get (pc := 54) h 0 0 d_D_choose_54 cw_0 rfl (by decide) in_D (List.mem_cons_of_mem _ w_42) rfl ?_
    refine r_iload (pc := 57) h 5 d_D_choose_57 rfl ?_
    refine r_aaload (pc := 59) h 1 3 r3 d_D_choose_59 cw_1 rfl rfl rfl h3 (by decide) (cw_o h3) ?_
    refine r_iload (pc := 60) h 0 d_D_choose_60 rfl ?_
    refine r_laload (pc := 62) h (7 + r3) (z := hd r3 i) i d_D_choose_62 (cw_r h3) rfl hi (by decide) rd_mix ?_
    refine r_invSa (pc := 63) h (st := [.int (nI i), .ref (a (7 + t))]) d_D_choose_63 (c_chosenWord (hd r1 i) (hd r2 i) (hd r3 i)) (r_cS h wc_D_chosenWord w_181 w_1 w_182 hd_D_chosenWord ⟨(Nat.le_of_ble_eq_true rfl), (Nat.le_of_ble_eq_true rfl)⟩ rfl rfl) rfl rfl (Nat.le_of_ble_eq_true rfl) ⟨(Nat.le_of_ble_eq_true rfl), (Nat.le_of_ble_eq_true rfl)⟩ rfl ?_
    refine r_lastore (pc := 66) h (7 + t) (ws' := (cw G a (va_up hd t (mix (i + 1) (fun j => cW (hd r1 j) (hd r2 j) (hd r3 j)) (hd t))) wk sp ct ky nm)) i d_D_choose_66 (cw_r ht) rfl hi (by decide) (cw_st (g := (fun j => cW (hd r1 j) (hd r2 j) (hd r3 j)))) ?_
    refine r_iinc (pc := 67) h (v := nI (i + 1)) (lv' := [(5, .int (nI (i + 1))), (0, .ref (a 0)), (1, .int (nI t)), (2, .int (nI r1)), (3, .int (nI r2)), (4, .int (nI r3))]) 0 d_D_choose_67 rfl (nI_inc i) (by decide) rfl ?_
    refine r_goto (pc := 70) h (tgt := 20) d_D_choose_70 (by decide) ?_
    exact ih
theorem cw_fl {t : Nat} : (cw G a hd wk sp ct ky nm).set (7 + t) (a (7 + t), rwL G (mix 16 (fun _ => 0) (hd t))) = cw G a (va_up hd t (mix 16 (fun _ => 0) (hd t))) wk sp ct ky nm := cw_sr
theorem cw_on {t k : Nat} {f : Nat → Int64} {z : Int64} : (cw G a (va_up hd t f) wk sp ct ky nm).set (7 + t) (a (7 + t), rwL G (vp_updL (va_up hd t f t) k z)) = cw G a (va_up hd t (vp_updL f k z)) wk sp ct ky nm := by
  rw [cw_sr, va_up_s, va_up2]
theorem c_only (t : Nat) (ht : t < 16) (x : Nat) (hx : x < 1024) : Ct l y_D_only (.code y_D_only b_D_only 3 none :: TT) (rmF 1 24) G [.ref (a 0), .int (nI t), .int (nI x)] (cw G a hd wk sp ct ky nm) none (cw G a (va_up hd t (vp_updL (mix 16 (fun _ => 0) (hd t)) (x / 64) (1 <<< ((nI (x % 64)).toInt64 &&& 63)))) wk sp ct ky nm) := by
  refine ct_intro (cc := b_D_only) (nL := 3) (by decide) [(0, .ref (a 0)), (1, .int (nI t)), (2, .int (nI x))] rfl (Nat.le_of_ble_eq_true rfl) ?_
  intro p e s m below meth c A h hr
  refine r_iload_n (pc := 0) h 1 d_D_only_0 rfl rfl ?_
  refine r_invSv (pc := 1) h (st := []) d_D_only_1 (c_checkRegister t ht) (r_cS h wc_D_checkRegister w_63 w_1 w_64 hd_D_checkRegister ⟨(Nat.le_of_ble_eq_true rfl), (Nat.le_of_ble_eq_true rfl)⟩ rfl rfl) rfl rfl (Nat.le_of_ble_eq_true rfl) ⟨(Nat.le_of_ble_eq_true rfl), (Nat.le_of_ble_eq_true rfl)⟩ rfl ?_
  refine r_iload_n (pc := 4) h 2 d_D_only_4 rfl rfl ?_
  refine r_invSv (pc := 5) h (st := []) d_D_only_5 (c_checkAssignment x hx) (r_cS h wc_D_checkAssignment w_153 w_1 w_154 hd_D_checkAssignment ⟨(Nat.le_of_ble_eq_true rfl), (Nat.le_of_ble_eq_true rfl)⟩ rfl rfl) rfl rfl (Nat.le_of_ble_eq_true rfl) ⟨(Nat.le_of_ble_eq_true rfl), (Nat.le_of_ble_eq_true rfl)⟩ rfl ?_
  refine r_aload_n (pc := 8) h 0 d_D_only_8 rfl rfl ?_
  refine r_get (pc := 9) h 0 0 d_D_only_9 cw_0 rfl (by decide) in_D (List.mem_cons_of_mem _ w_42) rfl ?_
  refine r_iload_n (pc := 12) h 1 d_D_only_12 rfl rfl ?_
  refine r_aaload (pc := 13) h 1 3 t d_D_only_13 cw_1 rfl rfl rfl ht (by decide) (cw_o ht) ?_
  refine r_lconst (pc := 14) h (v := 0) d_D_only_14 (by decide) ?_
  refine r_invSv (pc := 15) h (st := []) d_D_only_15 (Eq.mp (congrArg (fun z => Ct l y_A_fillJ (.code y_A_fillJ b_A_fillJ 5 none :: TT) (rmF 0 0) G [.ref (a (7 + t)), .long 0] (cw G a hd wk sp ct ky nm) none z) cw_fl) (c_fillJ (7 + t) (a (7 + t)) 16 (hd t) 0 (cw_r ht) (by decide))) (r_cS h wc_A_fillJ w_157 w_8 w_158 hd_A_fillJ ⟨(Nat.le_of_ble_eq_true rfl), (Nat.le_of_ble_eq_true rfl)⟩ rfl rfl) rfl rfl (Nat.le_of_ble_eq_true rfl) ⟨(Nat.le_of_ble_eq_true rfl), (Nat.le_of_ble_eq_true rfl)⟩ cw_adr ?_
  refine r_aload_n (pc := 18) h 0 d_D_only_18 rfl rfl ?_
  refine r_get (pc := 19) h 0 0 d_D_only_19 cw_0 rfl (by decide) in_D (List.mem_cons_of_mem _ w_42) rfl ?_
  refine r_iload_n (pc := 22) h 1 d_D_only_22 rfl rfl ?_
  refine r_aaload (pc := 23) h 1 3 t d_D_only_23 cw_1 rfl rfl rfl ht (by decide) (cw_o ht) ?_
  refine r_iload_n (pc := 24) h 2 d_D_only_24 rfl rfl ?_
  refine r_bipush (pc := 25) h (v := nI 6) d_D_only_25 (by decide) ?_
  refine r_ishr (pc := 27) h (z := nI (x / 64)) d_D_only_27 (nx_shr (x := x) (v := 6) (by omega) (by decide)) ?_
  refine r_lconst (pc := 28) h (v := 1) d_D_only_28 (by decide) ?_
  refine r_iload_n (pc := 29) h 2 d_D_only_29 rfl rfl ?_
  refine r_bipush (pc := 30) h (v := nI 63) d_D_only_30 (by decide) ?_
  refine r_iand (pc := 32) h (z := nI (x % 64)) d_D_only_32 (nx_63 (by omega)) ?_
  refine r_lshl (pc := 33) h (z := 1 <<< ((nI (x % 64)).toInt64 &&& 63)) d_D_only_33 rfl ?_
  refine r_lastore (pc := 34) h (7 + t) (ws' := (cw G a (va_up hd t (vp_updL (mix 16 (fun _ => 0) (hd t)) (x / 64) (1 <<< ((nI (x % 64)).toInt64 &&& 63)))) wk sp ct ky nm)) (x / 64) d_D_only_34 (cw_r ht) rfl (by omega) (by decide) cw_on ?_
  exact r_vret (pc := 35) h hr d_D_only_35
theorem c_cut (t : Nat) (ht : t < 16) (r1 v : Nat) (b : Bool) (h1 : r1 < 16) (hv : v < 10) : Ct l y_D_cut (.code y_D_cut b_D_cut 6 none :: TT) (rmF 3 67) G [.ref (a 0), .int (nI t), .int (nI r1), .int (nI v), .int (bI b)] (cw G a hd wk sp ct ky nm) none (cw G a (va_up hd t (mix 16 (mix 16 (fW (hd r1) v b) wk) (hd t))) (mix 16 (fW (hd r1) v b) wk) sp ct ky nm) := by
  refine ct_intro (cc := b_D_cut) (nL := 6) (by decide) [(0, .ref (a 0)), (1, .int (nI t)), (2, .int (nI r1)), (3, .int (nI v)), (4, .int (bI b))] rfl (Nat.le_of_ble_eq_true rfl) ?_
  intro p e s m below meth c A h hr
  refine r_iload_n (pc := 0) h 1 d_D_cut_0 rfl rfl ?_
  refine r_invSv (pc := 1) h (st := []) d_D_cut_1 (c_checkRegister t ht) (r_cS h wc_D_checkRegister w_63 w_1 w_64 hd_D_checkRegister ⟨(Nat.le_of_ble_eq_true rfl), (Nat.le_of_ble_eq_true rfl)⟩ rfl rfl) rfl rfl (Nat.le_of_ble_eq_true rfl) ⟨(Nat.le_of_ble_eq_true rfl), (Nat.le_of_ble_eq_true rfl)⟩ rfl ?_
  refine r_iload_n (pc := 4) h 2 d_D_cut_4 rfl rfl ?_
  refine r_invSv (pc := 5) h (st := []) d_D_cut_5 (c_checkRegister r1 h1) (r_cS h wc_D_checkRegister w_63 w_1 w_64 hd_D_checkRegister ⟨(Nat.le_of_ble_eq_true rfl), (Nat.le_of_ble_eq_true rfl)⟩ rfl rfl) rfl rfl (Nat.le_of_ble_eq_true rfl) ⟨(Nat.le_of_ble_eq_true rfl), (Nat.le_of_ble_eq_true rfl)⟩ rfl ?_
  refine r_iload_n (pc := 8) h 3 d_D_cut_8 rfl rfl ?_
  refine r_invSv (pc := 9) h (st := []) d_D_cut_9 (c_checkVariable v hv) (r_cS h wc_D_checkVariable w_133 w_1 w_134 hd_D_checkVariable ⟨(Nat.le_of_ble_eq_true rfl), (Nat.le_of_ble_eq_true rfl)⟩ rfl rfl) rfl rfl (Nat.le_of_ble_eq_true rfl) ⟨(Nat.le_of_ble_eq_true rfl), (Nat.le_of_ble_eq_true rfl)⟩ rfl ?_
  refine r_iconst (pc := 12) h (v := nI 0) d_D_cut_12 (by decide) ?_
  refine r_istore (pc := 13) h (lv' := [(5, .int (nI 0)), (0, .ref (a 0)), (1, .int (nI t)), (2, .int (nI r1)), (3, .int (nI v)), (4, .int (bI b))]) d_D_cut_13 (by decide) rfl ?_
  refine Wv.wld (ws' := (cw G a hd (mix 0 (fW (hd r1) v b) wk) sp ct ky nm)) (by rw [mix_0]) ?_
  refine Wv.loop 16 (fun i => (cw G a hd (mix i (fW (hd r1) v b) wk) sp ct ky nm)) (fun i => [(5, .int (nI i)), (0, .ref (a 0)), (1, .int (nI t)), (2, .int (nI r1)), (3, .int (nI v)), (4, .int (bI b))]) ?_ ?_
  · show Wv p l e _ s m _ below meth c G A _ _ _ _ (cw G a hd (mix 16 (fW (hd r1) v b) wk) sp ct ky nm) 15 [(5, .int (nI 16)), (0, .ref (a 0)), (1, .int (nI t)), (2, .int (nI r1)), (3, .int (nI v)), (4, .int (bI b))] []
    refine r_iload (pc := 15) h 0 d_D_cut_15 rfl ?_
    refine r_bipush (pc := 17) h (v := nI 16) d_D_cut_17 (by decide) ?_
    refine r_icmp_ge_t (pc := 19) h (tgt := 49) d_D_cut_19 (by decide) (nI_le (Nat.le_refl _) (by decide)) ?_
    refine r_aload_n (pc := 49) h 1 d_D_cut_49 rfl rfl ?_
    refine r_aload_n (pc := 50) h 1 d_D_cut_50 rfl rfl ?_
    refine r_get (pc := 51) h 0 1 d_D_cut_51 cw_0 rfl (by decide) in_D (List.mem_cons_of_mem _ w_43) rfl ?_
    refine r_iload_n (pc := 54) h 2 d_D_cut_54 rfl rfl ?_
    refine r_invVv (pc := 55) h 0 (st := []) d_D_cut_55 (c_store2 t ht) (r_cV h wc_D_store w_197 w_1 w_199 (TT_se (q := (y_D_store, 4)) 1 rfl) hd_D_store ⟨(Nat.le_of_ble_eq_true rfl), (Nat.le_of_ble_eq_true rfl)⟩ rfl rfl) cw_0 rfl rfl rfl (Nat.le_of_ble_eq_true rfl) ⟨(Nat.le_of_ble_eq_true rfl), (Nat.le_of_ble_eq_true rfl)⟩ cw_adr ?_
    exact r_vret (pc := 58) h hr d_D_cut_58
  · intro i hi ih
    have ih : Wv p l e _ s m _ below meth c G A _ _ _ _ (cw G a hd (mix (i + 1) (fW (hd r1) v b) wk) sp ct ky nm) 15 [(5, .int (nI (i + 1))), (0, .ref (a 0)), (1, .int (nI t)), (2, .int (nI r1)), (3, .int (nI v)), (4, .int (bI b))] [] := ih
    show Wv p l e _ s m _ below meth c G A _ _ _ _ (cw G a hd (mix i (fW (hd r1) v b) wk) sp ct ky nm) 15 [(5, .int (nI i)), (0, .ref (a 0)), (1, .int (nI t)), (2, .int (nI r1)), (3, .int (nI v)), (4, .int (bI b))] []
    refine r_iload (pc := 15) h 0 d_D_cut_15 rfl ?_
    refine r_bipush (pc := 17) h (v := nI 16) d_D_cut_17 (by decide) ?_
    refine r_icmp_ge_f (pc := 19) h (tgt := 49) d_D_cut_19 (by decide) (nI_ge hi (by decide)) ?_
    refine r_aload_n (pc := 22) h 1 d_D_cut_22 rfl rfl ?_
    refine r_get (pc := 23) h 0 1 d_D_cut_23 cw_0 rfl (by decide) in_D (List.mem_cons_of_mem _ w_43) rfl ?_
    refine r_iload (pc := 26) h 0 d_D_cut_26 rfl ?_
    refine r_aload_n (pc := 28) h 1 d_D_cut_28 rfl rfl ?_
    refine r_get (pc := 29) h 0 0 d_D_cut_29 cw_0 rfl (by decide) in_D (List.mem_cons_of_mem _ w_42) rfl ?_
    refine r_iload_n (pc := 32) h 3 d_D_cut_32 rfl rfl ?_
    refine r_aaload (pc := 33) h 1 3 r1 d_D_cut_33 cw_1 rfl rfl rfl h1 (by decide) (cw_o h1) ?_
    refine r_iload_n (pc := 34) h 4 d_D_cut_34 rfl rfl ?_
    refine r_iload (pc := 35) h 5 d_D_cut_35 rfl ?_
    refine r_iload (pc := 37) h 0 d_D_cut_37 rfl ?_
    refine r_invSa (pc := 39) h (st := [.int (nI i), .ref (a 2)]) d_D_cut_39 (c_fixedWord (7 + r1) (a (7 + r1)) v i b (hd r1) (cw_r h1) hv hi) (r_cS h wc_D_fixedWord w_191 w_1 w_192 hd_D_fixedWord ⟨(Nat.le_of_ble_eq_true rfl), (Nat.le_of_ble_eq_true rfl)⟩ rfl rfl) rfl rfl (Nat.le_of_ble_eq_true rfl) ⟨(Nat.le_of_ble_eq_true rfl), (Nat.le_of_ble_eq_true rfl)⟩ rfl ?_
    refine r_lastore (pc := 42) h 2 (ws' := (cw G a hd (mix (i + 1) (fW (hd r1) v b) wk) sp ct ky nm)) i d_D_cut_42 cw_2 rfl hi (by decide) (by rw [mix_updL i (fW (hd r1) v b) wk]; exact cw_s2) ?_
    refine r_iinc (pc := 43) h (v := nI (i + 1)) (lv' := [(5, .int (nI (i + 1))), (0, .ref (a 0)), (1, .int (nI t)), (2, .int (nI r1)), (3, .int (nI v)), (4, .int (bI b))]) 0 d_D_cut_43 rfl (nI_inc i) (by decide) rfl ?_
    refine r_goto (pc := 46) h (tgt := 15) d_D_cut_46 (by decide) ?_
    exact ih
theorem c_put (t : Nat) (ht : t < 16) (r1 v r2 : Nat) (h1 : r1 < 16) (hv : v < 10) (h2 : r2 < 16) : Ct l y_D_put (.code y_D_put b_D_put 10 none :: TT) (rmF 3 67) G [.ref (a 0), .int (nI t), .int (nI r1), .int (nI v), .int (nI r2)] (cw G a hd wk sp ct ky nm) none (cw G a (va_up hd t (mix 16 (mix 16 (fun j => cW (hd r2 j) (fW (hd r1) v true j) (fW (hd r1) v false j)) wk) (hd t))) (mix 16 (fun j => cW (hd r2 j) (fW (hd r1) v true j) (fW (hd r1) v false j)) wk) sp ct ky nm) := by
  refine ct_intro (cc := b_D_put) (nL := 10) (by decide) [(0, .ref (a 0)), (1, .int (nI t)), (2, .int (nI r1)), (3, .int (nI v)), (4, .int (nI r2))] rfl (Nat.le_of_ble_eq_true rfl) ?_
  intro p e s m below meth c A h hr
  refine r_iload_n (pc := 0) h 1 d_D_put_0 rfl rfl ?_
  refine r_invSv (pc := 1) h (st := []) d_D_put_1 (c_checkRegister t ht) (r_cS h wc_D_checkRegister w_63 w_1 w_64 hd_D_checkRegister ⟨(Nat.le_of_ble_eq_true rfl), (Nat.le_of_ble_eq_true rfl)⟩ rfl rfl) rfl rfl (Nat.le_of_ble_eq_true rfl) ⟨(Nat.le_of_ble_eq_true rfl), (Nat.le_of_ble_eq_true rfl)⟩ rfl ?_
  refine r_iload_n (pc := 4) h 2 d_D_put_4 rfl rfl ?_
  refine r_invSv (pc := 5) h (st := []) d_D_put_5 (c_checkRegister r1 h1) (r_cS h wc_D_checkRegister w_63 w_1 w_64 hd_D_checkRegister ⟨(Nat.le_of_ble_eq_true rfl), (Nat.le_of_ble_eq_true rfl)⟩ rfl rfl) rfl rfl (Nat.le_of_ble_eq_true rfl) ⟨(Nat.le_of_ble_eq_true rfl), (Nat.le_of_ble_eq_true rfl)⟩ rfl ?_
  refine r_iload_n (pc := 8) h 3 d_D_put_8 rfl rfl ?_
  refine r_invSv (pc := 9) h (st := []) d_D_put_9 (c_checkVariable v hv) (r_cS h wc_D_checkVariable w_133 w_1 w_134 hd_D_checkVariable ⟨(Nat.le_of_ble_eq_true rfl), (Nat.le_of_ble_eq_true rfl)⟩ rfl rfl) rfl rfl (Nat.le_of_ble_eq_true rfl) ⟨(Nat.le_of_ble_eq_true rfl), (Nat.le_of_ble_eq_true rfl)⟩ rfl ?_
  refine r_iload (pc := 12) h 4 d_D_put_12 rfl ?_
  refine r_invSv (pc := 14) h (st := []) d_D_put_14 (c_checkRegister r2 h2) (r_cS h wc_D_checkRegister w_63 w_1 w_64 hd_D_checkRegister ⟨(Nat.le_of_ble_eq_true rfl), (Nat.le_of_ble_eq_true rfl)⟩ rfl rfl) rfl rfl (Nat.le_of_ble_eq_true rfl) ⟨(Nat.le_of_ble_eq_true rfl), (Nat.le_of_ble_eq_true rfl)⟩ rfl ?_
  refine r_iconst (pc := 17) h (v := nI 0) d_D_put_17 (by decide) ?_
  refine r_istore (pc := 18) h (lv' := [(5, .int (nI 0)), (0, .ref (a 0)), (1, .int (nI t)), (2, .int (nI r1)), (3, .int (nI v)), (4, .int (nI r2))]) d_D_put_18 (by decide) rfl ?_
  refine Wv.wld (ws' := (cw G a hd (mix 0 (fun j => cW (hd r2 j) (fW (hd r1) v true j) (fW (hd r1) v false j)) wk) sp ct ky nm)) (by rw [mix_0]) ?_
  refine Wv.loop 16 (fun i => (cw G a hd (mix i (fun j => cW (hd r2 j) (fW (hd r1) v true j) (fW (hd r1) v false j)) wk) sp ct ky nm)) (fun i => [(5, .int (nI i)), (0, .ref (a 0)), (1, .int (nI t)), (2, .int (nI r1)), (3, .int (nI v)), (4, .int (nI r2))]) ?_ ?_
  · show Wv p l e _ s m _ below meth c G A _ _ _ _ (cw G a hd (mix 16 (fun j => cW (hd r2 j) (fW (hd r1) v true j) (fW (hd r1) v false j)) wk) sp ct ky nm) 20 [(5, .int (nI 16)), (0, .ref (a 0)), (1, .int (nI t)), (2, .int (nI r1)), (3, .int (nI v)), (4, .int (nI r2))] []
    refine r_iload (pc := 20) h 0 d_D_put_20 rfl ?_
    refine r_bipush (pc := 22) h (v := nI 16) d_D_put_22 (by decide) ?_
    refine r_icmp_ge_t (pc := 24) h (tgt := 87) d_D_put_24 (by decide) (nI_le (Nat.le_refl _) (by decide)) ?_
    refine r_aload_n (pc := 87) h 1 d_D_put_87 rfl rfl ?_
    refine r_aload_n (pc := 88) h 1 d_D_put_88 rfl rfl ?_
    refine r_get (pc := 89) h 0 1 d_D_put_89 cw_0 rfl (by decide) in_D (List.mem_cons_of_mem _ w_43) rfl ?_
    refine r_iload_n (pc := 92) h 2 d_D_put_92 rfl rfl ?_
    refine r_invVv (pc := 93) h 0 (st := []) d_D_put_93 (c_store2 t ht) (r_cV h wc_D_store w_197 w_1 w_199 (TT_se (q := (y_D_store, 4)) 1 rfl) hd_D_store ⟨(Nat.le_of_ble_eq_true rfl), (Nat.le_of_ble_eq_true rfl)⟩ rfl rfl) cw_0 rfl rfl rfl (Nat.le_of_ble_eq_true rfl) ⟨(Nat.le_of_ble_eq_true rfl), (Nat.le_of_ble_eq_true rfl)⟩ cw_adr ?_
    exact r_vret (pc := 96) h hr d_D_put_96
  · intro i hi ih
    have ih : Wv p l e _ s m _ below meth c G A _ _ _ _ (cw G a hd (mix (i + 1) (fun j => cW (hd r2 j) (fW (hd r1) v true j) (fW (hd r1) v false j)) wk) sp ct ky nm) 20 [(5, .int (nI (i + 1))), (0, .ref (a 0)), (1, .int (nI t)), (2, .int (nI r1)), (3, .int (nI v)), (4, .int (nI r2))] [] := ih
    show Wv p l e _ s m _ below meth c G A _ _ _ _ (cw G a hd (mix i (fun j => cW (hd r2 j) (fW (hd r1) v true j) (fW (hd r1) v false j)) wk) sp ct ky nm) 20 [(5, .int (nI i)), (0, .ref (a 0)), (1, .int (nI t)), (2, .int (nI r1)), (3, .int (nI v)), (4, .int (nI r2))] []
    refine r_iload (pc := 20) h 0 d_D_put_20 rfl ?_
    refine r_bipush (pc := 22) h (v := nI 16) d_D_put_22 (by decide) ?_
    refine r_icmp_ge_f (pc := 24) h (tgt := 87) d_D_put_24 (by decide) (nI_ge hi (by decide)) ?_
    refine r_aload_n (pc := 27) h 1 d_D_put_27 rfl rfl ?_
    refine r_get (pc := 28) h 0 0 d_D_put_28 cw_0 rfl (by decide) in_D (List.mem_cons_of_mem _ w_42) rfl ?_
    refine r_iload_n (pc := 31) h 3 d_D_put_31 rfl rfl ?_
    refine r_aaload (pc := 32) h 1 3 r1 d_D_put_32 cw_1 rfl rfl rfl h1 (by decide) (cw_o h1) ?_
    refine r_iload_n (pc := 33) h 4 d_D_put_33 rfl rfl ?_
    refine r_iconst (pc := 34) h (v := bI true) d_D_put_34 (by decide) ?_
    refine r_iload (pc := 35) h 0 d_D_put_35 rfl ?_
    refine r_invSa (pc := 37) h (st := []) d_D_put_37 (c_fixedWord (7 + r1) (a (7 + r1)) v i true (hd r1) (cw_r h1) hv hi) (r_cS h wc_D_fixedWord w_191 w_1 w_192 hd_D_fixedWord ⟨(Nat.le_of_ble_eq_true rfl), (Nat.le_of_ble_eq_true rfl)⟩ rfl rfl) rfl rfl (Nat.le_of_ble_eq_true rfl) ⟨(Nat.le_of_ble_eq_true rfl), (Nat.le_of_ble_eq_true rfl)⟩ rfl ?_
    refine r_lstore (pc := 40) h (lv' := [(6, .long (fW (hd r1) v true i)), (5, .int (nI i)), (0, .ref (a 0)), (1, .int (nI t)), (2, .int (nI r1)), (3, .int (nI v)), (4, .int (nI r2))]) d_D_put_40 (by decide) rfl ?_
    refine r_aload_n (pc := 42) h 2 d_D_put_42 rfl rfl ?_
    refine r_get (pc := 43) h 0 0 d_D_put_43 cw_0 rfl (by decide) in_D (List.mem_cons_of_mem _ w_42) rfl ?_
    refine r_iload_n (pc := 46) h 4 d_D_put_46 rfl rfl ?_
    refine r_aaload (pc := 47) h 1 3 r1 d_D_put_47 cw_1 rfl rfl rfl h1 (by decide) (cw_o h1) ?_
    refine r_iload_n (pc := 48) h 5 d_D_put_48 rfl rfl ?_
    refine r_iconst (pc := 49) h (v := bI false) d_D_put_49 (by decide) ?_
    refine r_iload (pc := 50) h 1 d_D_put_50 rfl ?_
    refine r_invSa (pc := 52) h (st := []) d_D_put_52 (c_fixedWord (7 + r1) (a (7 + r1)) v i false (hd r1) (cw_r h1) hv hi) (r_cS h wc_D_fixedWord w_191 w_1 w_192 hd_D_fixedWord ⟨(Nat.le_of_ble_eq_true rfl), (Nat.le_of_ble_eq_true rfl)⟩ rfl rfl) rfl rfl (Nat.le_of_ble_eq_true rfl) ⟨(Nat.le_of_ble_eq_true rfl), (Nat.le_of_ble_eq_true rfl)⟩ rfl ?_
    refine r_lstore (pc := 55) h (lv' := [(8, .long (fW (hd r1) v false i)), (6, .long (fW (hd r1) v true i)), (5, .int (nI i)), (0, .ref (a 0)), (1, .int (nI t)), (2, .int (nI r1)), (3, .int (nI v)), (4, .int (nI r2))]) d_D_put_55 (by decide) rfl ?_
    refine r_aload_n (pc := 57) h 3 d_D_put_57 rfl rfl ?_
    refine r_get (pc := 58) h 0 1 d_D_put_58 cw_0 rfl (by decide) in_D (List.mem_cons_of_mem _ w_43) rfl ?_
    refine r_iload (pc := 61) h 2 d_D_put_61 rfl ?_
    refine r_aload_n (pc := 63) h 3 d_D_put_63 rfl rfl ?_
    refine r_get (pc := 64) h 0 0 d_D_put_64 cw_0 rfl (by decide) in_D (List.mem_cons_of_mem _ w_42) rfl ?_
    refine r_iload (pc := 67) h 7 d_D_put_67 rfl ?_
    refine r_aaload (pc := 69) h 1 3 r2 d_D_put_69 cw_1 rfl rfl rfl h2 (by decide) (cw_o h2) ?_
    refine r_iload (pc := 70) h 2 d_D_put_70 rfl ?_
    refine r_laload (pc := 72) h (7 + r2) (z := hd r2 i) i d_D_put_72 (cw_r h2) rfl hi (by decide) rfl ?_
    refine r_lload (pc := 73) h 1 d_D_put_73 rfl ?_
    refine r_lload (pc := 75) h 0 d_D_put_75 rfl ?_
    refine r_invSa (pc := 77) h (st := [.int (nI i), .ref (a 2)]) d_D_put_77 (c_chosenWord (hd r2 i) (fW (hd r1) v true i) (fW (hd r1) v false i)) (r_cS h wc_D_chosenWord w_181 w_1 w_182 hd_D_chosenWord ⟨(Nat.le_of_ble_eq_true rfl), (Nat.le_of_ble_eq_true rfl)⟩ rfl rfl) rfl rfl (Nat.le_of_ble_eq_true rfl) ⟨(Nat.le_of_ble_eq_true rfl), (Nat.le_of_ble_eq_true rfl)⟩ rfl ?_
    refine r_lastore (pc := 80) h 2 (ws' := (cw G a hd (mix (i + 1) (fun j => cW (hd r2 j) (fW (hd r1) v true j) (fW (hd r1) v false j)) wk) sp ct ky nm)) i d_D_put_80 cw_2 rfl hi (by decide) (by rw [mix_updL i (fun j => cW (hd r2 j) (fW (hd r1) v true j) (fW (hd r1) v false j)) wk]; exact cw_s2) ?_
    refine r_iinc (pc := 81) h (v := nI (i + 1)) (lv' := [(5, .int (nI (i + 1))), (8, .long (fW (hd r1) v false i)), (6, .long (fW (hd r1) v true i)), (0, .ref (a 0)), (1, .int (nI t)), (2, .int (nI r1)), (3, .int (nI v)), (4, .int (nI r2))]) 2 d_D_put_81 rfl (nI_inc i) (by decide) rfl ?_
    refine r_goto (pc := 84) h (tgt := 20) d_D_put_84 (by decide) ?_
    refine Wv.sub [0, 3, 4, 5, 6, 7] rfl ?_
    exact ih
theorem c_bindWork (b : Bool) (v : Nat) (hv : v < 10) : Ct l y_D_bindWork (.code y_D_bindWork b_D_bindWork 6 none :: TT) (rmF 1 40) G [.ref (a 0), .int (nI v), .int (bI b)] (cw G a hd wk sp ct ky nm) none (cw G a hd (mix 16 (mix 16 (gB b wk v) sp) wk) (mix 16 (gB b wk v) sp) ct ky nm) := by
  cases b
  · exact c_bindWork_false v hv
  · exact c_bindWork_true v hv
theorem bnd_t {S v : Nat} {b : Bool} (h : S.testBit v = true) : bnd S b wk sp (v + 1) = (mix 16 (mix 16 (gB b (bnd S b wk sp v).1 v) (bnd S b wk sp v).2) (bnd S b wk sp v).1, mix 16 (gB b (bnd S b wk sp v).1 v) (bnd S b wk sp v).2) := if_pos h
theorem bnd_f {S v : Nat} {b : Bool} (h : S.testBit v = false) : bnd S b wk sp (v + 1) = bnd S b wk sp v := if_neg (by rw [h]; decide)
theorem c_bound (t : Nat) (ht : t < 16) (r1 S : Nat) (b : Bool) (h1 : r1 < 16) (hS : S < 1024) : Ct l y_D_bound (.code y_D_bound b_D_bound 6 none :: TT) (rmF 2 65) G [.ref (a 0), .int (nI t), .int (nI r1), .int (nI S), .int (bI b)] (cw G a hd wk sp ct ky nm) none (cw G a (va_up hd t (mix 16 (bnd S b (mix 16 (hd r1) wk) sp 10).1 (hd t))) ((bnd S b (mix 16 (hd r1) wk) sp 10).1) ((bnd S b (mix 16 (hd r1) wk) sp 10).2) ct ky nm) := by
  refine ct_intro (cc := b_D_bound) (nL := 6) (by decide) [(0, .ref (a 0)), (1, .int (nI t)), (2, .int (nI r1)), (3, .int (nI S)), (4, .int (bI b))] rfl (Nat.le_of_ble_eq_true rfl) ?_
  intro p e s m below meth c A h hr
  refine r_iload_n (pc := 0) h 1 d_D_bound_0 rfl rfl ?_
  refine r_invSv (pc := 1) h (st := []) d_D_bound_1 (c_checkRegister t ht) (r_cS h wc_D_checkRegister w_63 w_1 w_64 hd_D_checkRegister ⟨(Nat.le_of_ble_eq_true rfl), (Nat.le_of_ble_eq_true rfl)⟩ rfl rfl) rfl rfl (Nat.le_of_ble_eq_true rfl) ⟨(Nat.le_of_ble_eq_true rfl), (Nat.le_of_ble_eq_true rfl)⟩ rfl ?_
  refine r_iload_n (pc := 4) h 2 d_D_bound_4 rfl rfl ?_
  refine r_invSv (pc := 5) h (st := []) d_D_bound_5 (c_checkRegister r1 h1) (r_cS h wc_D_checkRegister w_63 w_1 w_64 hd_D_checkRegister ⟨(Nat.le_of_ble_eq_true rfl), (Nat.le_of_ble_eq_true rfl)⟩ rfl rfl) rfl rfl (Nat.le_of_ble_eq_true rfl) ⟨(Nat.le_of_ble_eq_true rfl), (Nat.le_of_ble_eq_true rfl)⟩ rfl ?_
  refine r_iload_n (pc := 8) h 3 d_D_bound_8 rfl rfl ?_
  refine r_invSv (pc := 9) h (st := []) d_D_bound_9 (c_checkSet S hS) (r_cS h wc_D_checkSet w_218 w_1 w_219 hd_D_checkSet ⟨(Nat.le_of_ble_eq_true rfl), (Nat.le_of_ble_eq_true rfl)⟩ rfl rfl) rfl rfl (Nat.le_of_ble_eq_true rfl) ⟨(Nat.le_of_ble_eq_true rfl), (Nat.le_of_ble_eq_true rfl)⟩ rfl ?_
  refine r_aload_n (pc := 12) h 0 d_D_bound_12 rfl rfl ?_
  refine r_get (pc := 13) h 0 0 d_D_bound_13 cw_0 rfl (by decide) in_D (List.mem_cons_of_mem _ w_42) rfl ?_
  refine r_iload_n (pc := 16) h 2 d_D_bound_16 rfl rfl ?_
  refine r_aaload (pc := 17) h 1 3 r1 d_D_bound_17 cw_1 rfl rfl rfl h1 (by decide) (cw_o h1) ?_
  refine r_iconst (pc := 18) h (v := 0) d_D_bound_18 (by decide) ?_
  refine r_aload_n (pc := 19) h 0 d_D_bound_19 rfl rfl ?_
  refine r_get (pc := 20) h 0 1 d_D_bound_20 cw_0 rfl (by decide) in_D (List.mem_cons_of_mem _ w_43) rfl ?_
  refine r_iconst (pc := 23) h (v := 0) d_D_bound_23 (by decide) ?_
  refine r_bipush (pc := 24) h (v := nI 16) d_D_bound_24 (by decide) ?_
  refine r_copyl (pc := 26) h (7 + r1) 2 (ws' := (cw G a hd (mix 16 (hd r1) wk) sp ct ky nm)) 16 d_D_bound_26 (List.mem_cons_of_mem _ w_201) (List.mem_cons_of_mem _ w_203) (List.mem_cons_of_mem _ w_202) (List.mem_cons_of_mem _ w_9) (cw_r h1) cw_2 rfl rfl rfl (by decide) (by decide) (by decide) (Nat.le_of_ble_eq_true rfl) (Nat.le_of_ble_eq_true rfl) (by rw [cpy_row]; exact cw_s2) ?_
  refine r_iconst (pc := 29) h (v := nI 0) d_D_bound_29 (by decide) ?_
  refine r_istore (pc := 30) h (lv' := [(5, .int (nI 0)), (0, .ref (a 0)), (1, .int (nI t)), (2, .int (nI r1)), (3, .int (nI S)), (4, .int (bI b))]) d_D_bound_30 (by decide) rfl ?_
  refine Wv.wld (ws' := (cw G a hd ((bnd S b (mix 16 (hd r1) wk) sp 0).1) ((bnd S b (mix 16 (hd r1) wk) sp 0).2) ct ky nm)) rfl ?_
  refine Wv.loop 10 (fun i => (cw G a hd ((bnd S b (mix 16 (hd r1) wk) sp i).1) ((bnd S b (mix 16 (hd r1) wk) sp i).2) ct ky nm)) (fun i => [(5, .int (nI i)), (0, .ref (a 0)), (1, .int (nI t)), (2, .int (nI r1)), (3, .int (nI S)), (4, .int (bI b))]) ?_ ?_
  · show Wv p l e _ s m _ below meth c G A _ _ _ _ (cw G a hd ((bnd S b (mix 16 (hd r1) wk) sp 10).1) ((bnd S b (mix 16 (hd r1) wk) sp 10).2) ct ky nm) 32 [(5, .int (nI 10)), (0, .ref (a 0)), (1, .int (nI t)), (2, .int (nI r1)), (3, .int (nI S)), (4, .int (bI b))] []
    refine r_iload (pc := 32) h 0 d_D_bound_32 rfl ?_
    refine r_bipush (pc := 34) h (v := nI 10) d_D_bound_34 (by decide) ?_
    refine r_icmp_ge_t (pc := 36) h (tgt := 62) d_D_bound_36 (by decide) (nI_le (Nat.le_refl _) (by decide)) ?_
    refine r_aload_n (pc := 62) h 1 d_D_bound_62 rfl rfl ?_
    refine r_aload_n (pc := 63) h 1 d_D_bound_63 rfl rfl ?_
    refine r_get (pc := 64) h 0 1 d_D_bound_64 cw_0 rfl (by decide) in_D (List.mem_cons_of_mem _ w_43) rfl ?_
    refine r_iload_n (pc := 67) h 2 d_D_bound_67 rfl rfl ?_
    refine r_invVv (pc := 68) h 0 (st := []) d_D_bound_68 (c_store2 t ht) (r_cV h wc_D_store w_197 w_1 w_199 (TT_se (q := (y_D_store, 4)) 1 rfl) hd_D_store ⟨(Nat.le_of_ble_eq_true rfl), (Nat.le_of_ble_eq_true rfl)⟩ rfl rfl) cw_0 rfl rfl rfl (Nat.le_of_ble_eq_true rfl) ⟨(Nat.le_of_ble_eq_true rfl), (Nat.le_of_ble_eq_true rfl)⟩ cw_adr ?_
    exact r_vret (pc := 71) h hr d_D_bound_71
  · intro i hi ih
    have ih : Wv p l e _ s m _ below meth c G A _ _ _ _ (cw G a hd ((bnd S b (mix 16 (hd r1) wk) sp (i + 1)).1) ((bnd S b (mix 16 (hd r1) wk) sp (i + 1)).2) ct ky nm) 32 [(5, .int (nI (i + 1))), (0, .ref (a 0)), (1, .int (nI t)), (2, .int (nI r1)), (3, .int (nI S)), (4, .int (bI b))] [] := ih
    show Wv p l e _ s m _ below meth c G A _ _ _ _ (cw G a hd ((bnd S b (mix 16 (hd r1) wk) sp i).1) ((bnd S b (mix 16 (hd r1) wk) sp i).2) ct ky nm) 32 [(5, .int (nI i)), (0, .ref (a 0)), (1, .int (nI t)), (2, .int (nI r1)), (3, .int (nI S)), (4, .int (bI b))] []
    refine r_iload (pc := 32) h 0 d_D_bound_32 rfl ?_
    refine r_bipush (pc := 34) h (v := nI 10) d_D_bound_34 (by decide) ?_
    refine r_icmp_ge_f (pc := 36) h (tgt := 62) d_D_bound_36 (by decide) (nI_ge hi (by decide)) ?_
    refine r_iload_n (pc := 39) h 4 d_D_bound_39 rfl rfl ?_
    refine r_iload (pc := 40) h 0 d_D_bound_40 rfl ?_
    refine r_invSa (pc := 42) h (st := []) d_D_bound_42 (c_isIn S i (by omega) (by omega)) (r_cS h wc_D_isIn w_142 w_1 w_143 hd_D_isIn ⟨(Nat.le_of_ble_eq_true rfl), (Nat.le_of_ble_eq_true rfl)⟩ rfl rfl) rfl rfl (Nat.le_of_ble_eq_true rfl) ⟨(Nat.le_of_ble_eq_true rfl), (Nat.le_of_ble_eq_true rfl)⟩ rfl ?_
    refine r_if_eq (pc := 45) h (tgt := 56) d_D_bound_45 (by decide) (fun q45 => ?_) (fun q45 => ?_)
    · have hb := (bI_0 _).mp q45
      refine Wv.wld (ws' := (cw G a hd ((bnd S b (mix 16 (hd r1) wk) sp (i + 1)).1) ((bnd S b (mix 16 (hd r1) wk) sp (i + 1)).2) ct ky nm)) (by rw [bnd_f hb]) ?_
      refine r_iinc (pc := 56) h (v := nI (i + 1)) (lv' := [(5, .int (nI (i + 1))), (0, .ref (a 0)), (1, .int (nI t)), (2, .int (nI r1)), (3, .int (nI S)), (4, .int (bI b))]) 0 d_D_bound_56 rfl (nI_inc i) (by decide) rfl ?_
      refine r_goto (pc := 59) h (tgt := 32) d_D_bound_59 (by decide) ?_
      exact ih
    · have hb : S.testBit i = true := by cases h9 : S.testBit i; exact absurd ((bI_0 _).mpr h9) q45; rfl
      refine r_aload_n (pc := 48) h 1 d_D_bound_48 rfl rfl ?_
      refine r_iload (pc := 49) h 0 d_D_bound_49 rfl ?_
      refine r_iload (pc := 51) h 5 d_D_bound_51 rfl ?_
      refine r_invVv (pc := 53) h 0 (st := []) d_D_bound_53 (c_bindWork b i hi) (r_cV h wc_D_bindWork w_222 w_1 w_224 (TT_se (q := (y_D_bindWork, 4)) 2 rfl) hd_D_bindWork ⟨(Nat.le_of_ble_eq_true rfl), (Nat.le_of_ble_eq_true rfl)⟩ rfl rfl) cw_0 rfl rfl rfl (Nat.le_of_ble_eq_true rfl) ⟨(Nat.le_of_ble_eq_true rfl), (Nat.le_of_ble_eq_true rfl)⟩ cw_adr ?_
      refine Wv.wld (ws' := (cw G a hd ((bnd S b (mix 16 (hd r1) wk) sp (i + 1)).1) ((bnd S b (mix 16 (hd r1) wk) sp (i + 1)).2) ct ky nm)) (by rw [bnd_t hb]) ?_
      refine r_iinc (pc := 56) h (v := nI (i + 1)) (lv' := [(5, .int (nI (i + 1))), (0, .ref (a 0)), (1, .int (nI t)), (2, .int (nI r1)), (3, .int (nI S)), (4, .int (bI b))]) 0 d_D_bound_56 rfl (nI_inc i) (by decide) rfl ?_
      refine r_goto (pc := 59) h (tgt := 32) d_D_bound_59 (by decide) ?_
      exact ih
theorem c_swap (t : Nat) (ht : t < 16) (r1 v w : Nat) (h1 : r1 < 16) (hv : v < 10) (hw : w < 10) : Ct l y_D_swap (.code y_D_swap b_D_swap 8 none :: TT) (rmF 2 62) G [.ref (a 0), .int (nI t), .int (nI r1), .int (nI v), .int (nI w)] (cw G a hd wk sp ct ky nm) none (cw G a (va_up hd t (mix 16 (mix 16 (fun j => cW (vW v j ^^^ vW w j) (tW (mix 16 (tW (hd r1) v) wk) w j) (hd r1 j)) sp) (hd t))) (mix 16 (tW (hd r1) v) wk) (mix 16 (fun j => cW (vW v j ^^^ vW w j) (tW (mix 16 (tW (hd r1) v) wk) w j) (hd r1 j)) sp) ct ky nm) := by
  refine ct_intro (cc := b_D_swap) (nL := 8) (by decide) [(0, .ref (a 0)), (1, .int (nI t)), (2, .int (nI r1)), (3, .int (nI v)), (4, .int (nI w))] rfl (Nat.le_of_ble_eq_true rfl) ?_
  intro p e s m below meth c A h hr
  refine r_iload_n (pc := 0) h 1 d_D_swap_0 rfl rfl ?_
  refine r_invSv (pc := 1) h (st := []) d_D_swap_1 (c_checkRegister t ht) (r_cS h wc_D_checkRegister w_63 w_1 w_64 hd_D_checkRegister ⟨(Nat.le_of_ble_eq_true rfl), (Nat.le_of_ble_eq_true rfl)⟩ rfl rfl) rfl rfl (Nat.le_of_ble_eq_true rfl) ⟨(Nat.le_of_ble_eq_true rfl), (Nat.le_of_ble_eq_true rfl)⟩ rfl ?_
  refine r_iload_n (pc := 4) h 2 d_D_swap_4 rfl rfl ?_
  refine r_invSv (pc := 5) h (st := []) d_D_swap_5 (c_checkRegister r1 h1) (r_cS h wc_D_checkRegister w_63 w_1 w_64 hd_D_checkRegister ⟨(Nat.le_of_ble_eq_true rfl), (Nat.le_of_ble_eq_true rfl)⟩ rfl rfl) rfl rfl (Nat.le_of_ble_eq_true rfl) ⟨(Nat.le_of_ble_eq_true rfl), (Nat.le_of_ble_eq_true rfl)⟩ rfl ?_
  refine r_iload_n (pc := 8) h 3 d_D_swap_8 rfl rfl ?_
  refine r_invSv (pc := 9) h (st := []) d_D_swap_9 (c_checkVariable v hv) (r_cS h wc_D_checkVariable w_133 w_1 w_134 hd_D_checkVariable ⟨(Nat.le_of_ble_eq_true rfl), (Nat.le_of_ble_eq_true rfl)⟩ rfl rfl) rfl rfl (Nat.le_of_ble_eq_true rfl) ⟨(Nat.le_of_ble_eq_true rfl), (Nat.le_of_ble_eq_true rfl)⟩ rfl ?_
  refine r_iload (pc := 12) h 4 d_D_swap_12 rfl ?_
  refine r_invSv (pc := 14) h (st := []) d_D_swap_14 (c_checkVariable w hw) (r_cS h wc_D_checkVariable w_133 w_1 w_134 hd_D_checkVariable ⟨(Nat.le_of_ble_eq_true rfl), (Nat.le_of_ble_eq_true rfl)⟩ rfl rfl) rfl rfl (Nat.le_of_ble_eq_true rfl) ⟨(Nat.le_of_ble_eq_true rfl), (Nat.le_of_ble_eq_true rfl)⟩ rfl ?_
  refine r_iconst (pc := 17) h (v := nI 0) d_D_swap_17 (by decide) ?_
  refine r_istore (pc := 18) h (lv' := [(5, .int (nI 0)), (0, .ref (a 0)), (1, .int (nI t)), (2, .int (nI r1)), (3, .int (nI v)), (4, .int (nI w))]) d_D_swap_18 (by decide) rfl ?_
  refine Wv.wld (ws' := (cw G a hd (mix 0 (tW (hd r1) v) wk) sp ct ky nm)) (by rw [mix_0]) ?_
  refine Wv.loop 16 (fun i => (cw G a hd (mix i (tW (hd r1) v) wk) sp ct ky nm)) (fun i => [(5, .int (nI i)), (0, .ref (a 0)), (1, .int (nI t)), (2, .int (nI r1)), (3, .int (nI v)), (4, .int (nI w))]) ?_ ?_
  · show Wv p l e _ s m _ below meth c G A _ _ _ _ (cw G a hd (mix 16 (tW (hd r1) v) wk) sp ct ky nm) 20 [(5, .int (nI 16)), (0, .ref (a 0)), (1, .int (nI t)), (2, .int (nI r1)), (3, .int (nI v)), (4, .int (nI w))] []
    refine r_iload (pc := 20) h 0 d_D_swap_20 rfl ?_
    refine r_bipush (pc := 22) h (v := nI 16) d_D_swap_22 (by decide) ?_
    refine r_icmp_ge_t (pc := 24) h (tgt := 52) d_D_swap_24 (by decide) (nI_le (Nat.le_refl _) (by decide)) ?_
    refine r_iconst (pc := 52) h (v := nI 0) d_D_swap_52 (by decide) ?_
    refine r_istore (pc := 53) h (lv' := [(5, .int (nI 0)), (0, .ref (a 0)), (1, .int (nI t)), (2, .int (nI r1)), (3, .int (nI v)), (4, .int (nI w))]) d_D_swap_53 (by decide) rfl ?_
    refine Wv.wld (ws' := (cw G a hd (mix 16 (tW (hd r1) v) wk) (mix 0 (fun j => cW (vW v j ^^^ vW w j) (tW (mix 16 (tW (hd r1) v) wk) w j) (hd r1 j)) sp) ct ky nm)) (by rw [mix_0]) ?_
    refine Wv.loop 16 (fun i => (cw G a hd (mix 16 (tW (hd r1) v) wk) (mix i (fun j => cW (vW v j ^^^ vW w j) (tW (mix 16 (tW (hd r1) v) wk) w j) (hd r1 j)) sp) ct ky nm)) (fun i => [(5, .int (nI i)), (0, .ref (a 0)), (1, .int (nI t)), (2, .int (nI r1)), (3, .int (nI v)), (4, .int (nI w))]) ?_ ?_
    · show Wv p l e _ s m _ below meth c G A _ _ _ _ (cw G a hd (mix 16 (tW (hd r1) v) wk) (mix 16 (fun j => cW (vW v j ^^^ vW w j) (tW (mix 16 (tW (hd r1) v) wk) w j) (hd r1 j)) sp) ct ky nm) 55 [(5, .int (nI 16)), (0, .ref (a 0)), (1, .int (nI t)), (2, .int (nI r1)), (3, .int (nI v)), (4, .int (nI w))] []
      refine r_iload (pc := 55) h 0 d_D_swap_55 rfl ?_
      refine r_bipush (pc := 57) h (v := nI 16) d_D_swap_57 (by decide) ?_
      refine r_icmp_ge_t (pc := 59) h (tgt := 116) d_D_swap_59 (by decide) (nI_le (Nat.le_refl _) (by decide)) ?_
      refine r_aload_n (pc := 116) h 1 d_D_swap_116 rfl rfl ?_
      refine r_aload_n (pc := 117) h 1 d_D_swap_117 rfl rfl ?_
      refine r_get (pc := 118) h 0 2 d_D_swap_118 cw_0 rfl (by decide) in_D (List.mem_cons_of_mem _ w_44) rfl ?_
      refine r_iload_n (pc := 121) h 2 d_D_swap_121 rfl rfl ?_
      refine r_invVv (pc := 122) h 0 (st := []) d_D_swap_122 (c_store3 t ht) (r_cV h wc_D_store w_197 w_1 w_199 (TT_se (q := (y_D_store, 4)) 1 rfl) hd_D_store ⟨(Nat.le_of_ble_eq_true rfl), (Nat.le_of_ble_eq_true rfl)⟩ rfl rfl) cw_0 rfl rfl rfl (Nat.le_of_ble_eq_true rfl) ⟨(Nat.le_of_ble_eq_true rfl), (Nat.le_of_ble_eq_true rfl)⟩ cw_adr ?_
      exact r_vret (pc := 125) h hr d_D_swap_125
    · intro i hi ih
      have ih : Wv p l e _ s m _ below meth c G A _ _ _ _ (cw G a hd (mix 16 (tW (hd r1) v) wk) (mix (i + 1) (fun j => cW (vW v j ^^^ vW w j) (tW (mix 16 (tW (hd r1) v) wk) w j) (hd r1 j)) sp) ct ky nm) 55 [(5, .int (nI (i + 1))), (0, .ref (a 0)), (1, .int (nI t)), (2, .int (nI r1)), (3, .int (nI v)), (4, .int (nI w))] [] := ih
      show Wv p l e _ s m _ below meth c G A _ _ _ _ (cw G a hd (mix 16 (tW (hd r1) v) wk) (mix i (fun j => cW (vW v j ^^^ vW w j) (tW (mix 16 (tW (hd r1) v) wk) w j) (hd r1 j)) sp) ct ky nm) 55 [(5, .int (nI i)), (0, .ref (a 0)), (1, .int (nI t)), (2, .int (nI r1)), (3, .int (nI v)), (4, .int (nI w))] []
      refine r_iload (pc := 55) h 0 d_D_swap_55 rfl ?_
      refine r_bipush (pc := 57) h (v := nI 16) d_D_swap_57 (by decide) ?_
      refine r_icmp_ge_f (pc := 59) h (tgt := 116) d_D_swap_59 (by decide) (nI_ge hi (by decide)) ?_
      refine r_iload_n (pc := 62) h 4 d_D_swap_62 rfl rfl ?_
      refine r_iload (pc := 63) h 0 d_D_swap_63 rfl ?_
      refine r_invSa (pc := 65) h (st := []) d_D_swap_65 (c_variableWord v i hv hi) (r_cS h wc_D_variableWord w_137 w_1 w_138 hd_D_variableWord ⟨(Nat.le_of_ble_eq_true rfl), (Nat.le_of_ble_eq_true rfl)⟩ rfl rfl) rfl rfl (Nat.le_of_ble_eq_true rfl) ⟨(Nat.le_of_ble_eq_true rfl), (Nat.le_of_ble_eq_true rfl)⟩ rfl ?_
      refine r_iload (pc := 68) h 5 d_D_swap_68 rfl ?_
      refine r_iload (pc := 70) h 0 d_D_swap_70 rfl ?_
      refine r_invSa (pc := 72) h (st := [.long (vW v i)]) d_D_swap_72 (c_variableWord w i hw hi) (r_cS h wc_D_variableWord w_137 w_1 w_138 hd_D_variableWord ⟨(Nat.le_of_ble_eq_true rfl), (Nat.le_of_ble_eq_true rfl)⟩ rfl rfl) rfl rfl (Nat.le_of_ble_eq_true rfl) ⟨(Nat.le_of_ble_eq_true rfl), (Nat.le_of_ble_eq_true rfl)⟩ rfl ?_
      refine r_lxor (pc := 75) h (z := (vW v i) ^^^ (vW w i)) d_D_swap_75 rfl ?_
      refine r_lstore (pc := 76) h (lv' := [(6, .long ((vW v i) ^^^ (vW w i))), (5, .int (nI i)), (0, .ref (a 0)), (1, .int (nI t)), (2, .int (nI r1)), (3, .int (nI v)), (4, .int (nI w))]) d_D_swap_76 (by decide) rfl ?_
      refine r_aload_n (pc := 78) h 2 d_D_swap_78 rfl rfl ?_
      refine r_get (pc := 79) h 0 2 d_D_swap_79 cw_0 rfl (by decide) in_D (List.mem_cons_of_mem _ w_44) rfl ?_
      refine r_iload (pc := 82) h 1 d_D_swap_82 rfl ?_
      refine r_lload (pc := 84) h 0 d_D_swap_84 rfl ?_
      refine r_aload_n (pc := 86) h 2 d_D_swap_86 rfl rfl ?_
      refine r_get (pc := 87) h 0 1 d_D_swap_87 cw_0 rfl (by decide) in_D (List.mem_cons_of_mem _ w_43) rfl ?_
      refine r_iload (pc := 90) h 6 d_D_swap_90 rfl ?_
      refine r_iload (pc := 92) h 1 d_D_swap_92 rfl ?_
      refine r_invSa (pc := 94) h (st := [.long ((vW v i) ^^^ (vW w i)), .int (nI i), .ref (a 3)]) d_D_swap_94 (c_turnedWord 2 (a 2) w i (mix 16 (tW (hd r1) v) wk) cw_2 hw hi) (r_cS h wc_D_turnedWord w_194 w_1 w_195 hd_D_turnedWord ⟨(Nat.le_of_ble_eq_true rfl), (Nat.le_of_ble_eq_true rfl)⟩ rfl rfl) rfl rfl (Nat.le_of_ble_eq_true rfl) ⟨(Nat.le_of_ble_eq_true rfl), (Nat.le_of_ble_eq_true rfl)⟩ rfl ?_
      refine r_aload_n (pc := 97) h 2 d_D_swap_97 rfl rfl ?_
      refine r_get (pc := 98) h 0 0 d_D_swap_98 cw_0 rfl (by decide) in_D (List.mem_cons_of_mem _ w_42) rfl ?_
      refine r_iload_n (pc := 101) h 4 d_D_swap_101 rfl rfl ?_
      refine r_aaload (pc := 102) h 1 3 r1 d_D_swap_102 cw_1 rfl rfl rfl h1 (by decide) (cw_o h1) ?_
      refine r_iload (pc := 103) h 1 d_D_swap_103 rfl ?_
      refine r_laload (pc := 105) h (7 + r1) (z := hd r1 i) i d_D_swap_105 (cw_r h1) rfl hi (by decide) rfl ?_
      refine r_invSa (pc := 106) h (st := [.int (nI i), .ref (a 3)]) d_D_swap_106 (c_chosenWord (vW v i ^^^ vW w i) (tW (mix 16 (tW (hd r1) v) wk) w i) (hd r1 i)) (r_cS h wc_D_chosenWord w_181 w_1 w_182 hd_D_chosenWord ⟨(Nat.le_of_ble_eq_true rfl), (Nat.le_of_ble_eq_true rfl)⟩ rfl rfl) rfl rfl (Nat.le_of_ble_eq_true rfl) ⟨(Nat.le_of_ble_eq_true rfl), (Nat.le_of_ble_eq_true rfl)⟩ rfl ?_
      refine r_lastore (pc := 109) h 3 (ws' := (cw G a hd (mix 16 (tW (hd r1) v) wk) (mix (i + 1) (fun j => cW (vW v j ^^^ vW w j) (tW (mix 16 (tW (hd r1) v) wk) w j) (hd r1 j)) sp) ct ky nm)) i d_D_swap_109 cw_3 rfl hi (by decide) (by rw [mix_updL i (fun j => cW (vW v j ^^^ vW w j) (tW (mix 16 (tW (hd r1) v) wk) w j) (hd r1 j)) sp]; exact cw_s3) ?_
      refine r_iinc (pc := 110) h (v := nI (i + 1)) (lv' := [(5, .int (nI (i + 1))), (6, .long ((vW v i) ^^^ (vW w i))), (0, .ref (a 0)), (1, .int (nI t)), (2, .int (nI r1)), (3, .int (nI v)), (4, .int (nI w))]) 1 d_D_swap_110 rfl (nI_inc i) (by decide) rfl ?_
      refine r_goto (pc := 113) h (tgt := 55) d_D_swap_113 (by decide) ?_
      refine Wv.sub [0, 2, 3, 4, 5, 6] rfl ?_
      exact ih
  · intro i hi ih
    have ih : Wv p l e _ s m _ below meth c G A _ _ _ _ (cw G a hd (mix (i + 1) (tW (hd r1) v) wk) sp ct ky nm) 20 [(5, .int (nI (i + 1))), (0, .ref (a 0)), (1, .int (nI t)), (2, .int (nI r1)), (3, .int (nI v)), (4, .int (nI w))] [] := ih
    show Wv p l e _ s m _ below meth c G A _ _ _ _ (cw G a hd (mix i (tW (hd r1) v) wk) sp ct ky nm) 20 [(5, .int (nI i)), (0, .ref (a 0)), (1, .int (nI t)), (2, .int (nI r1)), (3, .int (nI v)), (4, .int (nI w))] []
    refine r_iload (pc := 20) h 0 d_D_swap_20 rfl ?_
    refine r_bipush (pc := 22) h (v := nI 16) d_D_swap_22 (by decide) ?_
    refine r_icmp_ge_f (pc := 24) h (tgt := 52) d_D_swap_24 (by decide) (nI_ge hi (by decide)) ?_
    refine r_aload_n (pc := 27) h 1 d_D_swap_27 rfl rfl ?_
    refine r_get (pc := 28) h 0 1 d_D_swap_28 cw_0 rfl (by decide) in_D (List.mem_cons_of_mem _ w_43) rfl ?_
    refine r_iload (pc := 31) h 0 d_D_swap_31 rfl ?_
    refine r_aload_n (pc := 33) h 1 d_D_swap_33 rfl rfl ?_
    refine r_get (pc := 34) h 0 0 d_D_swap_34 cw_0 rfl (by decide) in_D (List.mem_cons_of_mem _ w_42) rfl ?_
    refine r_iload_n (pc := 37) h 3 d_D_swap_37 rfl rfl ?_
    refine r_aaload (pc := 38) h 1 3 r1 d_D_swap_38 cw_1 rfl rfl rfl h1 (by decide) (cw_o h1) ?_
    refine r_iload_n (pc := 39) h 4 d_D_swap_39 rfl rfl ?_
    refine r_iload (pc := 40) h 0 d_D_swap_40 rfl ?_
    refine r_invSa (pc := 42) h (st := [.int (nI i), .ref (a 2)]) d_D_swap_42 (c_turnedWord (7 + r1) (a (7 + r1)) v i (hd r1) (cw_r h1) hv hi) (r_cS h wc_D_turnedWord w_194 w_1 w_195 hd_D_turnedWord ⟨(Nat.le_of_ble_eq_true rfl), (Nat.le_of_ble_eq_true rfl)⟩ rfl rfl) rfl rfl (Nat.le_of_ble_eq_true rfl) ⟨(Nat.le_of_ble_eq_true rfl), (Nat.le_of_ble_eq_true rfl)⟩ rfl ?_
    refine r_lastore (pc := 45) h 2 (ws' := (cw G a hd (mix (i + 1) (tW (hd r1) v) wk) sp ct ky nm)) i d_D_swap_45 cw_2 rfl hi (by decide) (by rw [mix_updL i (tW (hd r1) v) wk]; exact cw_s2) ?_
    refine r_iinc (pc := 46) h (v := nI (i + 1)) (lv' := [(5, .int (nI (i + 1))), (0, .ref (a 0)), (1, .int (nI t)), (2, .int (nI r1)), (3, .int (nI v)), (4, .int (nI w))]) 0 d_D_swap_46 rfl (nI_inc i) (by decide) rfl ?_
    refine r_goto (pc := 49) h (tgt := 20) d_D_swap_49 (by decide) ?_
    exact ih
theorem c_is (r1 x : Nat) (h1 : r1 < 16) (hx : x < 1024) : Ct l y_D_is (.code y_D_is b_D_is 3 (some .boolean) :: TT) (rmF 1 23) G [.ref (a 0), .int (nI r1), .int (nI x)] (cw G a hd wk sp ct ky nm) (some (.int (bI (sv (hd r1) x)))) (cw G a hd wk sp ct ky nm) := by
  refine ct_intro (cc := b_D_is) (nL := 3) (by decide) [(0, .ref (a 0)), (1, .int (nI r1)), (2, .int (nI x))] rfl (Nat.le_of_ble_eq_true rfl) ?_
  intro p e s m below meth c A h hr
  refine r_iload_n (pc := 0) h 1 d_D_is_0 rfl rfl ?_
  refine r_invSv (pc := 1) h (st := []) d_D_is_1 (c_checkRegister r1 h1) (r_cS h wc_D_checkRegister w_63 w_1 w_64 hd_D_checkRegister ⟨(Nat.le_of_ble_eq_true rfl), (Nat.le_of_ble_eq_true rfl)⟩ rfl rfl) rfl rfl (Nat.le_of_ble_eq_true rfl) ⟨(Nat.le_of_ble_eq_true rfl), (Nat.le_of_ble_eq_true rfl)⟩ rfl ?_
  refine r_iload_n (pc := 4) h 2 d_D_is_4 rfl rfl ?_
  refine r_invSv (pc := 5) h (st := []) d_D_is_5 (c_checkAssignment x hx) (r_cS h wc_D_checkAssignment w_153 w_1 w_154 hd_D_checkAssignment ⟨(Nat.le_of_ble_eq_true rfl), (Nat.le_of_ble_eq_true rfl)⟩ rfl rfl) rfl rfl (Nat.le_of_ble_eq_true rfl) ⟨(Nat.le_of_ble_eq_true rfl), (Nat.le_of_ble_eq_true rfl)⟩ rfl ?_
  refine r_aload_n (pc := 8) h 0 d_D_is_8 rfl rfl ?_
  refine r_get (pc := 9) h 0 0 d_D_is_9 cw_0 rfl (by decide) in_D (List.mem_cons_of_mem _ w_42) rfl ?_
  refine r_iload_n (pc := 12) h 1 d_D_is_12 rfl rfl ?_
  refine r_aaload (pc := 13) h 1 3 r1 d_D_is_13 cw_1 rfl rfl rfl h1 (by decide) (cw_o h1) ?_
  refine r_iload_n (pc := 14) h 2 d_D_is_14 rfl rfl ?_
  refine r_invSa (pc := 15) h (st := []) d_D_is_15 (c_bitOf (7 + r1) (a (7 + r1)) x (hd r1) (cw_r h1) hx) (r_cS h wc_D_bitOf w_240 w_1 w_241 hd_D_bitOf ⟨(Nat.le_of_ble_eq_true rfl), (Nat.le_of_ble_eq_true rfl)⟩ rfl rfl) rfl rfl (Nat.le_of_ble_eq_true rfl) ⟨(Nat.le_of_ble_eq_true rfl), (Nat.le_of_ble_eq_true rfl)⟩ rfl ?_
  refine r_if_eq (pc := 18) h (tgt := 25) d_D_is_18 (by decide) (fun q18 => ?_) (fun q18 => ?_)
  · have hb := (bI_0 _).mp q18
    refine r_iconst (pc := 25) h (v := bI (sv (hd r1) x)) d_D_is_25 (by rw [hb]; decide) ?_
    exact r_zret (pc := 26) h hr (bI_nrw _) d_D_is_26
  · have hb : sv (hd r1) x = true := by cases h9 : sv (hd r1) x; exact absurd ((bI_0 _).mpr h9) q18; rfl
    refine r_iconst (pc := 21) h (v := bI (sv (hd r1) x)) d_D_is_21 (by rw [hb]; decide) ?_
    refine r_goto (pc := 22) h (tgt := 26) d_D_is_22 (by decide) ?_
    exact r_zret (pc := 26) h hr (bI_nrw _) d_D_is_26
theorem c_ways (r1 : Nat) (h1 : r1 < 16) : Ct l y_D_ways (.code y_D_ways b_D_ways 4 (some .int) :: TT) (rmF 1 21) G [.ref (a 0), .int (nI r1)] (cw G a hd wk sp ct ky nm) (some (.int (nI (wyN (hd r1) 16)))) (cw G a hd wk sp ct ky nm) := by
  refine ct_intro (cc := b_D_ways) (nL := 4) (by decide) [(0, .ref (a 0)), (1, .int (nI r1))] rfl (Nat.le_of_ble_eq_true rfl) ?_
  intro p e s m below meth c A h hr
  refine r_iload_n (pc := 0) h 1 d_D_ways_0 rfl rfl ?_
  refine r_invSv (pc := 1) h (st := []) d_D_ways_1 (c_checkRegister r1 h1) (r_cS h wc_D_checkRegister w_63 w_1 w_64 hd_D_checkRegister ⟨(Nat.le_of_ble_eq_true rfl), (Nat.le_of_ble_eq_true rfl)⟩ rfl rfl) rfl rfl (Nat.le_of_ble_eq_true rfl) ⟨(Nat.le_of_ble_eq_true rfl), (Nat.le_of_ble_eq_true rfl)⟩ rfl ?_
  refine r_iconst (pc := 4) h (v := nI (wyN (hd r1) 0)) d_D_ways_4 rfl ?_
  refine r_istore_n (pc := 5) h (lv' := [(2, .int (nI (wyN (hd r1) 0))), (0, .ref (a 0)), (1, .int (nI r1))]) d_D_ways_5 rfl (by decide) rfl ?_
  refine r_iconst (pc := 6) h (v := nI 0) d_D_ways_6 (by decide) ?_
  refine r_istore_n (pc := 7) h (lv' := [(3, .int (nI 0)), (2, .int (nI (wyN (hd r1) 0))), (0, .ref (a 0)), (1, .int (nI r1))]) d_D_ways_7 rfl (by decide) rfl ?_
  refine Wv.loop 16 (fun i => (cw G a hd wk sp ct ky nm)) (fun i => [(3, .int (nI i)), (2, .int (nI (wyN (hd r1) i))), (0, .ref (a 0)), (1, .int (nI r1))]) ?_ ?_
  · show Wv p l e _ s m _ below meth c G A _ _ _ _ (cw G a hd wk sp ct ky nm) 8 [(3, .int (nI 16)), (2, .int (nI (wyN (hd r1) 16))), (0, .ref (a 0)), (1, .int (nI r1))] []
    refine r_iload_n (pc := 8) h 0 d_D_ways_8 rfl rfl ?_
    refine r_bipush (pc := 9) h (v := nI 16) d_D_ways_9 (by decide) ?_
    refine r_icmp_ge_t (pc := 11) h (tgt := 34) d_D_ways_11 (by decide) (nI_le (Nat.le_refl _) (by decide)) ?_
    refine r_iload_n (pc := 34) h 1 d_D_ways_34 rfl rfl ?_
    exact r_iret (pc := 35) h hr d_D_ways_35
  · intro i hi ih
    have ih : Wv p l e _ s m _ below meth c G A _ _ _ _ (cw G a hd wk sp ct ky nm) 8 [(3, .int (nI (i + 1))), (2, .int (nI (wyN (hd r1) (i + 1)))), (0, .ref (a 0)), (1, .int (nI r1))] [] := ih
    show Wv p l e _ s m _ below meth c G A _ _ _ _ (cw G a hd wk sp ct ky nm) 8 [(3, .int (nI i)), (2, .int (nI (wyN (hd r1) i))), (0, .ref (a 0)), (1, .int (nI r1))] []
    refine r_iload_n (pc := 8) h 0 d_D_ways_8 rfl rfl ?_
    refine r_bipush (pc := 9) h (v := nI 16) d_D_ways_9 (by decide) ?_
    refine r_icmp_ge_f (pc := 11) h (tgt := 34) d_D_ways_11 (by decide) (nI_ge hi (by decide)) ?_
    refine r_iload_n (pc := 14) h 1 d_D_ways_14 rfl rfl ?_
    refine r_aload_n (pc := 15) h 2 d_D_ways_15 rfl rfl ?_
    refine r_get (pc := 16) h 0 0 d_D_ways_16 cw_0 rfl (by decide) in_D (List.mem_cons_of_mem _ w_42) rfl ?_
    refine r_iload_n (pc := 19) h 3 d_D_ways_19 rfl rfl ?_
    refine r_aaload (pc := 20) h 1 3 r1 d_D_ways_20 cw_1 rfl rfl rfl h1 (by decide) (cw_o h1) ?_
    refine r_iload_n (pc := 21) h 0 d_D_ways_21 rfl rfl ?_
    refine r_laload (pc := 22) h (7 + r1) (z := hd r1 i) i d_D_ways_22 (cw_r h1) rfl hi (by decide) rfl ?_
    refine r_invSa (pc := 23) h (st := [.int (nI (wyN (hd r1) i))]) d_D_ways_23 (c_bitCount (hd r1 i)) (r_cS h wc_J_bitCount w_250 w_10 w_251 hd_J_bitCount ⟨(Nat.le_of_ble_eq_true rfl), (Nat.le_of_ble_eq_true rfl)⟩ rfl rfl) rfl rfl (Nat.le_of_ble_eq_true rfl) ⟨(Nat.le_of_ble_eq_true rfl), (Nat.le_of_ble_eq_true rfl)⟩ rfl ?_
    refine r_iadd (pc := 26) h (z := nI (wyN (hd r1) (i + 1))) d_D_ways_26 (nI_add _ _) ?_
    refine r_istore_n (pc := 27) h (lv' := [(2, .int (nI (wyN (hd r1) (i + 1)))), (3, .int (nI i)), (0, .ref (a 0)), (1, .int (nI r1))]) d_D_ways_27 rfl (by decide) rfl ?_
    refine r_iinc (pc := 28) h (v := nI (i + 1)) (lv' := [(3, .int (nI (i + 1))), (2, .int (nI (wyN (hd r1) (i + 1)))), (0, .ref (a 0)), (1, .int (nI r1))]) 1 d_D_ways_28 rfl (nI_inc i) (by decide) rfl ?_
    refine r_goto (pc := 31) h (tgt := 8) d_D_ways_31 (by decide) ?_
    exact ih
theorem c_hangsOn {ws : va_W} (q0 b v : Nat) (f : Nat → Int64) (hq : ws[q0]? = some (b, rwL G f)) (hv : v < 10) : Ct l y_D_hangsOn (.code y_D_hangsOn b_D_hangsOn 3 (some .boolean) :: TT) (rmF 1 25) G [.ref b, .int (nI v)] ws (some (.int (bI (hgB f v)))) ws := by
  by_cases h : ∀ i, i < 16 → f i = tW f v i
  · rw [show hgB f v = false by unfold hgB; rw [bD_t h]; rfl]
    exact c_hangsOn_f q0 b v f hq hv h
  · rw [show hgB f v = true by unfold hgB; rw [bD_f h]; rfl]
    have hex : ∃ n, n < 16 ∧ f n ≠ tW f v n := Classical.byContradiction (fun q => h (fun i hi => Classical.byContradiction (fun z => q ⟨i, hi, z⟩)))
    obtain ⟨n, ⟨h1, h2⟩, h3⟩ := pk_least _ hex
    exact c_hangsOn_t q0 b v n f hq hv h1 (fun i hi => Classical.byContradiction (fun z => h3 i hi ⟨Nat.lt_trans hi h1, z⟩)) h2
theorem hgN_t {f : Nat → Int64} {v : Nat} (h : hgB f v = true) : hgN f (v + 1) = hgN f v ||| 2 ^ v := if_pos h
theorem hgN_f {f : Nat → Int64} {v : Nat} (h : hgB f v = false) : hgN f (v + 1) = hgN f v := if_neg (by rw [h]; decide)
theorem c_hangs (r1 : Nat) (h1 : r1 < 16) : Ct l y_D_hangs (.code y_D_hangs b_D_hangs 4 (some .int) :: TT) (rmF 2 47) G [.ref (a 0), .int (nI r1)] (cw G a hd wk sp ct ky nm) (some (.int (nI (hgN (hd r1) 10)))) (cw G a hd wk sp ct ky nm) := by
  refine ct_intro (cc := b_D_hangs) (nL := 4) (by decide) [(0, .ref (a 0)), (1, .int (nI r1))] rfl (Nat.le_of_ble_eq_true rfl) ?_
  intro p e s m below meth c A h hr
  refine r_iload_n (pc := 0) h 1 d_D_hangs_0 rfl rfl ?_
  refine r_invSv (pc := 1) h (st := []) d_D_hangs_1 (c_checkRegister r1 h1) (r_cS h wc_D_checkRegister w_63 w_1 w_64 hd_D_checkRegister ⟨(Nat.le_of_ble_eq_true rfl), (Nat.le_of_ble_eq_true rfl)⟩ rfl rfl) rfl rfl (Nat.le_of_ble_eq_true rfl) ⟨(Nat.le_of_ble_eq_true rfl), (Nat.le_of_ble_eq_true rfl)⟩ rfl ?_
  refine r_iconst (pc := 4) h (v := nI (hgN (hd r1) 0)) d_D_hangs_4 rfl ?_
  refine r_istore_n (pc := 5) h (lv' := [(2, .int (nI (hgN (hd r1) 0))), (0, .ref (a 0)), (1, .int (nI r1))]) d_D_hangs_5 rfl (by decide) rfl ?_
  refine r_iconst (pc := 6) h (v := nI 0) d_D_hangs_6 (by decide) ?_
  refine r_istore_n (pc := 7) h (lv' := [(3, .int (nI 0)), (2, .int (nI (hgN (hd r1) 0))), (0, .ref (a 0)), (1, .int (nI r1))]) d_D_hangs_7 rfl (by decide) rfl ?_
  refine Wv.loop 10 (fun i => (cw G a hd wk sp ct ky nm)) (fun i => [(3, .int (nI i)), (2, .int (nI (hgN (hd r1) i))), (0, .ref (a 0)), (1, .int (nI r1))]) ?_ ?_
  · show Wv p l e _ s m _ below meth c G A _ _ _ _ (cw G a hd wk sp ct ky nm) 8 [(3, .int (nI 10)), (2, .int (nI (hgN (hd r1) 10))), (0, .ref (a 0)), (1, .int (nI r1))] []
    refine r_iload_n (pc := 8) h 0 d_D_hangs_8 rfl rfl ?_
    refine r_bipush (pc := 9) h (v := nI 10) d_D_hangs_9 (by decide) ?_
    refine r_icmp_ge_t (pc := 11) h (tgt := 39) d_D_hangs_11 (by decide) (nI_le (Nat.le_refl _) (by decide)) ?_
    refine r_iload_n (pc := 39) h 1 d_D_hangs_39 rfl rfl ?_
    exact r_iret (pc := 40) h hr d_D_hangs_40
  · intro i hi ih
    have ih : Wv p l e _ s m _ below meth c G A _ _ _ _ (cw G a hd wk sp ct ky nm) 8 [(3, .int (nI (i + 1))), (2, .int (nI (hgN (hd r1) (i + 1)))), (0, .ref (a 0)), (1, .int (nI r1))] [] := ih
    show Wv p l e _ s m _ below meth c G A _ _ _ _ (cw G a hd wk sp ct ky nm) 8 [(3, .int (nI i)), (2, .int (nI (hgN (hd r1) i))), (0, .ref (a 0)), (1, .int (nI r1))] []
    refine r_iload_n (pc := 8) h 0 d_D_hangs_8 rfl rfl ?_
    refine r_bipush (pc := 9) h (v := nI 10) d_D_hangs_9 (by decide) ?_
    refine r_icmp_ge_f (pc := 11) h (tgt := 39) d_D_hangs_11 (by decide) (nI_ge hi (by decide)) ?_
    refine r_aload_n (pc := 14) h 2 d_D_hangs_14 rfl rfl ?_
    refine r_get (pc := 15) h 0 0 d_D_hangs_15 cw_0 rfl (by decide) in_D (List.mem_cons_of_mem _ w_42) rfl ?_
    refine r_iload_n (pc := 18) h 3 d_D_hangs_18 rfl rfl ?_
    refine r_aaload (pc := 19) h 1 3 r1 d_D_hangs_19 cw_1 rfl rfl rfl h1 (by decide) (cw_o h1) ?_
    refine r_iload_n (pc := 20) h 0 d_D_hangs_20 rfl rfl ?_
    refine r_invSa (pc := 21) h (st := []) d_D_hangs_21 (c_hangsOn (7 + r1) (a (7 + r1)) i (hd r1) (cw_r h1) hi) (r_cS h wc_D_hangsOn w_295 w_1 w_296 hd_D_hangsOn ⟨(Nat.le_of_ble_eq_true rfl), (Nat.le_of_ble_eq_true rfl)⟩ rfl rfl) rfl rfl (Nat.le_of_ble_eq_true rfl) ⟨(Nat.le_of_ble_eq_true rfl), (Nat.le_of_ble_eq_true rfl)⟩ rfl ?_
    refine r_if_eq (pc := 24) h (tgt := 33) d_D_hangs_24 (by decide) (fun q24 => ?_) (fun q24 => ?_)
    · have hb := (bI_0 _).mp q24
      refine Wv.lcl (lv' := [(3, .int (nI i)), (2, .int (nI (hgN (hd r1) (i + 1)))), (0, .ref (a 0)), (1, .int (nI r1))]) (by rw [hgN_f hb]) ?_
      refine r_iinc (pc := 33) h (v := nI (i + 1)) (lv' := [(3, .int (nI (i + 1))), (2, .int (nI (hgN (hd r1) (i + 1)))), (0, .ref (a 0)), (1, .int (nI r1))]) 0 d_D_hangs_33 rfl (nI_inc i) (by decide) rfl ?_
      refine r_goto (pc := 36) h (tgt := 8) d_D_hangs_36 (by decide) ?_
      exact ih
    · have hb : hgB (hd r1) i = true := by cases h9 : hgB (hd r1) i; exact absurd ((bI_0 _).mpr h9) q24; rfl
      refine r_iload_n (pc := 27) h 1 d_D_hangs_27 rfl rfl ?_
      refine r_iconst (pc := 28) h (v := nI 1) d_D_hangs_28 (by decide) ?_
      refine r_iload_n (pc := 29) h 0 d_D_hangs_29 rfl rfl ?_
      refine r_ishl (pc := 30) h (z := nI (2 ^ i)) d_D_hangs_30 (nx_pw (by omega)) ?_
      refine r_ior (pc := 31) h (z := nI (hgN (hd r1) i ||| 2 ^ i)) d_D_hangs_31 (nx_or _ _) ?_
      refine r_istore_n (pc := 32) h (lv' := [(2, .int (nI (hgN (hd r1) i ||| 2 ^ i))), (3, .int (nI i)), (0, .ref (a 0)), (1, .int (nI r1))]) d_D_hangs_32 rfl (by decide) rfl ?_
      refine Wv.lcl (lv' := [(2, .int (nI (hgN (hd r1) (i + 1)))), (3, .int (nI i)), (0, .ref (a 0)), (1, .int (nI r1))]) (by rw [hgN_t hb]) ?_
      refine r_iinc (pc := 33) h (v := nI (i + 1)) (lv' := [(3, .int (nI (i + 1))), (2, .int (nI (hgN (hd r1) (i + 1)))), (0, .ref (a 0)), (1, .int (nI r1))]) 1 d_D_hangs_33 rfl (nI_inc i) (by decide) rfl ?_
      refine r_goto (pc := 36) h (tgt := 8) d_D_hangs_36 (by decide) ?_
      exact ih
theorem c_same_t (r1 r2 : Nat) (h1 : r1 < 16) (h2 : r2 < 16) (he : ∀ i, i < 16 → hd r1 i = hd r2 i) : Ct l y_D_same (.code y_D_same b_D_same 4 (some .boolean) :: TT) (rmF 1 20) G [.ref (a 0), .int (nI r1), .int (nI r2)] (cw G a hd wk sp ct ky nm) (some (.int (bI true))) (cw G a hd wk sp ct ky nm) := by
  refine ct_intro (cc := b_D_same) (nL := 4) (by decide) [(0, .ref (a 0)), (1, .int (nI r1)), (2, .int (nI r2))] rfl (Nat.le_of_ble_eq_true rfl) ?_
  intro p e s m below meth c A h hr
  refine r_iload_n (pc := 0) h 1 d_D_same_0 rfl rfl ?_
  refine r_invSv (pc := 1) h (st := []) d_D_same_1 (c_checkRegister r1 h1) (r_cS h wc_D_checkRegister w_63 w_1 w_64 hd_D_checkRegister ⟨(Nat.le_of_ble_eq_true rfl), (Nat.le_of_ble_eq_true rfl)⟩ rfl rfl) rfl rfl (Nat.le_of_ble_eq_true rfl) ⟨(Nat.le_of_ble_eq_true rfl), (Nat.le_of_ble_eq_true rfl)⟩ rfl ?_
  refine r_iload_n (pc := 4) h 2 d_D_same_4 rfl rfl ?_
  refine r_invSv (pc := 5) h (st := []) d_D_same_5 (c_checkRegister r2 h2) (r_cS h wc_D_checkRegister w_63 w_1 w_64 hd_D_checkRegister ⟨(Nat.le_of_ble_eq_true rfl), (Nat.le_of_ble_eq_true rfl)⟩ rfl rfl) rfl rfl (Nat.le_of_ble_eq_true rfl) ⟨(Nat.le_of_ble_eq_true rfl), (Nat.le_of_ble_eq_true rfl)⟩ rfl ?_
  refine r_iconst (pc := 8) h (v := nI 0) d_D_same_8 (by decide) ?_
  refine r_istore_n (pc := 9) h (lv' := [(3, .int (nI 0)), (0, .ref (a 0)), (1, .int (nI r1)), (2, .int (nI r2))]) d_D_same_9 rfl (by decide) rfl ?_
  refine Wv.loop 16 (fun i => (cw G a hd wk sp ct ky nm)) (fun i => [(3, .int (nI i)), (0, .ref (a 0)), (1, .int (nI r1)), (2, .int (nI r2))]) ?_ ?_
  · show Wv p l e _ s m _ below meth c G A _ _ _ _ (cw G a hd wk sp ct ky nm) 10 [(3, .int (nI 16)), (0, .ref (a 0)), (1, .int (nI r1)), (2, .int (nI r2))] []
    refine r_iload_n (pc := 10) h 0 d_D_same_10 rfl rfl ?_
    refine r_bipush (pc := 11) h (v := nI 16) d_D_same_11 (by decide) ?_
    refine r_icmp_ge_t (pc := 13) h (tgt := 44) d_D_same_13 (by decide) (nI_le (Nat.le_refl _) (by decide)) ?_
    refine r_iconst (pc := 44) h (v := bI true) d_D_same_44 (by decide) ?_
    exact r_zret (pc := 45) h hr (bI_nrw _) d_D_same_45
  · intro i hi ih
    have ih : Wv p l e _ s m _ below meth c G A _ _ _ _ (cw G a hd wk sp ct ky nm) 10 [(3, .int (nI (i + 1))), (0, .ref (a 0)), (1, .int (nI r1)), (2, .int (nI r2))] [] := ih
    show Wv p l e _ s m _ below meth c G A _ _ _ _ (cw G a hd wk sp ct ky nm) 10 [(3, .int (nI i)), (0, .ref (a 0)), (1, .int (nI r1)), (2, .int (nI r2))] []
    refine r_iload_n (pc := 10) h 0 d_D_same_10 rfl rfl ?_
    refine r_bipush (pc := 11) h (v := nI 16) d_D_same_11 (by decide) ?_
    refine r_icmp_ge_f (pc := 13) h (tgt := 44) d_D_same_13 (by decide) (nI_ge hi (by decide)) ?_
    refine r_aload_n (pc := 16) h 1 d_D_same_16 rfl rfl ?_
    refine r_get (pc := 17) h 0 0 d_D_same_17 cw_0 rfl (by decide) in_D (List.mem_cons_of_mem _ w_42) rfl ?_
    refine r_iload_n (pc := 20) h 2 d_D_same_20 rfl rfl ?_
    refine r_aaload (pc := 21) h 1 3 r1 d_D_same_21 cw_1 rfl rfl rfl h1 (by decide) (cw_o h1) ?_
    refine r_iload_n (pc := 22) h 0 d_D_same_22 rfl rfl ?_
    refine r_laload (pc := 23) h (7 + r1) (z := hd r1 i) i d_D_same_23 (cw_r h1) rfl hi (by decide) rfl ?_
    refine r_aload_n (pc := 24) h 1 d_D_same_24 rfl rfl ?_
    refine r_get (pc := 25) h 0 0 d_D_same_25 cw_0 rfl (by decide) in_D (List.mem_cons_of_mem _ w_42) rfl ?_
    refine r_iload_n (pc := 28) h 3 d_D_same_28 rfl rfl ?_
    refine r_aaload (pc := 29) h 1 3 r2 d_D_same_29 cw_1 rfl rfl rfl h2 (by decide) (cw_o h2) ?_
    refine r_iload_n (pc := 30) h 0 d_D_same_30 rfl rfl ?_
    refine r_laload (pc := 31) h (7 + r2) (z := hd r2 i) i d_D_same_31 (cw_r h2) rfl hi (by decide) rfl ?_
    refine r_lcmp (pc := 32) h (z := 0) d_D_same_32 ((lg_0 _ _).mpr (he i hi)) ?_
    refine r_if_eq_t (pc := 33) h (tgt := 38) d_D_same_33 (by decide) rfl ?_
    refine r_iinc (pc := 38) h (v := nI (i + 1)) (lv' := [(3, .int (nI (i + 1))), (0, .ref (a 0)), (1, .int (nI r1)), (2, .int (nI r2))]) 0 d_D_same_38 rfl (nI_inc i) (by decide) rfl ?_
    refine r_goto (pc := 41) h (tgt := 10) d_D_same_41 (by decide) ?_
    exact ih
theorem c_same_f (r1 r2 n : Nat) (h1 : r1 < 16) (h2 : r2 < 16) (hn : n < 16) (he : ∀ i, i < n → hd r1 i = hd r2 i) (hne : hd r1 n ≠ hd r2 n) : Ct l y_D_same (.code y_D_same b_D_same 4 (some .boolean) :: TT) (rmF 1 20) G [.ref (a 0), .int (nI r1), .int (nI r2)] (cw G a hd wk sp ct ky nm) (some (.int (bI false))) (cw G a hd wk sp ct ky nm) := by
  refine ct_intro (cc := b_D_same) (nL := 4) (by decide) [(0, .ref (a 0)), (1, .int (nI r1)), (2, .int (nI r2))] rfl (Nat.le_of_ble_eq_true rfl) ?_
  intro p e s m below meth c A h hr
  refine r_iload_n (pc := 0) h 1 d_D_same_0 rfl rfl ?_
  refine r_invSv (pc := 1) h (st := []) d_D_same_1 (c_checkRegister r1 h1) (r_cS h wc_D_checkRegister w_63 w_1 w_64 hd_D_checkRegister ⟨(Nat.le_of_ble_eq_true rfl), (Nat.le_of_ble_eq_true rfl)⟩ rfl rfl) rfl rfl (Nat.le_of_ble_eq_true rfl) ⟨(Nat.le_of_ble_eq_true rfl), (Nat.le_of_ble_eq_true rfl)⟩ rfl ?_
  refine r_iload_n (pc := 4) h 2 d_D_same_4 rfl rfl ?_
  refine r_invSv (pc := 5) h (st := []) d_D_same_5 (c_checkRegister r2 h2) (r_cS h wc_D_checkRegister w_63 w_1 w_64 hd_D_checkRegister ⟨(Nat.le_of_ble_eq_true rfl), (Nat.le_of_ble_eq_true rfl)⟩ rfl rfl) rfl rfl (Nat.le_of_ble_eq_true rfl) ⟨(Nat.le_of_ble_eq_true rfl), (Nat.le_of_ble_eq_true rfl)⟩ rfl ?_
  refine r_iconst (pc := 8) h (v := nI 0) d_D_same_8 (by decide) ?_
  refine r_istore_n (pc := 9) h (lv' := [(3, .int (nI 0)), (0, .ref (a 0)), (1, .int (nI r1)), (2, .int (nI r2))]) d_D_same_9 rfl (by decide) rfl ?_
  refine Wv.loop n (fun i => (cw G a hd wk sp ct ky nm)) (fun i => [(3, .int (nI i)), (0, .ref (a 0)), (1, .int (nI r1)), (2, .int (nI r2))]) ?_ ?_
  · show Wv p l e _ s m _ below meth c G A _ _ _ _ (cw G a hd wk sp ct ky nm) 10 [(3, .int (nI n)), (0, .ref (a 0)), (1, .int (nI r1)), (2, .int (nI r2))] []
    refine r_iload_n (pc := 10) h 0 d_D_same_10 rfl rfl ?_
    refine r_bipush (pc := 11) h (v := nI 16) d_D_same_11 (by decide) ?_
    refine r_icmp_ge_f (pc := 13) h (tgt := 44) d_D_same_13 (by decide) (nI_ge hn (by decide)) ?_
    refine r_aload_n (pc := 16) h 1 d_D_same_16 rfl rfl ?_
    refine r_get (pc := 17) h 0 0 d_D_same_17 cw_0 rfl (by decide) in_D (List.mem_cons_of_mem _ w_42) rfl ?_
    refine r_iload_n (pc := 20) h 2 d_D_same_20 rfl rfl ?_
    refine r_aaload (pc := 21) h 1 3 r1 d_D_same_21 cw_1 rfl rfl rfl h1 (by decide) (cw_o h1) ?_
    refine r_iload_n (pc := 22) h 0 d_D_same_22 rfl rfl ?_
    refine r_laload (pc := 23) h (7 + r1) (z := hd r1 n) n d_D_same_23 (cw_r h1) rfl hn (by decide) rfl ?_
    refine r_aload_n (pc := 24) h 1 d_D_same_24 rfl rfl ?_
    refine r_get (pc := 25) h 0 0 d_D_same_25 cw_0 rfl (by decide) in_D (List.mem_cons_of_mem _ w_42) rfl ?_
    refine r_iload_n (pc := 28) h 3 d_D_same_28 rfl rfl ?_
    refine r_aaload (pc := 29) h 1 3 r2 d_D_same_29 cw_1 rfl rfl rfl h2 (by decide) (cw_o h2) ?_
    refine r_iload_n (pc := 30) h 0 d_D_same_30 rfl rfl ?_
    refine r_laload (pc := 31) h (7 + r2) (z := hd r2 n) n d_D_same_31 (cw_r h2) rfl hn (by decide) rfl ?_
    refine r_lcmp (pc := 32) h (z := lg_cmp (hd r1 n) (hd r2 n)) d_D_same_32 rfl ?_
    refine r_if_eq_f (pc := 33) h (tgt := 38) d_D_same_33 (by decide) (fun z => hne ((lg_0 _ _).mp z)) ?_
    refine r_iconst (pc := 36) h (v := bI false) d_D_same_36 (by decide) ?_
    exact r_zret (pc := 37) h hr (bI_nrw _) d_D_same_37
  · intro i hi ih
    have ih : Wv p l e _ s m _ below meth c G A _ _ _ _ (cw G a hd wk sp ct ky nm) 10 [(3, .int (nI (i + 1))), (0, .ref (a 0)), (1, .int (nI r1)), (2, .int (nI r2))] [] := ih
    show Wv p l e _ s m _ below meth c G A _ _ _ _ (cw G a hd wk sp ct ky nm) 10 [(3, .int (nI i)), (0, .ref (a 0)), (1, .int (nI r1)), (2, .int (nI r2))] []
    refine r_iload_n (pc := 10) h 0 d_D_same_10 rfl rfl ?_
    refine r_bipush (pc := 11) h (v := nI 16) d_D_same_11 (by decide) ?_
    refine r_icmp_ge_f (pc := 13) h (tgt := 44) d_D_same_13 (by decide) (nI_ge (Nat.lt_trans hi hn) (by decide)) ?_
    refine r_aload_n (pc := 16) h 1 d_D_same_16 rfl rfl ?_
    refine r_get (pc := 17) h 0 0 d_D_same_17 cw_0 rfl (by decide) in_D (List.mem_cons_of_mem _ w_42) rfl ?_
    refine r_iload_n (pc := 20) h 2 d_D_same_20 rfl rfl ?_
    refine r_aaload (pc := 21) h 1 3 r1 d_D_same_21 cw_1 rfl rfl rfl h1 (by decide) (cw_o h1) ?_
    refine r_iload_n (pc := 22) h 0 d_D_same_22 rfl rfl ?_
    refine r_laload (pc := 23) h (7 + r1) (z := hd r1 i) i d_D_same_23 (cw_r h1) rfl (Nat.lt_trans hi hn) (by decide) rfl ?_
    refine r_aload_n (pc := 24) h 1 d_D_same_24 rfl rfl ?_
    refine r_get (pc := 25) h 0 0 d_D_same_25 cw_0 rfl (by decide) in_D (List.mem_cons_of_mem _ w_42) rfl ?_
    refine r_iload_n (pc := 28) h 3 d_D_same_28 rfl rfl ?_
    refine r_aaload (pc := 29) h 1 3 r2 d_D_same_29 cw_1 rfl rfl rfl h2 (by decide) (cw_o h2) ?_
    refine r_iload_n (pc := 30) h 0 d_D_same_30 rfl rfl ?_
    refine r_laload (pc := 31) h (7 + r2) (z := hd r2 i) i d_D_same_31 (cw_r h2) rfl (Nat.lt_trans hi hn) (by decide) rfl ?_
    refine r_lcmp (pc := 32) h (z := 0) d_D_same_32 ((lg_0 _ _).mpr (he i hi)) ?_
    refine r_if_eq_t (pc := 33) h (tgt := 38) d_D_same_33 (by decide) rfl ?_
    refine r_iinc (pc := 38) h (v := nI (i + 1)) (lv' := [(3, .int (nI (i + 1))), (0, .ref (a 0)), (1, .int (nI r1)), (2, .int (nI r2))]) 0 d_D_same_38 rfl (nI_inc i) (by decide) rfl ?_
    refine r_goto (pc := 41) h (tgt := 10) d_D_same_41 (by decide) ?_
    exact ih
theorem c_same (r1 r2 : Nat) (h1 : r1 < 16) (h2 : r2 < 16) : Ct l y_D_same (.code y_D_same b_D_same 4 (some .boolean) :: TT) (rmF 1 20) G [.ref (a 0), .int (nI r1), .int (nI r2)] (cw G a hd wk sp ct ky nm) (some (.int (bI (bD (∀ i, i < 16 → hd r1 i = hd r2 i))))) (cw G a hd wk sp ct ky nm) := by
  by_cases h : ∀ i, i < 16 → hd r1 i = hd r2 i
  · rw [bD_t h]
    exact c_same_t r1 r2 h1 h2 h
  · rw [bD_f h]
    have hex : ∃ n, n < 16 ∧ hd r1 n ≠ hd r2 n := Classical.byContradiction (fun q => h (fun i hi => Classical.byContradiction (fun z => q ⟨i, hi, z⟩)))
    obtain ⟨n, ⟨g1, g2⟩, g3⟩ := pk_least _ hex
    exact c_same_f r1 r2 n h1 h2 g1 (fun i hi => Classical.byContradiction (fun z => g3 i hi ⟨Nat.lt_trans hi g1, z⟩)) g2
end CV
