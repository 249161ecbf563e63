-- the class's public methods, arguments out of range
section TX
variable {l : Launch} {G : gG} {ws : va_W}
theorem t_variable (hl : l.stackTraces = false) (o : Nat) (t v : Int32) (hB : ¬ (okR 16 t ∧ okR 10 v)) : Tt l y_D_variable (.code y_D_variable b_D_variable 4 none :: TT) (rmX 7 102) G [.ref o, .int t, .int v] ws IAE := by
  refine tt_intro (cc := b_D_variable) (nL := 4) (by decide) [(0, .ref o), (1, .int t), (2, .int v)] rfl (Nat.le_of_ble_eq_true rfl) ?_
  intro p e s m below meth c A h hr hex
  refine r_iload_n (pc := 0) h 1 d_D_variable_0 rfl rfl ?_
  rcases pk_ix t (n := 16) (by decide) with hN | hN | ⟨j1, hj1, hN1⟩
  · exact r_outS (pc := 1) h (st := []) hex d_D_variable_1 (t_checkRegister hl t (Or.inl hN)) (r_cS h wc_D_checkRegister w_63 w_1 w_64 hd_D_checkRegister ⟨(Nat.le_of_ble_eq_true rfl), (Nat.le_of_ble_eq_true rfl)⟩ rfl rfl) rfl rfl (Nat.le_of_ble_eq_true rfl) ⟨(Nat.le_of_ble_eq_true rfl), (Nat.le_of_ble_eq_true rfl)⟩
  · exact r_outS (pc := 1) h (st := []) hex d_D_variable_1 (t_checkRegister hl t (Or.inr hN)) (r_cS h wc_D_checkRegister w_63 w_1 w_64 hd_D_checkRegister ⟨(Nat.le_of_ble_eq_true rfl), (Nat.le_of_ble_eq_true rfl)⟩ rfl rfl) rfl rfl (Nat.le_of_ble_eq_true rfl) ⟨(Nat.le_of_ble_eq_true rfl), (Nat.le_of_ble_eq_true rfl)⟩
  · subst hN1
    refine r_invSv (pc := 1) h (st := []) d_D_variable_1 (c_checkRegister j1 hj1) (r_cS h wc_D_checkRegister w_63 w_1 w_64 hd_D_checkRegister ⟨(Nat.le_of_ble_eq_true rfl), (Nat.le_of_ble_eq_true rfl)⟩ rfl rfl) rfl rfl (Nat.le_of_ble_eq_true rfl) ⟨(Nat.le_of_ble_eq_true rfl), (Nat.le_of_ble_eq_true rfl)⟩ rfl ?_
    refine r_iload_n (pc := 4) h 2 d_D_variable_4 rfl rfl ?_
    rcases pk_ix v (n := 10) (by decide) with hN | hN | ⟨j5, hj5, hN5⟩
    · exact r_outS (pc := 5) h (st := []) hex d_D_variable_5 (t_checkVariable hl v (Or.inl hN)) (r_cS h wc_D_checkVariable w_133 w_1 w_134 hd_D_checkVariable ⟨(Nat.le_of_ble_eq_true rfl), (Nat.le_of_ble_eq_true rfl)⟩ rfl rfl) rfl rfl (Nat.le_of_ble_eq_true rfl) ⟨(Nat.le_of_ble_eq_true rfl), (Nat.le_of_ble_eq_true rfl)⟩
    · exact r_outS (pc := 5) h (st := []) hex d_D_variable_5 (t_checkVariable hl v (Or.inr hN)) (r_cS h wc_D_checkVariable w_133 w_1 w_134 hd_D_checkVariable ⟨(Nat.le_of_ble_eq_true rfl), (Nat.le_of_ble_eq_true rfl)⟩ rfl rfl) rfl rfl (Nat.le_of_ble_eq_true rfl) ⟨(Nat.le_of_ble_eq_true rfl), (Nat.le_of_ble_eq_true rfl)⟩
    · exfalso
      exact hB ⟨⟨j1, hj1, rfl⟩, ⟨j5, hj5, hN5⟩⟩
theorem t_only (hl : l.stackTraces = false) (o : Nat) (t x : Int32) (hB : ¬ (okR 16 t ∧ okR 1024 x)) : Tt l y_D_only (.code y_D_only b_D_only 3 none :: TT) (rmX 7 102) G [.ref o, .int t, .int x] ws IAE := by
  refine tt_intro (cc := b_D_only) (nL := 3) (by decide) [(0, .ref o), (1, .int t), (2, .int x)] rfl (Nat.le_of_ble_eq_true rfl) ?_
  intro p e s m below meth c A h hr hex
  refine r_iload_n (pc := 0) h 1 d_D_only_0 rfl rfl ?_
  rcases pk_ix t (n := 16) (by decide) with hN | hN | ⟨j1, hj1, hN1⟩
  · exact r_outS (pc := 1) h (st := []) hex d_D_only_1 (t_checkRegister hl t (Or.inl hN)) (r_cS h wc_D_checkRegister w_63 w_1 w_64 hd_D_checkRegister ⟨(Nat.le_of_ble_eq_true rfl), (Nat.le_of_ble_eq_true rfl)⟩ rfl rfl) rfl rfl (Nat.le_of_ble_eq_true rfl) ⟨(Nat.le_of_ble_eq_true rfl), (Nat.le_of_ble_eq_true rfl)⟩
  · exact r_outS (pc := 1) h (st := []) hex d_D_only_1 (t_checkRegister hl t (Or.inr hN)) (r_cS h wc_D_checkRegister w_63 w_1 w_64 hd_D_checkRegister ⟨(Nat.le_of_ble_eq_true rfl), (Nat.le_of_ble_eq_true rfl)⟩ rfl rfl) rfl rfl (Nat.le_of_ble_eq_true rfl) ⟨(Nat.le_of_ble_eq_true rfl), (Nat.le_of_ble_eq_true rfl)⟩
  · subst hN1
    refine r_invSv (pc := 1) h (st := []) d_D_only_1 (c_checkRegister j1 hj1) (r_cS h wc_D_checkRegister w_63 w_1 w_64 hd_D_checkRegister ⟨(Nat.le_of_ble_eq_true rfl), (Nat.le_of_ble_eq_true rfl)⟩ rfl rfl) rfl rfl (Nat.le_of_ble_eq_true rfl) ⟨(Nat.le_of_ble_eq_true rfl), (Nat.le_of_ble_eq_true rfl)⟩ rfl ?_
    refine r_iload_n (pc := 4) h 2 d_D_only_4 rfl rfl ?_
    rcases pk_ix x (n := 1024) (by decide) with hN | hN | ⟨j5, hj5, hN5⟩
    · exact r_outS (pc := 5) h (st := []) hex d_D_only_5 (t_checkAssignment hl x (Or.inl hN)) (r_cS h wc_D_checkAssignment w_153 w_1 w_154 hd_D_checkAssignment ⟨(Nat.le_of_ble_eq_true rfl), (Nat.le_of_ble_eq_true rfl)⟩ rfl rfl) rfl rfl (Nat.le_of_ble_eq_true rfl) ⟨(Nat.le_of_ble_eq_true rfl), (Nat.le_of_ble_eq_true rfl)⟩
    · exact r_outS (pc := 5) h (st := []) hex d_D_only_5 (t_checkAssignment hl x (Or.inr hN)) (r_cS h wc_D_checkAssignment w_153 w_1 w_154 hd_D_checkAssignment ⟨(Nat.le_of_ble_eq_true rfl), (Nat.le_of_ble_eq_true rfl)⟩ rfl rfl) rfl rfl (Nat.le_of_ble_eq_true rfl) ⟨(Nat.le_of_ble_eq_true rfl), (Nat.le_of_ble_eq_true rfl)⟩
    · exfalso
      exact hB ⟨⟨j1, hj1, rfl⟩, ⟨j5, hj5, hN5⟩⟩
theorem t_join (hl : l.stackTraces = false) (o : Nat) (t k r1 r2 : Int32) (hB : ¬ (okR 16 t ∧ okR 5 k ∧ okR 16 r1 ∧ okR 16 r2)) : Tt l y_D_join (.code y_D_join b_D_join 6 none :: TT) (rmX 7 102) G [.ref o, .int t, .int k, .int r1, .int r2] ws IAE := by
  refine tt_intro (cc := b_D_join) (nL := 6) (by decide) [(0, .ref o), (1, .int t), (2, .int k), (3, .int r1), (4, .int r2)] rfl (Nat.le_of_ble_eq_true rfl) ?_
  intro p e s m below meth c A h hr hex
  refine r_iload_n (pc := 0) h 1 d_D_join_0 rfl rfl ?_
  rcases pk_ix t (n := 16) (by decide) with hN | hN | ⟨j1, hj1, hN1⟩
  · exact r_outS (pc := 1) h (st := []) hex d_D_join_1 (t_checkRegister hl t (Or.inl hN)) (r_cS h wc_D_checkRegister w_63 w_1 w_64 hd_D_checkRegister ⟨(Nat.le_of_ble_eq_true rfl), (Nat.le_of_ble_eq_true rfl)⟩ rfl rfl) rfl rfl (Nat.le_of_ble_eq_true rfl) ⟨(Nat.le_of_ble_eq_true rfl), (Nat.le_of_ble_eq_true rfl)⟩
  · exact r_outS (pc := 1) h (st := []) hex d_D_join_1 (t_checkRegister hl t (Or.inr hN)) (r_cS h wc_D_checkRegister w_63 w_1 w_64 hd_D_checkRegister ⟨(Nat.le_of_ble_eq_true rfl), (Nat.le_of_ble_eq_true rfl)⟩ rfl rfl) rfl rfl (Nat.le_of_ble_eq_true rfl) ⟨(Nat.le_of_ble_eq_true rfl), (Nat.le_of_ble_eq_true rfl)⟩
  · subst hN1
    refine r_invSv (pc := 1) h (st := []) d_D_join_1 (c_checkRegister j1 hj1) (r_cS h wc_D_checkRegister w_63 w_1 w_64 hd_D_checkRegister ⟨(Nat.le_of_ble_eq_true rfl), (Nat.le_of_ble_eq_true rfl)⟩ rfl rfl) rfl rfl (Nat.le_of_ble_eq_true rfl) ⟨(Nat.le_of_ble_eq_true rfl), (Nat.le_of_ble_eq_true rfl)⟩ rfl ?_
    refine r_iload_n (pc := 4) h 2 d_D_join_4 rfl rfl ?_
    rcases pk_ix k (n := 5) (by decide) with hN | hN | ⟨j5, hj5, hN5⟩
    · exact r_outS (pc := 5) h (st := []) hex d_D_join_5 (t_checkKind hl k (Or.inl hN)) (r_cS h wc_D_checkKind w_167 w_1 w_168 hd_D_checkKind ⟨(Nat.le_of_ble_eq_true rfl), (Nat.le_of_ble_eq_true rfl)⟩ rfl rfl) rfl rfl (Nat.le_of_ble_eq_true rfl) ⟨(Nat.le_of_ble_eq_true rfl), (Nat.le_of_ble_eq_true rfl)⟩
    · exact r_outS (pc := 5) h (st := []) hex d_D_join_5 (t_checkKind hl k (Or.inr hN)) (r_cS h wc_D_checkKind w_167 w_1 w_168 hd_D_checkKind ⟨(Nat.le_of_ble_eq_true rfl), (Nat.le_of_ble_eq_true rfl)⟩ rfl rfl) rfl rfl (Nat.le_of_ble_eq_true rfl) ⟨(Nat.le_of_ble_eq_true rfl), (Nat.le_of_ble_eq_true rfl)⟩
    · subst hN5
      refine r_invSv (pc := 5) h (st := []) d_D_join_5 (c_checkKind j5 hj5) (r_cS h wc_D_checkKind w_167 w_1 w_168 hd_D_checkKind ⟨(Nat.le_of_ble_eq_true rfl), (Nat.le_of_ble_eq_true rfl)⟩ rfl rfl) rfl rfl (Nat.le_of_ble_eq_true rfl) ⟨(Nat.le_of_ble_eq_true rfl), (Nat.le_of_ble_eq_true rfl)⟩ rfl ?_
      refine r_iload_n (pc := 8) h 3 d_D_join_8 rfl rfl ?_
      rcases pk_ix r1 (n := 16) (by decide) with hN | hN | ⟨j9, hj9, hN9⟩
      · exact r_outS (pc := 9) h (st := []) hex d_D_join_9 (t_checkRegister hl r1 (Or.inl hN)) (r_cS h wc_D_checkRegister w_63 w_1 w_64 hd_D_checkRegister ⟨(Nat.le_of_ble_eq_true rfl), (Nat.le_of_ble_eq_true rfl)⟩ rfl rfl) rfl rfl (Nat.le_of_ble_eq_true rfl) ⟨(Nat.le_of_ble_eq_true rfl), (Nat.le_of_ble_eq_true rfl)⟩
      · exact r_outS (pc := 9) h (st := []) hex d_D_join_9 (t_checkRegister hl r1 (Or.inr hN)) (r_cS h wc_D_checkRegister w_63 w_1 w_64 hd_D_checkRegister ⟨(Nat.le_of_ble_eq_true rfl), (Nat.le_of_ble_eq_true rfl)⟩ rfl rfl) rfl rfl (Nat.le_of_ble_eq_true rfl) ⟨(Nat.le_of_ble_eq_true rfl), (Nat.le_of_ble_eq_true rfl)⟩
      · subst hN9
        refine r_invSv (pc := 9) h (st := []) d_D_join_9 (c_checkRegister j9 hj9) (r_cS h wc_D_checkRegister w_63 w_1 w_64 hd_D_checkRegister ⟨(Nat.le_of_ble_eq_true rfl), (Nat.le_of_ble_eq_true rfl)⟩ rfl rfl) rfl rfl (Nat.le_of_ble_eq_true rfl) ⟨(Nat.le_of_ble_eq_true rfl), (Nat.le_of_ble_eq_true rfl)⟩ rfl ?_
        refine r_iload (pc := 12) h 4 d_D_join_12 rfl ?_
        rcases pk_ix r2 (n := 16) (by decide) with hN | hN | ⟨j14, hj14, hN14⟩
        · exact r_outS (pc := 14) h (st := []) hex d_D_join_14 (t_checkRegister hl r2 (Or.inl hN)) (r_cS h wc_D_checkRegister w_63 w_1 w_64 hd_D_checkRegister ⟨(Nat.le_of_ble_eq_true rfl), (Nat.le_of_ble_eq_true rfl)⟩ rfl rfl) rfl rfl (Nat.le_of_ble_eq_true rfl) ⟨(Nat.le_of_ble_eq_true rfl), (Nat.le_of_ble_eq_true rfl)⟩
        · exact r_outS (pc := 14) h (st := []) hex d_D_join_14 (t_checkRegister hl r2 (Or.inr hN)) (r_cS h wc_D_checkRegister w_63 w_1 w_64 hd_D_checkRegister ⟨(Nat.le_of_ble_eq_true rfl), (Nat.le_of_ble_eq_true rfl)⟩ rfl rfl) rfl rfl (Nat.le_of_ble_eq_true rfl) ⟨(Nat.le_of_ble_eq_true rfl), (Nat.le_of_ble_eq_true rfl)⟩
        · exfalso
          exact hB ⟨⟨j1, hj1, rfl⟩, ⟨j5, hj5, rfl⟩, ⟨j9, hj9, rfl⟩, ⟨j14, hj14, hN14⟩⟩
theorem t_choose (hl : l.stackTraces = false) (o : Nat) (t r1 r2 r3 : Int32) (hB : ¬ (okR 16 t ∧ okR 16 r1 ∧ okR 16 r2 ∧ okR 16 r3)) : Tt l y_D_choose (.code y_D_choose b_D_choose 6 none :: TT) (rmX 7 102) G [.ref o, .int t, .int r1, .int r2, .int r3] ws IAE := by
  refine tt_intro (cc := b_D_choose) (nL := 6) (by decide) [(0, .ref o), (1, .int t), (2, .int r1), (3, .int r2), (4, .int r3)] rfl (Nat.le_of_ble_eq_true rfl) ?_
  intro p e s m below meth c A h hr hex
  refine r_iload_n (pc := 0) h 1 d_D_choose_0 rfl rfl ?_
  rcases pk_ix t (n := 16) (by decide) with hN | hN | ⟨j1, hj1, hN1⟩
  · exact r_outS (pc := 1) h (st := []) hex d_D_choose_1 (t_checkRegister hl t (Or.inl hN)) (r_cS h wc_D_checkRegister w_63 w_1 w_64 hd_D_checkRegister ⟨(Nat.le_of_ble_eq_true rfl), (Nat.le_of_ble_eq_true rfl)⟩ rfl rfl) rfl rfl (Nat.le_of_ble_eq_true rfl) ⟨(Nat.le_of_ble_eq_true rfl), (Nat.le_of_ble_eq_true rfl)⟩
  · exact r_outS (pc := 1) h (st := []) hex d_D_choose_1 (t_checkRegister hl t (Or.inr hN)) (r_cS h wc_D_checkRegister w_63 w_1 w_64 hd_D_checkRegister ⟨(Nat.le_of_ble_eq_true rfl), (Nat.le_of_ble_eq_true rfl)⟩ rfl rfl) rfl rfl (Nat.le_of_ble_eq_true rfl) ⟨(Nat.le_of_ble_eq_true rfl), (Nat.le_of_ble_eq_true rfl)⟩
  · subst hN1
    refine r_invSv (pc := 1) h (st := []) d_D_choose_1 (c_checkRegister j1 hj1) (r_cS h wc_D_checkRegister w_63 w_1 w_64 hd_D_checkRegister ⟨(Nat.le_of_ble_eq_true rfl), (Nat.le_of_ble_eq_true rfl)⟩ rfl rfl) rfl rfl (Nat.le_of_ble_eq_true rfl) ⟨(Nat.le_of_ble_eq_true rfl), (Nat.le_of_ble_eq_true rfl)⟩ rfl ?_
    refine r_iload_n (pc := 4) h 2 d_D_choose_4 rfl rfl ?_
    rcases pk_ix r1 (n := 16) (by decide) with hN | hN | ⟨j5, hj5, hN5⟩
    · exact r_outS (pc := 5) h (st := []) hex d_D_choose_5 (t_checkRegister hl r1 (Or.inl hN)) (r_cS h wc_D_checkRegister w_63 w_1 w_64 hd_D_checkRegister ⟨(Nat.le_of_ble_eq_true rfl), (Nat.le_of_ble_eq_true rfl)⟩ rfl rfl) rfl rfl (Nat.le_of_ble_eq_true rfl) ⟨(Nat.le_of_ble_eq_true rfl), (Nat.le_of_ble_eq_true rfl)⟩
    · exact r_outS (pc := 5) h (st := []) hex d_D_choose_5 (t_checkRegister hl r1 (Or.inr hN)) (r_cS h wc_D_checkRegister w_63 w_1 w_64 hd_D_checkRegister ⟨(Nat.le_of_ble_eq_true rfl), (Nat.le_of_ble_eq_true rfl)⟩ rfl rfl) rfl rfl (Nat.le_of_ble_eq_true rfl) ⟨(Nat.le_of_ble_eq_true rfl), (Nat.le_of_ble_eq_true rfl)⟩
    · subst hN5
      refine r_invSv (pc := 5) h (st := []) d_D_choose_5 (c_checkRegister j5 hj5) (r_cS h wc_D_checkRegister w_63 w_1 w_64 hd_D_checkRegister ⟨(Nat.le_of_ble_eq_true rfl), (Nat.le_of_ble_eq_true rfl)⟩ rfl rfl) rfl rfl (Nat.le_of_ble_eq_true rfl) ⟨(Nat.le_of_ble_eq_true rfl), (Nat.le_of_ble_eq_true rfl)⟩ rfl ?_
      refine r_iload_n (pc := 8) h 3 d_D_choose_8 rfl rfl ?_
      rcases pk_ix r2 (n := 16) (by decide) with hN | hN | ⟨j9, hj9, hN9⟩
      · exact r_outS (pc := 9) h (st := []) hex d_D_choose_9 (t_checkRegister hl r2 (Or.inl hN)) (r_cS h wc_D_checkRegister w_63 w_1 w_64 hd_D_checkRegister ⟨(Nat.le_of_ble_eq_true rfl), (Nat.le_of_ble_eq_true rfl)⟩ rfl rfl) rfl rfl (Nat.le_of_ble_eq_true rfl) ⟨(Nat.le_of_ble_eq_true rfl), (Nat.le_of_ble_eq_true rfl)⟩
      · exact r_outS (pc := 9) h (st := []) hex d_D_choose_9 (t_checkRegister hl r2 (Or.inr hN)) (r_cS h wc_D_checkRegister w_63 w_1 w_64 hd_D_checkRegister ⟨(Nat.le_of_ble_eq_true rfl), (Nat.le_of_ble_eq_true rfl)⟩ rfl rfl) rfl rfl (Nat.le_of_ble_eq_true rfl) ⟨(Nat.le_of_ble_eq_true rfl), (Nat.le_of_ble_eq_true rfl)⟩
      · subst hN9
        refine r_invSv (pc := 9) h (st := []) d_D_choose_9 (c_checkRegister j9 hj9) (r_cS h wc_D_checkRegister w_63 w_1 w_64 hd_D_checkRegister ⟨(Nat.le_of_ble_eq_true rfl), (Nat.le_of_ble_eq_true rfl)⟩ rfl rfl) rfl rfl (Nat.le_of_ble_eq_true rfl) ⟨(Nat.le_of_ble_eq_true rfl), (Nat.le_of_ble_eq_true rfl)⟩ rfl ?_
        refine r_iload (pc := 12) h 4 d_D_choose_12 rfl ?_
        rcases pk_ix r3 (n := 16) (by decide) with hN | hN | ⟨j14, hj14, hN14⟩
        · exact r_outS (pc := 14) h (st := []) hex d_D_choose_14 (t_checkRegister hl r3 (Or.inl hN)) (r_cS h wc_D_checkRegister w_63 w_1 w_64 hd_D_checkRegister ⟨(Nat.le_of_ble_eq_true rfl), (Nat.le_of_ble_eq_true rfl)⟩ rfl rfl) rfl rfl (Nat.le_of_ble_eq_true rfl) ⟨(Nat.le_of_ble_eq_true rfl), (Nat.le_of_ble_eq_true rfl)⟩
        · exact r_outS (pc := 14) h (st := []) hex d_D_choose_14 (t_checkRegister hl r3 (Or.inr hN)) (r_cS h wc_D_checkRegister w_63 w_1 w_64 hd_D_checkRegister ⟨(Nat.le_of_ble_eq_true rfl), (Nat.le_of_ble_eq_true rfl)⟩ rfl rfl) rfl rfl (Nat.le_of_ble_eq_true rfl) ⟨(Nat.le_of_ble_eq_true rfl), (Nat.le_of_ble_eq_true rfl)⟩
        · exfalso
          exact hB ⟨⟨j1, hj1, rfl⟩, ⟨j5, hj5, rfl⟩, ⟨j9, hj9, rfl⟩, ⟨j14, hj14, hN14⟩⟩
theorem t_cut (hl : l.stackTraces = false) (o : Nat) (t r1 v z : Int32) (hB : ¬ (okR 16 t ∧ okR 16 r1 ∧ okR 10 v)) : Tt l y_D_cut (.code y_D_cut b_D_cut 6 none :: TT) (rmX 7 102) G [.ref o, .int t, .int r1, .int v, .int z] ws IAE := by
  refine tt_intro (cc := b_D_cut) (nL := 6) (by decide) [(0, .ref o), (1, .int t), (2, .int r1), (3, .int v), (4, .int z)] rfl (Nat.le_of_ble_eq_true rfl) ?_
  intro p e s m below meth c A h hr hex
  refine r_iload_n (pc := 0) h 1 d_D_cut_0 rfl rfl ?_
  rcases pk_ix t (n := 16) (by decide) with hN | hN | ⟨j1, hj1, hN1⟩
  · exact r_outS (pc := 1) h (st := []) hex d_D_cut_1 (t_checkRegister hl t (Or.inl hN)) (r_cS h wc_D_checkRegister w_63 w_1 w_64 hd_D_checkRegister ⟨(Nat.le_of_ble_eq_true rfl), (Nat.le_of_ble_eq_true rfl)⟩ rfl rfl) rfl rfl (Nat.le_of_ble_eq_true rfl) ⟨(Nat.le_of_ble_eq_true rfl), (Nat.le_of_ble_eq_true rfl)⟩
  · exact r_outS (pc := 1) h (st := []) hex d_D_cut_1 (t_checkRegister hl t (Or.inr hN)) (r_cS h wc_D_checkRegister w_63 w_1 w_64 hd_D_checkRegister ⟨(Nat.le_of_ble_eq_true rfl), (Nat.le_of_ble_eq_true rfl)⟩ rfl rfl) rfl rfl (Nat.le_of_ble_eq_true rfl) ⟨(Nat.le_of_ble_eq_true rfl), (Nat.le_of_ble_eq_true rfl)⟩
  · subst hN1
    refine r_invSv (pc := 1) h (st := []) d_D_cut_1 (c_checkRegister j1 hj1) (r_cS h wc_D_checkRegister w_63 w_1 w_64 hd_D_checkRegister ⟨(Nat.le_of_ble_eq_true rfl), (Nat.le_of_ble_eq_true rfl)⟩ rfl rfl) rfl rfl (Nat.le_of_ble_eq_true rfl) ⟨(Nat.le_of_ble_eq_true rfl), (Nat.le_of_ble_eq_true rfl)⟩ rfl ?_
    refine r_iload_n (pc := 4) h 2 d_D_cut_4 rfl rfl ?_
    rcases pk_ix r1 (n := 16) (by decide) with hN | hN | ⟨j5, hj5, hN5⟩
    · exact r_outS (pc := 5) h (st := []) hex d_D_cut_5 (t_checkRegister hl r1 (Or.inl hN)) (r_cS h wc_D_checkRegister w_63 w_1 w_64 hd_D_checkRegister ⟨(Nat.le_of_ble_eq_true rfl), (Nat.le_of_ble_eq_true rfl)⟩ rfl rfl) rfl rfl (Nat.le_of_ble_eq_true rfl) ⟨(Nat.le_of_ble_eq_true rfl), (Nat.le_of_ble_eq_true rfl)⟩
    · exact r_outS (pc := 5) h (st := []) hex d_D_cut_5 (t_checkRegister hl r1 (Or.inr hN)) (r_cS h wc_D_checkRegister w_63 w_1 w_64 hd_D_checkRegister ⟨(Nat.le_of_ble_eq_true rfl), (Nat.le_of_ble_eq_true rfl)⟩ rfl rfl) rfl rfl (Nat.le_of_ble_eq_true rfl) ⟨(Nat.le_of_ble_eq_true rfl), (Nat.le_of_ble_eq_true rfl)⟩
    · subst hN5
      refine r_invSv (pc := 5) h (st := []) d_D_cut_5 (c_checkRegister j5 hj5) (r_cS h wc_D_checkRegister w_63 w_1 w_64 hd_D_checkRegister ⟨(Nat.le_of_ble_eq_true rfl), (Nat.le_of_ble_eq_true rfl)⟩ rfl rfl) rfl rfl (Nat.le_of_ble_eq_true rfl) ⟨(Nat.le_of_ble_eq_true rfl), (Nat.le_of_ble_eq_true rfl)⟩ rfl ?_
      refine r_iload_n (pc := 8) h 3 d_D_cut_8 rfl rfl ?_
      rcases pk_ix v (n := 10) (by decide) with hN | hN | ⟨j9, hj9, hN9⟩
      · exact r_outS (pc := 9) h (st := []) hex d_D_cut_9 (t_checkVariable hl v (Or.inl hN)) (r_cS h wc_D_checkVariable w_133 w_1 w_134 hd_D_checkVariable ⟨(Nat.le_of_ble_eq_true rfl), (Nat.le_of_ble_eq_true rfl)⟩ rfl rfl) rfl rfl (Nat.le_of_ble_eq_true rfl) ⟨(Nat.le_of_ble_eq_true rfl), (Nat.le_of_ble_eq_true rfl)⟩
      · exact r_outS (pc := 9) h (st := []) hex d_D_cut_9 (t_checkVariable hl v (Or.inr hN)) (r_cS h wc_D_checkVariable w_133 w_1 w_134 hd_D_checkVariable ⟨(Nat.le_of_ble_eq_true rfl), (Nat.le_of_ble_eq_true rfl)⟩ rfl rfl) rfl rfl (Nat.le_of_ble_eq_true rfl) ⟨(Nat.le_of_ble_eq_true rfl), (Nat.le_of_ble_eq_true rfl)⟩
      · exfalso
        exact hB ⟨⟨j1, hj1, rfl⟩, ⟨j5, hj5, rfl⟩, ⟨j9, hj9, hN9⟩⟩
theorem t_put (hl : l.stackTraces = false) (o : Nat) (t r1 v r2 : Int32) (hB : ¬ (okR 16 t ∧ okR 16 r1 ∧ okR 10 v ∧ okR 16 r2)) : Tt l y_D_put (.code y_D_put b_D_put 10 none :: TT) (rmX 7 102) G [.ref o, .int t, .int r1, .int v, .int r2] ws IAE := by
  refine tt_intro (cc := b_D_put) (nL := 10) (by decide) [(0, .ref o), (1, .int t), (2, .int r1), (3, .int v), (4, .int r2)] rfl (Nat.le_of_ble_eq_true rfl) ?_
  intro p e s m below meth c A h hr hex
  refine r_iload_n (pc := 0) h 1 d_D_put_0 rfl rfl ?_
  rcases pk_ix t (n := 16) (by decide) with hN | hN | ⟨j1, hj1, hN1⟩
  · exact r_outS (pc := 1) h (st := []) hex d_D_put_1 (t_checkRegister hl t (Or.inl hN)) (r_cS h wc_D_checkRegister w_63 w_1 w_64 hd_D_checkRegister ⟨(Nat.le_of_ble_eq_true rfl), (Nat.le_of_ble_eq_true rfl)⟩ rfl rfl) rfl rfl (Nat.le_of_ble_eq_true rfl) ⟨(Nat.le_of_ble_eq_true rfl), (Nat.le_of_ble_eq_true rfl)⟩
  · exact r_outS (pc := 1) h (st := []) hex d_D_put_1 (t_checkRegister hl t (Or.inr hN)) (r_cS h wc_D_checkRegister w_63 w_1 w_64 hd_D_checkRegister ⟨(Nat.le_of_ble_eq_true rfl), (Nat.le_of_ble_eq_true rfl)⟩ rfl rfl) rfl rfl (Nat.le_of_ble_eq_true rfl) ⟨(Nat.le_of_ble_eq_true rfl), (Nat.le_of_ble_eq_true rfl)⟩
  · subst hN1
    refine r_invSv (pc := 1) h (st := []) d_D_put_1 (c_checkRegister j1 hj1) (r_cS h wc_D_checkRegister w_63 w_1 w_64 hd_D_checkRegister ⟨(Nat.le_of_ble_eq_true rfl), (Nat.le_of_ble_eq_true rfl)⟩ rfl rfl) rfl rfl (Nat.le_of_ble_eq_true rfl) ⟨(Nat.le_of_ble_eq_true rfl), (Nat.le_of_ble_eq_true rfl)⟩ rfl ?_
    refine r_iload_n (pc := 4) h 2 d_D_put_4 rfl rfl ?_
    rcases pk_ix r1 (n := 16) (by decide) with hN | hN | ⟨j5, hj5, hN5⟩
    · exact r_outS (pc := 5) h (st := []) hex d_D_put_5 (t_checkRegister hl r1 (Or.inl hN)) (r_cS h wc_D_checkRegister w_63 w_1 w_64 hd_D_checkRegister ⟨(Nat.le_of_ble_eq_true rfl), (Nat.le_of_ble_eq_true rfl)⟩ rfl rfl) rfl rfl (Nat.le_of_ble_eq_true rfl) ⟨(Nat.le_of_ble_eq_true rfl), (Nat.le_of_ble_eq_true rfl)⟩
    · exact r_outS (pc := 5) h (st := []) hex d_D_put_5 (t_checkRegister hl r1 (Or.inr hN)) (r_cS h wc_D_checkRegister w_63 w_1 w_64 hd_D_checkRegister ⟨(Nat.le_of_ble_eq_true rfl), (Nat.le_of_ble_eq_true rfl)⟩ rfl rfl) rfl rfl (Nat.le_of_ble_eq_true rfl) ⟨(Nat.le_of_ble_eq_true rfl), (Nat.le_of_ble_eq_true rfl)⟩
    · subst hN5
      refine r_invSv (pc := 5) h (st := []) d_D_put_5 (c_checkRegister j5 hj5) (r_cS h wc_D_checkRegister w_63 w_1 w_64 hd_D_checkRegister ⟨(Nat.le_of_ble_eq_true rfl), (Nat.le_of_ble_eq_true rfl)⟩ rfl rfl) rfl rfl (Nat.le_of_ble_eq_true rfl) ⟨(Nat.le_of_ble_eq_true rfl), (Nat.le_of_ble_eq_true rfl)⟩ rfl ?_
      refine r_iload_n (pc := 8) h 3 d_D_put_8 rfl rfl ?_
      rcases pk_ix v (n := 10) (by decide) with hN | hN | ⟨j9, hj9, hN9⟩
      · exact r_outS (pc := 9) h (st := []) hex d_D_put_9 (t_checkVariable hl v (Or.inl hN)) (r_cS h wc_D_checkVariable w_133 w_1 w_134 hd_D_checkVariable ⟨(Nat.le_of_ble_eq_true rfl), (Nat.le_of_ble_eq_true rfl)⟩ rfl rfl) rfl rfl (Nat.le_of_ble_eq_true rfl) ⟨(Nat.le_of_ble_eq_true rfl), (Nat.le_of_ble_eq_true rfl)⟩
      · exact r_outS (pc := 9) h (st := []) hex d_D_put_9 (t_checkVariable hl v (Or.inr hN)) (r_cS h wc_D_checkVariable w_133 w_1 w_134 hd_D_checkVariable ⟨(Nat.le_of_ble_eq_true rfl), (Nat.le_of_ble_eq_true rfl)⟩ rfl rfl) rfl rfl (Nat.le_of_ble_eq_true rfl) ⟨(Nat.le_of_ble_eq_true rfl), (Nat.le_of_ble_eq_true rfl)⟩
      · subst hN9
        refine r_invSv (pc := 9) h (st := []) d_D_put_9 (c_checkVariable j9 hj9) (r_cS h wc_D_checkVariable w_133 w_1 w_134 hd_D_checkVariable ⟨(Nat.le_of_ble_eq_true rfl), (Nat.le_of_ble_eq_true rfl)⟩ rfl rfl) rfl rfl (Nat.le_of_ble_eq_true rfl) ⟨(Nat.le_of_ble_eq_true rfl), (Nat.le_of_ble_eq_true rfl)⟩ rfl ?_
        refine r_iload (pc := 12) h 4 d_D_put_12 rfl ?_
        rcases pk_ix r2 (n := 16) (by decide) with hN | hN | ⟨j14, hj14, hN14⟩
        · exact r_outS (pc := 14) h (st := []) hex d_D_put_14 (t_checkRegister hl r2 (Or.inl hN)) (r_cS h wc_D_checkRegister w_63 w_1 w_64 hd_D_checkRegister ⟨(Nat.le_of_ble_eq_true rfl), (Nat.le_of_ble_eq_true rfl)⟩ rfl rfl) rfl rfl (Nat.le_of_ble_eq_true rfl) ⟨(Nat.le_of_ble_eq_true rfl), (Nat.le_of_ble_eq_true rfl)⟩
        · exact r_outS (pc := 14) h (st := []) hex d_D_put_14 (t_checkRegister hl r2 (Or.inr hN)) (r_cS h wc_D_checkRegister w_63 w_1 w_64 hd_D_checkRegister ⟨(Nat.le_of_ble_eq_true rfl), (Nat.le_of_ble_eq_true rfl)⟩ rfl rfl) rfl rfl (Nat.le_of_ble_eq_true rfl) ⟨(Nat.le_of_ble_eq_true rfl), (Nat.le_of_ble_eq_true rfl)⟩
        · exfalso
          exact hB ⟨⟨j1, hj1, rfl⟩, ⟨j5, hj5, rfl⟩, ⟨j9, hj9, rfl⟩, ⟨j14, hj14, hN14⟩⟩
theorem t_bound (hl : l.stackTraces = false) (o : Nat) (t r1 S z : Int32) (hB : ¬ (okR 16 t ∧ okR 16 r1 ∧ okR 1024 S)) : Tt l y_D_bound (.code y_D_bound b_D_bound 6 none :: TT) (rmX 7 102) G [.ref o, .int t, .int r1, .int S, .int z] ws IAE := by
  refine tt_intro (cc := b_D_bound) (nL := 6) (by decide) [(0, .ref o), (1, .int t), (2, .int r1), (3, .int S), (4, .int z)] rfl (Nat.le_of_ble_eq_true rfl) ?_
  intro p e s m below meth c A h hr hex
  refine r_iload_n (pc := 0) h 1 d_D_bound_0 rfl rfl ?_
  rcases pk_ix t (n := 16) (by decide) with hN | hN | ⟨j1, hj1, hN1⟩
  · exact r_outS (pc := 1) h (st := []) hex d_D_bound_1 (t_checkRegister hl t (Or.inl hN)) (r_cS h wc_D_checkRegister w_63 w_1 w_64 hd_D_checkRegister ⟨(Nat.le_of_ble_eq_true rfl), (Nat.le_of_ble_eq_true rfl)⟩ rfl rfl) rfl rfl (Nat.le_of_ble_eq_true rfl) ⟨(Nat.le_of_ble_eq_true rfl), (Nat.le_of_ble_eq_true rfl)⟩
  · exact r_outS (pc := 1) h (st := []) hex d_D_bound_1 (t_checkRegister hl t (Or.inr hN)) (r_cS h wc_D_checkRegister w_63 w_1 w_64 hd_D_checkRegister ⟨(Nat.le_of_ble_eq_true rfl), (Nat.le_of_ble_eq_true rfl)⟩ rfl rfl) rfl rfl (Nat.le_of_ble_eq_true rfl) ⟨(Nat.le_of_ble_eq_true rfl), (Nat.le_of_ble_eq_true rfl)⟩
  · subst hN1
    refine r_invSv (pc := 1) h (st := []) d_D_bound_1 (c_checkRegister j1 hj1) (r_cS h wc_D_checkRegister w_63 w_1 w_64 hd_D_checkRegister ⟨(Nat.le_of_ble_eq_true rfl), (Nat.le_of_ble_eq_true rfl)⟩ rfl rfl) rfl rfl (Nat.le_of_ble_eq_true rfl) ⟨(Nat.le_of_ble_eq_true rfl), (Nat.le_of_ble_eq_true rfl)⟩ rfl ?_
    refine r_iload_n (pc := 4) h 2 d_D_bound_4 rfl rfl ?_
    rcases pk_ix r1 (n := 16) (by decide) with hN | hN | ⟨j5, hj5, hN5⟩
    · exact r_outS (pc := 5) h (st := []) hex d_D_bound_5 (t_checkRegister hl r1 (Or.inl hN)) (r_cS h wc_D_checkRegister w_63 w_1 w_64 hd_D_checkRegister ⟨(Nat.le_of_ble_eq_true rfl), (Nat.le_of_ble_eq_true rfl)⟩ rfl rfl) rfl rfl (Nat.le_of_ble_eq_true rfl) ⟨(Nat.le_of_ble_eq_true rfl), (Nat.le_of_ble_eq_true rfl)⟩
    · exact r_outS (pc := 5) h (st := []) hex d_D_bound_5 (t_checkRegister hl r1 (Or.inr hN)) (r_cS h wc_D_checkRegister w_63 w_1 w_64 hd_D_checkRegister ⟨(Nat.le_of_ble_eq_true rfl), (Nat.le_of_ble_eq_true rfl)⟩ rfl rfl) rfl rfl (Nat.le_of_ble_eq_true rfl) ⟨(Nat.le_of_ble_eq_true rfl), (Nat.le_of_ble_eq_true rfl)⟩
    · subst hN5
      refine r_invSv (pc := 5) h (st := []) d_D_bound_5 (c_checkRegister j5 hj5) (r_cS h wc_D_checkRegister w_63 w_1 w_64 hd_D_checkRegister ⟨(Nat.le_of_ble_eq_true rfl), (Nat.le_of_ble_eq_true rfl)⟩ rfl rfl) rfl rfl (Nat.le_of_ble_eq_true rfl) ⟨(Nat.le_of_ble_eq_true rfl), (Nat.le_of_ble_eq_true rfl)⟩ rfl ?_
      refine r_iload_n (pc := 8) h 3 d_D_bound_8 rfl rfl ?_
      rcases pk_ix S (n := 1024) (by decide) with hN | hN | ⟨j9, hj9, hN9⟩
      · exact r_outS (pc := 9) h (st := []) hex d_D_bound_9 (t_checkSet hl S (Or.inl hN)) (r_cS h wc_D_checkSet w_218 w_1 w_219 hd_D_checkSet ⟨(Nat.le_of_ble_eq_true rfl), (Nat.le_of_ble_eq_true rfl)⟩ rfl rfl) rfl rfl (Nat.le_of_ble_eq_true rfl) ⟨(Nat.le_of_ble_eq_true rfl), (Nat.le_of_ble_eq_true rfl)⟩
      · exact r_outS (pc := 9) h (st := []) hex d_D_bound_9 (t_checkSet hl S (Or.inr hN)) (r_cS h wc_D_checkSet w_218 w_1 w_219 hd_D_checkSet ⟨(Nat.le_of_ble_eq_true rfl), (Nat.le_of_ble_eq_true rfl)⟩ rfl rfl) rfl rfl (Nat.le_of_ble_eq_true rfl) ⟨(Nat.le_of_ble_eq_true rfl), (Nat.le_of_ble_eq_true rfl)⟩
      · exfalso
        exact hB ⟨⟨j1, hj1, rfl⟩, ⟨j5, hj5, rfl⟩, ⟨j9, hj9, hN9⟩⟩
theorem t_swap (hl : l.stackTraces = false) (o : Nat) (t r1 v w : Int32) (hB : ¬ (okR 16 t ∧ okR 16 r1 ∧ okR 10 v ∧ okR 10 w)) : Tt l y_D_swap (.code y_D_swap b_D_swap 8 none :: TT) (rmX 7 102) G [.ref o, .int t, .int r1, .int v, .int w] ws IAE := by
  refine tt_intro (cc := b_D_swap) (nL := 8) (by decide) [(0, .ref o), (1, .int t), (2, .int r1), (3, .int v), (4, .int w)] rfl (Nat.le_of_ble_eq_true rfl) ?_
  intro p e s m below meth c A h hr hex
  refine r_iload_n (pc := 0) h 1 d_D_swap_0 rfl rfl ?_
  rcases pk_ix t (n := 16) (by decide) with hN | hN | ⟨j1, hj1, hN1⟩
  · exact r_outS (pc := 1) h (st := []) hex d_D_swap_1 (t_checkRegister hl t (Or.inl hN)) (r_cS h wc_D_checkRegister w_63 w_1 w_64 hd_D_checkRegister ⟨(Nat.le_of_ble_eq_true rfl), (Nat.le_of_ble_eq_true rfl)⟩ rfl rfl) rfl rfl (Nat.le_of_ble_eq_true rfl) ⟨(Nat.le_of_ble_eq_true rfl), (Nat.le_of_ble_eq_true rfl)⟩
  · exact r_outS (pc := 1) h (st := []) hex d_D_swap_1 (t_checkRegister hl t (Or.inr hN)) (r_cS h wc_D_checkRegister w_63 w_1 w_64 hd_D_checkRegister ⟨(Nat.le_of_ble_eq_true rfl), (Nat.le_of_ble_eq_true rfl)⟩ rfl rfl) rfl rfl (Nat.le_of_ble_eq_true rfl) ⟨(Nat.le_of_ble_eq_true rfl), (Nat.le_of_ble_eq_true rfl)⟩
  · subst hN1
    refine r_invSv (pc := 1) h (st := []) d_D_swap_1 (c_checkRegister j1 hj1) (r_cS h wc_D_checkRegister w_63 w_1 w_64 hd_D_checkRegister ⟨(Nat.le_of_ble_eq_true rfl), (Nat.le_of_ble_eq_true rfl)⟩ rfl rfl) rfl rfl (Nat.le_of_ble_eq_true rfl) ⟨(Nat.le_of_ble_eq_true rfl), (Nat.le_of_ble_eq_true rfl)⟩ rfl ?_
    refine r_iload_n (pc := 4) h 2 d_D_swap_4 rfl rfl ?_
    rcases pk_ix r1 (n := 16) (by decide) with hN | hN | ⟨j5, hj5, hN5⟩
    · exact r_outS (pc := 5) h (st := []) hex d_D_swap_5 (t_checkRegister hl r1 (Or.inl hN)) (r_cS h wc_D_checkRegister w_63 w_1 w_64 hd_D_checkRegister ⟨(Nat.le_of_ble_eq_true rfl), (Nat.le_of_ble_eq_true rfl)⟩ rfl rfl) rfl rfl (Nat.le_of_ble_eq_true rfl) ⟨(Nat.le_of_ble_eq_true rfl), (Nat.le_of_ble_eq_true rfl)⟩
    · exact r_outS (pc := 5) h (st := []) hex d_D_swap_5 (t_checkRegister hl r1 (Or.inr hN)) (r_cS h wc_D_checkRegister w_63 w_1 w_64 hd_D_checkRegister ⟨(Nat.le_of_ble_eq_true rfl), (Nat.le_of_ble_eq_true rfl)⟩ rfl rfl) rfl rfl (Nat.le_of_ble_eq_true rfl) ⟨(Nat.le_of_ble_eq_true rfl), (Nat.le_of_ble_eq_true rfl)⟩
    · subst hN5
      refine r_invSv (pc := 5) h (st := []) d_D_swap_5 (c_checkRegister j5 hj5) (r_cS h wc_D_checkRegister w_63 w_1 w_64 hd_D_checkRegister ⟨(Nat.le_of_ble_eq_true rfl), (Nat.le_of_ble_eq_true rfl)⟩ rfl rfl) rfl rfl (Nat.le_of_ble_eq_true rfl) ⟨(Nat.le_of_ble_eq_true rfl), (Nat.le_of_ble_eq_true rfl)⟩ rfl ?_
      refine r_iload_n (pc := 8) h 3 d_D_swap_8 rfl rfl ?_
      rcases pk_ix v (n := 10) (by decide) with hN | hN | ⟨j9, hj9, hN9⟩
      · exact r_outS (pc := 9) h (st := []) hex d_D_swap_9 (t_checkVariable hl v (Or.inl hN)) (r_cS h wc_D_checkVariable w_133 w_1 w_134 hd_D_checkVariable ⟨(Nat.le_of_ble_eq_true rfl), (Nat.le_of_ble_eq_true rfl)⟩ rfl rfl) rfl rfl (Nat.le_of_ble_eq_true rfl) ⟨(Nat.le_of_ble_eq_true rfl), (Nat.le_of_ble_eq_true rfl)⟩
      · exact r_outS (pc := 9) h (st := []) hex d_D_swap_9 (t_checkVariable hl v (Or.inr hN)) (r_cS h wc_D_checkVariable w_133 w_1 w_134 hd_D_checkVariable ⟨(Nat.le_of_ble_eq_true rfl), (Nat.le_of_ble_eq_true rfl)⟩ rfl rfl) rfl rfl (Nat.le_of_ble_eq_true rfl) ⟨(Nat.le_of_ble_eq_true rfl), (Nat.le_of_ble_eq_true rfl)⟩
      · subst hN9
        refine r_invSv (pc := 9) h (st := []) d_D_swap_9 (c_checkVariable j9 hj9) (r_cS h wc_D_checkVariable w_133 w_1 w_134 hd_D_checkVariable ⟨(Nat.le_of_ble_eq_true rfl), (Nat.le_of_ble_eq_true rfl)⟩ rfl rfl) rfl rfl (Nat.le_of_ble_eq_true rfl) ⟨(Nat.le_of_ble_eq_true rfl), (Nat.le_of_ble_eq_true rfl)⟩ rfl ?_
        refine r_iload (pc := 12) h 4 d_D_swap_12 rfl ?_
        rcases pk_ix w (n := 10) (by decide) with hN | hN | ⟨j14, hj14, hN14⟩
        · exact r_outS (pc := 14) h (st := []) hex d_D_swap_14 (t_checkVariable hl w (Or.inl hN)) (r_cS h wc_D_checkVariable w_133 w_1 w_134 hd_D_checkVariable ⟨(Nat.le_of_ble_eq_true rfl), (Nat.le_of_ble_eq_true rfl)⟩ rfl rfl) rfl rfl (Nat.le_of_ble_eq_true rfl) ⟨(Nat.le_of_ble_eq_true rfl), (Nat.le_of_ble_eq_true rfl)⟩
        · exact r_outS (pc := 14) h (st := []) hex d_D_swap_14 (t_checkVariable hl w (Or.inr hN)) (r_cS h wc_D_checkVariable w_133 w_1 w_134 hd_D_checkVariable ⟨(Nat.le_of_ble_eq_true rfl), (Nat.le_of_ble_eq_true rfl)⟩ rfl rfl) rfl rfl (Nat.le_of_ble_eq_true rfl) ⟨(Nat.le_of_ble_eq_true rfl), (Nat.le_of_ble_eq_true rfl)⟩
        · exfalso
          exact hB ⟨⟨j1, hj1, rfl⟩, ⟨j5, hj5, rfl⟩, ⟨j9, hj9, rfl⟩, ⟨j14, hj14, hN14⟩⟩
theorem t_is (hl : l.stackTraces = false) (o : Nat) (r1 x : Int32) (hB : ¬ (okR 16 r1 ∧ okR 1024 x)) : Tt l y_D_is (.code y_D_is b_D_is 3 (some .boolean) :: TT) (rmX 7 102) G [.ref o, .int r1, .int x] ws IAE := by
  refine tt_intro (cc := b_D_is) (nL := 3) (by decide) [(0, .ref o), (1, .int r1), (2, .int x)] rfl (Nat.le_of_ble_eq_true rfl) ?_
  intro p e s m below meth c A h hr hex
  refine r_iload_n (pc := 0) h 1 d_D_is_0 rfl rfl ?_
  rcases pk_ix r1 (n := 16) (by decide) with hN | hN | ⟨j1, hj1, hN1⟩
  · exact r_outS (pc := 1) h (st := []) hex d_D_is_1 (t_checkRegister hl r1 (Or.inl hN)) (r_cS h wc_D_checkRegister w_63 w_1 w_64 hd_D_checkRegister ⟨(Nat.le_of_ble_eq_true rfl), (Nat.le_of_ble_eq_true rfl)⟩ rfl rfl) rfl rfl (Nat.le_of_ble_eq_true rfl) ⟨(Nat.le_of_ble_eq_true rfl), (Nat.le_of_ble_eq_true rfl)⟩
  · exact r_outS (pc := 1) h (st := []) hex d_D_is_1 (t_checkRegister hl r1 (Or.inr hN)) (r_cS h wc_D_checkRegister w_63 w_1 w_64 hd_D_checkRegister ⟨(Nat.le_of_ble_eq_true rfl), (Nat.le_of_ble_eq_true rfl)⟩ rfl rfl) rfl rfl (Nat.le_of_ble_eq_true rfl) ⟨(Nat.le_of_ble_eq_true rfl), (Nat.le_of_ble_eq_true rfl)⟩
  · subst hN1
    refine r_invSv (pc := 1) h (st := []) d_D_is_1 (c_checkRegister j1 hj1) (r_cS h wc_D_checkRegister w_63 w_1 w_64 hd_D_checkRegister ⟨(Nat.le_of_ble_eq_true rfl), (Nat.le_of_ble_eq_true rfl)⟩ rfl rfl) rfl rfl (Nat.le_of_ble_eq_true rfl) ⟨(Nat.le_of_ble_eq_true rfl), (Nat.le_of_ble_eq_true rfl)⟩ rfl ?_
    refine r_iload_n (pc := 4) h 2 d_D_is_4 rfl rfl ?_
    rcases pk_ix x (n := 1024) (by decide) with hN | hN | ⟨j5, hj5, hN5⟩
    · exact r_outS (pc := 5) h (st := []) hex d_D_is_5 (t_checkAssignment hl x (Or.inl hN)) (r_cS h wc_D_checkAssignment w_153 w_1 w_154 hd_D_checkAssignment ⟨(Nat.le_of_ble_eq_true rfl), (Nat.le_of_ble_eq_true rfl)⟩ rfl rfl) rfl rfl (Nat.le_of_ble_eq_true rfl) ⟨(Nat.le_of_ble_eq_true rfl), (Nat.le_of_ble_eq_true rfl)⟩
    · exact r_outS (pc := 5) h (st := []) hex d_D_is_5 (t_checkAssignment hl x (Or.inr hN)) (r_cS h wc_D_checkAssignment w_153 w_1 w_154 hd_D_checkAssignment ⟨(Nat.le_of_ble_eq_true rfl), (Nat.le_of_ble_eq_true rfl)⟩ rfl rfl) rfl rfl (Nat.le_of_ble_eq_true rfl) ⟨(Nat.le_of_ble_eq_true rfl), (Nat.le_of_ble_eq_true rfl)⟩
    · exfalso
      exact hB ⟨⟨j1, hj1, rfl⟩, ⟨j5, hj5, hN5⟩⟩
theorem t_ways (hl : l.stackTraces = false) (o : Nat) (r1 : Int32) (hB : ¬ (okR 16 r1)) : Tt l y_D_ways (.code y_D_ways b_D_ways 4 (some .int) :: TT) (rmX 7 102) G [.ref o, .int r1] ws IAE := by
  refine tt_intro (cc := b_D_ways) (nL := 4) (by decide) [(0, .ref o), (1, .int r1)] rfl (Nat.le_of_ble_eq_true rfl) ?_
  intro p e s m below meth c A h hr hex
  refine r_iload_n (pc := 0) h 1 d_D_ways_0 rfl rfl ?_
  rcases pk_ix r1 (n := 16) (by decide) with hN | hN | ⟨j1, hj1, hN1⟩
  · exact r_outS (pc := 1) h (st := []) hex d_D_ways_1 (t_checkRegister hl r1 (Or.inl hN)) (r_cS h wc_D_checkRegister w_63 w_1 w_64 hd_D_checkRegister ⟨(Nat.le_of_ble_eq_true rfl), (Nat.le_of_ble_eq_true rfl)⟩ rfl rfl) rfl rfl (Nat.le_of_ble_eq_true rfl) ⟨(Nat.le_of_ble_eq_true rfl), (Nat.le_of_ble_eq_true rfl)⟩
  · exact r_outS (pc := 1) h (st := []) hex d_D_ways_1 (t_checkRegister hl r1 (Or.inr hN)) (r_cS h wc_D_checkRegister w_63 w_1 w_64 hd_D_checkRegister ⟨(Nat.le_of_ble_eq_true rfl), (Nat.le_of_ble_eq_true rfl)⟩ rfl rfl) rfl rfl (Nat.le_of_ble_eq_true rfl) ⟨(Nat.le_of_ble_eq_true rfl), (Nat.le_of_ble_eq_true rfl)⟩
  · exfalso
    exact hB ⟨j1, hj1, hN1⟩
theorem t_first (hl : l.stackTraces = false) (o : Nat) (r1 : Int32) (hB : ¬ (okR 16 r1)) : Tt l y_D_first (.code y_D_first b_D_first 4 (some .int) :: TT) (rmX 7 102) G [.ref o, .int r1] ws IAE := by
  refine tt_intro (cc := b_D_first) (nL := 4) (by decide) [(0, .ref o), (1, .int r1)] rfl (Nat.le_of_ble_eq_true rfl) ?_
  intro p e s m below meth c A h hr hex
  refine r_iload_n (pc := 0) h 1 d_D_first_0 rfl rfl ?_
  rcases pk_ix r1 (n := 16) (by decide) with hN | hN | ⟨j1, hj1, hN1⟩
  · exact r_outS (pc := 1) h (st := []) hex d_D_first_1 (t_checkRegister hl r1 (Or.inl hN)) (r_cS h wc_D_checkRegister w_63 w_1 w_64 hd_D_checkRegister ⟨(Nat.le_of_ble_eq_true rfl), (Nat.le_of_ble_eq_true rfl)⟩ rfl rfl) rfl rfl (Nat.le_of_ble_eq_true rfl) ⟨(Nat.le_of_ble_eq_true rfl), (Nat.le_of_ble_eq_true rfl)⟩
  · exact r_outS (pc := 1) h (st := []) hex d_D_first_1 (t_checkRegister hl r1 (Or.inr hN)) (r_cS h wc_D_checkRegister w_63 w_1 w_64 hd_D_checkRegister ⟨(Nat.le_of_ble_eq_true rfl), (Nat.le_of_ble_eq_true rfl)⟩ rfl rfl) rfl rfl (Nat.le_of_ble_eq_true rfl) ⟨(Nat.le_of_ble_eq_true rfl), (Nat.le_of_ble_eq_true rfl)⟩
  · exfalso
    exact hB ⟨j1, hj1, hN1⟩
theorem t_hangs (hl : l.stackTraces = false) (o : Nat) (r1 : Int32) (hB : ¬ (okR 16 r1)) : Tt l y_D_hangs (.code y_D_hangs b_D_hangs 4 (some .int) :: TT) (rmX 7 102) G [.ref o, .int r1] ws IAE := by
  refine tt_intro (cc := b_D_hangs) (nL := 4) (by decide) [(0, .ref o), (1, .int r1)] rfl (Nat.le_of_ble_eq_true rfl) ?_
  intro p e s m below meth c A h hr hex
  refine r_iload_n (pc := 0) h 1 d_D_hangs_0 rfl rfl ?_
  rcases pk_ix r1 (n := 16) (by decide) with hN | hN | ⟨j1, hj1, hN1⟩
  · exact r_outS (pc := 1) h (st := []) hex d_D_hangs_1 (t_checkRegister hl r1 (Or.inl hN)) (r_cS h wc_D_checkRegister w_63 w_1 w_64 hd_D_checkRegister ⟨(Nat.le_of_ble_eq_true rfl), (Nat.le_of_ble_eq_true rfl)⟩ rfl rfl) rfl rfl (Nat.le_of_ble_eq_true rfl) ⟨(Nat.le_of_ble_eq_true rfl), (Nat.le_of_ble_eq_true rfl)⟩
  · exact r_outS (pc := 1) h (st := []) hex d_D_hangs_1 (t_checkRegister hl r1 (Or.inr hN)) (r_cS h wc_D_checkRegister w_63 w_1 w_64 hd_D_checkRegister ⟨(Nat.le_of_ble_eq_true rfl), (Nat.le_of_ble_eq_true rfl)⟩ rfl rfl) rfl rfl (Nat.le_of_ble_eq_true rfl) ⟨(Nat.le_of_ble_eq_true rfl), (Nat.le_of_ble_eq_true rfl)⟩
  · exfalso
    exact hB ⟨j1, hj1, hN1⟩
theorem t_same (hl : l.stackTraces = false) (o : Nat) (r1 r2 : Int32) (hB : ¬ (okR 16 r1 ∧ okR 16 r2)) : Tt l y_D_same (.code y_D_same b_D_same 4 (some .boolean) :: TT) (rmX 7 102) G [.ref o, .int r1, .int r2] ws IAE := by
  refine tt_intro (cc := b_D_same) (nL := 4) (by decide) [(0, .ref o), (1, .int r1), (2, .int r2)] rfl (Nat.le_of_ble_eq_true rfl) ?_
  intro p e s m below meth c A h hr hex
  refine r_iload_n (pc := 0) h 1 d_D_same_0 rfl rfl ?_
  rcases pk_ix r1 (n := 16) (by decide) with hN | hN | ⟨j1, hj1, hN1⟩
  · exact r_outS (pc := 1) h (st := []) hex d_D_same_1 (t_checkRegister hl r1 (Or.inl hN)) (r_cS h wc_D_checkRegister w_63 w_1 w_64 hd_D_checkRegister ⟨(Nat.le_of_ble_eq_true rfl), (Nat.le_of_ble_eq_true rfl)⟩ rfl rfl) rfl rfl (Nat.le_of_ble_eq_true rfl) ⟨(Nat.le_of_ble_eq_true rfl), (Nat.le_of_ble_eq_true rfl)⟩
  · exact r_outS (pc := 1) h (st := []) hex d_D_same_1 (t_checkRegister hl r1 (Or.inr hN)) (r_cS h wc_D_checkRegister w_63 w_1 w_64 hd_D_checkRegister ⟨(Nat.le_of_ble_eq_true rfl), (Nat.le_of_ble_eq_true rfl)⟩ rfl rfl) rfl rfl (Nat.le_of_ble_eq_true rfl) ⟨(Nat.le_of_ble_eq_true rfl), (Nat.le_of_ble_eq_true rfl)⟩
  · subst hN1
    refine r_invSv (pc := 1) h (st := []) d_D_same_1 (c_checkRegister j1 hj1) (r_cS h wc_D_checkRegister w_63 w_1 w_64 hd_D_checkRegister ⟨(Nat.le_of_ble_eq_true rfl), (Nat.le_of_ble_eq_true rfl)⟩ rfl rfl) rfl rfl (Nat.le_of_ble_eq_true rfl) ⟨(Nat.le_of_ble_eq_true rfl), (Nat.le_of_ble_eq_true rfl)⟩ rfl ?_
    refine r_iload_n (pc := 4) h 2 d_D_same_4 rfl rfl ?_
    rcases pk_ix r2 (n := 16) (by decide) with hN | hN | ⟨j5, hj5, hN5⟩
    · exact r_outS (pc := 5) h (st := []) hex d_D_same_5 (t_checkRegister hl r2 (Or.inl hN)) (r_cS h wc_D_checkRegister w_63 w_1 w_64 hd_D_checkRegister ⟨(Nat.le_of_ble_eq_true rfl), (Nat.le_of_ble_eq_true rfl)⟩ rfl rfl) rfl rfl (Nat.le_of_ble_eq_true rfl) ⟨(Nat.le_of_ble_eq_true rfl), (Nat.le_of_ble_eq_true rfl)⟩
    · exact r_outS (pc := 5) h (st := []) hex d_D_same_5 (t_checkRegister hl r2 (Or.inr hN)) (r_cS h wc_D_checkRegister w_63 w_1 w_64 hd_D_checkRegister ⟨(Nat.le_of_ble_eq_true rfl), (Nat.le_of_ble_eq_true rfl)⟩ rfl rfl) rfl rfl (Nat.le_of_ble_eq_true rfl) ⟨(Nat.le_of_ble_eq_true rfl), (Nat.le_of_ble_eq_true rfl)⟩
    · exfalso
      exact hB ⟨⟨j1, hj1, rfl⟩, ⟨j5, hj5, hN5⟩⟩
theorem t_parts (hl : l.stackTraces = false) (o : Nat) (r1 : Int32) (hB : ¬ (okR 16 r1)) : Tt l y_D_parts (.code y_D_parts b_D_parts 2 (some .int) :: TT) (rmX 7 102) G [.ref o, .int r1] ws IAE := by
  refine tt_intro (cc := b_D_parts) (nL := 2) (by decide) [(0, .ref o), (1, .int r1)] rfl (Nat.le_of_ble_eq_true rfl) ?_
  intro p e s m below meth c A h hr hex
  refine r_iload_n (pc := 0) h 1 d_D_parts_0 rfl rfl ?_
  rcases pk_ix r1 (n := 16) (by decide) with hN | hN | ⟨j1, hj1, hN1⟩
  · exact r_outS (pc := 1) h (st := []) hex d_D_parts_1 (t_checkRegister hl r1 (Or.inl hN)) (r_cS h wc_D_checkRegister w_63 w_1 w_64 hd_D_checkRegister ⟨(Nat.le_of_ble_eq_true rfl), (Nat.le_of_ble_eq_true rfl)⟩ rfl rfl) rfl rfl (Nat.le_of_ble_eq_true rfl) ⟨(Nat.le_of_ble_eq_true rfl), (Nat.le_of_ble_eq_true rfl)⟩
  · exact r_outS (pc := 1) h (st := []) hex d_D_parts_1 (t_checkRegister hl r1 (Or.inr hN)) (r_cS h wc_D_checkRegister w_63 w_1 w_64 hd_D_checkRegister ⟨(Nat.le_of_ble_eq_true rfl), (Nat.le_of_ble_eq_true rfl)⟩ rfl rfl) rfl rfl (Nat.le_of_ble_eq_true rfl) ⟨(Nat.le_of_ble_eq_true rfl), (Nat.le_of_ble_eq_true rfl)⟩
  · exfalso
    exact hB ⟨j1, hj1, hN1⟩
theorem t_together (hl : l.stackTraces = false) (o : Nat) (r1 r2 : Int32) (hB : ¬ (¬ r1 < 0 ∧ ¬ r2 ≤ r1 ∧ r2 ≤ nI 16)) : Tt l y_D_together (.code y_D_together b_D_together 3 (some .int) :: TT) (rmX 7 102) G [.ref o, .int r1, .int r2] ws IAE := by
  refine tt_intro (cc := b_D_together) (nL := 3) (by decide) [(0, .ref o), (1, .int r1), (2, .int r2)] rfl (Nat.le_of_ble_eq_true rfl) ?_
  intro p e s m below meth c A h hr hex
  refine r_iload_n (pc := 0) h 1 d_D_together_0 rfl rfl ?_
  refine r_if_lt (pc := 1) h (tgt := 15) d_D_together_1 (by decide) (fun q1 => ?_) (fun q1 => ?_)
  · exact r_throw (pc := 15) h hl hex (E := IAE) (text := "no such range of registers") (names := upN) (ik := 121) (is := 123) (ic := 125) iae_fit up_fit w_66 w_7 (by decide) iae_1 iae_2 iae_g d_D_together_15 d_D_together_18 d_D_together_19 d_D_together_21 d_D_together_24 (Nat.le_of_ble_eq_true rfl) (Nat.le_of_ble_eq_true rfl) (Nat.le_of_ble_eq_true rfl) (Nat.le_of_ble_eq_true rfl)
  · refine r_iload_n (pc := 4) h 1 d_D_together_4 rfl rfl ?_
    refine r_iload_n (pc := 5) h 2 d_D_together_5 rfl rfl ?_
    refine r_icmp_ge (pc := 6) h (tgt := 15) d_D_together_6 (by decide) (fun q6 => ?_) (fun q6 => ?_)
    · exact r_throw (pc := 15) h hl hex (E := IAE) (text := "no such range of registers") (names := upN) (ik := 121) (is := 123) (ic := 125) iae_fit up_fit w_66 w_7 (by decide) iae_1 iae_2 iae_g d_D_together_15 d_D_together_18 d_D_together_19 d_D_together_21 d_D_together_24 (Nat.le_of_ble_eq_true rfl) (Nat.le_of_ble_eq_true rfl) (Nat.le_of_ble_eq_true rfl) (Nat.le_of_ble_eq_true rfl)
    · refine r_iload_n (pc := 9) h 2 d_D_together_9 rfl rfl ?_
      refine r_bipush (pc := 10) h (v := nI 16) d_D_together_10 (by decide) ?_
      refine r_icmp_le (pc := 12) h (tgt := 25) d_D_together_12 (by decide) (fun q12 => ?_) (fun q12 => ?_)
      · exact absurd ⟨q1, fun z => q6 z, q12⟩ hB
      · exact r_throw (pc := 15) h hl hex (E := IAE) (text := "no such range of registers") (names := upN) (ik := 121) (is := 123) (ic := 125) iae_fit up_fit w_66 w_7 (by decide) iae_1 iae_2 iae_g d_D_together_15 d_D_together_18 d_D_together_19 d_D_together_21 d_D_together_24 (Nat.le_of_ble_eq_true rfl) (Nat.le_of_ble_eq_true rfl) (Nat.le_of_ble_eq_true rfl) (Nat.le_of_ble_eq_true rfl)
end TX
