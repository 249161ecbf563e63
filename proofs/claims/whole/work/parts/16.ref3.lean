-- the reference counts parts
section RLR
variable {p : Program} {l : Launch} {e : Env} {R : Room} {s : State} {m : MethodId} {args : Array Value} {below : List Frame} {meth : Method} {c : Code} {cells slots : Nat} {Q : State → Prop} {G : gG} {A : Nat → Prop} {nL : Nat} {pc : Nat} {st : List Value}
theorem Wv.loopR {σ : Type} (i0 n : Nat) (I : Nat → σ → Prop) (Wd : Nat → σ → va_W) (Lv : Nat → σ → List (Nat × Value)) (hend : ∀ x, I n x → Wv p l e R s m args below meth c G A nL cells slots Q (Wd n x) pc (Lv n x) st) (hstep : ∀ i x, i < n → I i x → (∀ y, I (i + 1) y → Wv p l e R s m args below meth c G A nL cells slots Q (Wd (i + 1) y) pc (Lv (i + 1) y) st) → Wv p l e R s m args below meth c G A nL cells slots Q (Wd i x) pc (Lv i x) st) (x : σ) (hi : i0 ≤ n) (h0 : I i0 x) : Wv p l e R s m args below meth c G A nL cells slots Q (Wd i0 x) pc (Lv i0 x) st := by
  have key : ∀ d i y, i + d = n → I i y → Wv p l e R s m args below meth c G A nL cells slots Q (Wd i y) pc (Lv i y) st := by
    intro d
    induction d with
    | zero =>
      intro i y hd hI
      have e : i = n := by omega
      subst e
      exact hend y hI
    | succ d ih =>
      intro i y hd hI
      exact hstep i y (by omega) hI (fun y' hI' => ih (i + 1) y' (by omega) hI')
  exact key (n - i0) i0 x (by omega) h0
end RLR
/-- the function of the places v, v + 2^k, .. -/
def subf (F : Nat → Bool) (k v : Nat) : Nat → Bool := fun m => F (v + m * 2 ^ k)
def dep (F : Nat → Bool) (k v : Nat) : Prop := ∃ m, m < 2 ^ (10 - k) ∧ F (v + m * 2 ^ k) ≠ F (v + (m ^^^ 1) * 2 ^ k)
noncomputable def hoB (F : Nat → Bool) (k v : Nat) : Bool := bD (dep F k v)
/-- the parts of variable k of the registers fr .. r - 1 -/
def PL (S : Nat → Nat → Bool) (fr r k : Nat) (c : Nat × List Bool) : Prop := ∃ r' v, fr ≤ r' ∧ r' < r ∧ v < 2 ^ k ∧ dep (S r') k v ∧ c = pcode (9 - k) (subf (S r') k v)
def PK (S : Nat → Nat → Bool) (fr r k : Nat) (c : Nat × List Bool) : Prop := ∃ k', k' < k ∧ PL S fr r k' c
def PV (S : Nat → Nat → Bool) (r k v : Nat) (c : Nat × List Bool) : Prop := ∃ v', v' < v ∧ dep (S r) k v' ∧ c = pcode (9 - k) (subf (S r) k v')
theorem sh10 : ∀ k, k < 11 → 1024 / 2 ^ k = 2 ^ (10 - k) := by decide
theorem pw_k : ∀ k, k < 10 → 2 ^ k ≤ 512 ∧ 2 ^ (10 - k) ≤ 1024 ∧ 2 ^ (10 - k) * 2 ^ k = 1024 ∧ 2 ^ (10 - k) = 2 ^ (9 - k + 1) ∧ 2 ≤ 2 ^ (10 - k) := by decide
theorem ix_lt {k v m : Nat} (hk : k < 10) (hv : v < 2 ^ k) (hm : m < 2 ^ (10 - k)) : v + m * 2 ^ k < 1024 := by
  have h1 : (m + 1) * 2 ^ k ≤ 2 ^ (10 - k) * 2 ^ k := Nat.mul_le_mul_right _ hm
  rw [(pw_k k hk).2.2.1, Nat.add_mul, Nat.one_mul] at h1
  omega
theorem x1_lt {k m : Nat} (hk : k < 10) (hm : m < 2 ^ (10 - k)) : m ^^^ 1 < 2 ^ (10 - k) := Nat.xor_lt_two_pow hm (Nat.lt_of_lt_of_le (by decide) (pw_k k hk).2.2.2.2)
theorem mk_lt2 {k m : Nat} (hk : k < 10) (hm : m < 2 ^ (10 - k)) : m * 2 ^ k < 2 ^ 32 := by
  have h1 : m * 2 ^ k ≤ 2 ^ (10 - k) * 2 ^ k := Nat.mul_le_mul_right _ (Nat.le_of_lt hm)
  rw [(pw_k k hk).2.2.1] at h1
  exact Nat.lt_of_le_of_lt h1 (by decide)
theorem pcode_sub {F F' : Nat → Bool} {k v v' : Nat} (hk : k < 10) : pcode (9 - k) (subf F k v) = pcode (9 - k) (subf F' k v') ↔ ∀ m, m < 2 ^ (10 - k) → F (v + m * 2 ^ k) = F' (v' + m * 2 ^ k) := by
  rw [pcode_eq, ← (pw_k k hk).2.2.2.1]
  exact ⟨fun h => h.2, fun h => ⟨rfl, h⟩⟩
/-- what lies in the arrays of the found ones -/
def Arr (S : Nat → Nat → Bool) (k : Nat) (FL : List (Nat × List Bool)) (fi fa : Nat → Int32) : Prop := ∀ f, f < FL.length → ∃ ri vi, ri < 16 ∧ vi < 2 ^ k ∧ fi f = nI ri ∧ fa f = nI vi ∧ FL[f]? = some (pcode (9 - k) (subf (S ri) k vi))
theorem Arr_push {S : Nat → Nat → Bool} {k r v : Nat} {FL : List (Nat × List Bool)} {fi fa : Nat → Int32} (h : Arr S k FL fi fa) (hr : r < 16) (hv : v < 2 ^ k) : Arr S k (FL ++ [pcode (9 - k) (subf (S r) k v)]) (upd fi FL.length (nI r)) (upd fa FL.length (nI v)) := by
  intro f hf
  rw [List.length_append, List.length_singleton] at hf
  by_cases e : f = FL.length
  · subst e
    exact ⟨r, v, hr, hv, by simp [upd], by simp [upd], by simp⟩
  · obtain ⟨ri, vi, h1, h2, h3, h4, h5⟩ := h f (by omega)
    refine ⟨ri, vi, h1, h2, by simp [upd, e, h3], by simp [upd, e, h4], ?_⟩
    rw [List.getElem?_append_left (by omega)]
    exact h5
section MC
variable {l : Launch} {G : gG} {b : Nat → Nat} {th : Int32} {rg : Nat → Nat → Bool} {wk : Nat → Bool} {fi fa : Nat → Int32}
theorem m_hangsOn_f (r k v : Nat) (hr0 : r < 16) (hk : k < 10) (hv : v < 2 ^ k) (hn : ∀ i, i < 2 ^ (10 - k) → rg r (v + i * 2 ^ k) = rg r (v + (i ^^^ 1) * 2 ^ k)) : Ct l y_M_hangsOn (.code y_M_hangsOn b_M_hangsOn 5 (some .boolean) :: TT) (rmF 0 0) G [.ref (b 0), .int (nI r), .int (nI k), .int (nI v)] (mw G b th rg wk fi fa) (some (.int (bI false))) (mw G b th rg wk fi fa) := by
  refine ct_intro (cc := b_M_hangsOn) (nL := 5) (by decide) [(0, .ref (b 0)), (1, .int (nI r)), (2, .int (nI k)), (3, .int (nI v))] rfl (Nat.le_of_ble_eq_true rfl) ?_
  intro p e s m below meth c A h hr
  refine r_iconst (pc := 0) h (v := nI 0) d_M_hangsOn_0 (by decide) ?_
  refine r_istore (pc := 1) h (lv' := [(4, .int (nI 0)), (0, .ref (b 0)), (1, .int (nI r)), (2, .int (nI k)), (3, .int (nI v))]) d_M_hangsOn_1 (by decide) rfl ?_
  refine Wv.loop (2 ^ (10 - k)) (fun i => (mw G b th rg wk fi fa)) (fun i => [(4, .int (nI i)), (0, .ref (b 0)), (1, .int (nI r)), (2, .int (nI k)), (3, .int (nI v))]) ?_ ?_
  · show Wv p l e _ s m _ below meth c G A _ _ _ _ (mw G b th rg wk fi fa) 3 [(4, .int (nI (2 ^ (10 - k)))), (0, .ref (b 0)), (1, .int (nI r)), (2, .int (nI k)), (3, .int (nI v))] []
    refine r_iload (pc := 3) h 0 d_M_hangsOn_3 rfl ?_
    refine r_sipush (pc := 5) h (v := nI 1024) d_M_hangsOn_5 (by decide) ?_
    refine r_iload_n (pc := 8) h 3 d_M_hangsOn_8 rfl rfl ?_
    refine r_ishr (pc := 9) h (z := nI (2 ^ (10 - k))) d_M_hangsOn_9 (by rw [nx_shr (by decide) (by omega), sh10 k (by omega)]) ?_
    refine r_icmp_ge_t (pc := 10) h (tgt := 52) d_M_hangsOn_10 (by decide) (nI_le (Nat.le_refl _) (Nat.lt_of_le_of_lt (pw_k k hk).2.1 (by decide))) ?_
    refine r_iconst (pc := 52) h (v := bI false) d_M_hangsOn_52 (by decide) ?_
    exact r_zret (pc := 53) h hr (bI_nrw _) d_M_hangsOn_53
  · intro i hi ih
    have ih : Wv p l e _ s m _ below meth c G A _ _ _ _ (mw G b th rg wk fi fa) 3 [(4, .int (nI (i + 1))), (0, .ref (b 0)), (1, .int (nI r)), (2, .int (nI k)), (3, .int (nI v))] [] := ih
    show Wv p l e _ s m _ below meth c G A _ _ _ _ (mw G b th rg wk fi fa) 3 [(4, .int (nI i)), (0, .ref (b 0)), (1, .int (nI r)), (2, .int (nI k)), (3, .int (nI v))] []
    refine r_iload (pc := 3) h 0 d_M_hangsOn_3 rfl ?_
    refine r_sipush (pc := 5) h (v := nI 1024) d_M_hangsOn_5 (by decide) ?_
    refine r_iload_n (pc := 8) h 3 d_M_hangsOn_8 rfl rfl ?_
    refine r_ishr (pc := 9) h (z := nI (2 ^ (10 - k))) d_M_hangsOn_9 (by rw [nx_shr (by decide) (by omega), sh10 k (by omega)]) ?_
    refine r_icmp_ge_f (pc := 10) h (tgt := 52) d_M_hangsOn_10 (by decide) (nI_ge hi (Nat.lt_of_le_of_lt (pw_k k hk).2.1 (by decide))) ?_
    refine r_aload_n (pc := 13) h 1 d_M_hangsOn_13 rfl rfl ?_
    refine r_get (pc := 14) h 0 1 d_M_hangsOn_14 mw_0 rfl (by decide) in_M (List.mem_cons_of_mem _ w_354) rfl ?_
    refine r_iload_n (pc := 17) h 2 d_M_hangsOn_17 rfl rfl ?_
    refine r_aaload (pc := 18) h 1 4 r d_M_hangsOn_18 mw_1 rfl rfl rfl hr0 (by decide) (mw_o hr0) ?_
    refine r_iload_n (pc := 19) h 4 d_M_hangsOn_19 rfl rfl ?_
    refine r_iload (pc := 20) h 0 d_M_hangsOn_20 rfl ?_
    refine r_iload_n (pc := 22) h 3 d_M_hangsOn_22 rfl rfl ?_
    refine r_ishl (pc := 23) h (z := nI (i * 2 ^ k)) d_M_hangsOn_23 (nx_shl (by omega) (mk_lt2 hk hi)) ?_
    refine r_iadd (pc := 24) h (z := nI (v + i * 2 ^ k)) d_M_hangsOn_24 (nI_add _ _) ?_
    refine r_baload (pc := 25) h (5 + r) (z := bI (rg r (v + i * 2 ^ k))) (v + i * 2 ^ k) d_M_hangsOn_25 (mw_r hr0) rfl (ix_lt hk hv hi) (by decide) rfl ?_
    refine r_aload_n (pc := 26) h 1 d_M_hangsOn_26 rfl rfl ?_
    refine r_get (pc := 27) h 0 1 d_M_hangsOn_27 mw_0 rfl (by decide) in_M (List.mem_cons_of_mem _ w_354) rfl ?_
    refine r_iload_n (pc := 30) h 2 d_M_hangsOn_30 rfl rfl ?_
    refine r_aaload (pc := 31) h 1 4 r d_M_hangsOn_31 mw_1 rfl rfl rfl hr0 (by decide) (mw_o hr0) ?_
    refine r_iload_n (pc := 32) h 4 d_M_hangsOn_32 rfl rfl ?_
    refine r_iload (pc := 33) h 0 d_M_hangsOn_33 rfl ?_
    refine r_iconst (pc := 35) h (v := nI 1) d_M_hangsOn_35 (by decide) ?_
    refine r_ixor (pc := 36) h (z := nI (i ^^^ 1)) d_M_hangsOn_36 (nx_xor _ _) ?_
    refine r_iload_n (pc := 37) h 3 d_M_hangsOn_37 rfl rfl ?_
    refine r_ishl (pc := 38) h (z := nI ((i ^^^ 1) * 2 ^ k)) d_M_hangsOn_38 (nx_shl (by omega) (mk_lt2 hk (x1_lt hk hi))) ?_
    refine r_iadd (pc := 39) h (z := nI (v + (i ^^^ 1) * 2 ^ k)) d_M_hangsOn_39 (nI_add _ _) ?_
    refine r_baload (pc := 40) h (5 + r) (z := bI (rg r (v + (i ^^^ 1) * 2 ^ k))) (v + (i ^^^ 1) * 2 ^ k) d_M_hangsOn_40 (mw_r hr0) rfl (ix_lt hk hv (x1_lt hk hi)) (by decide) rfl ?_
    refine r_icmp_eq_t (pc := 41) h (tgt := 46) d_M_hangsOn_41 (by decide) (by rw [hn i hi]) ?_
    refine r_iinc (pc := 46) h (v := nI (i + 1)) (lv' := [(4, .int (nI (i + 1))), (0, .ref (b 0)), (1, .int (nI r)), (2, .int (nI k)), (3, .int (nI v))]) 0 d_M_hangsOn_46 rfl (nI_inc i) (by decide) rfl ?_
    refine r_goto (pc := 49) h (tgt := 3) d_M_hangsOn_49 (by decide) ?_
    exact ih
theorem m_hangsOn_t (r k v : Nat) (hr0 : r < 16) (hk : k < 10) (hv : v < 2 ^ k) (n : Nat) (hN : n < 2 ^ (10 - k)) (hn : ∀ i, i < n → rg r (v + i * 2 ^ k) = rg r (v + (i ^^^ 1) * 2 ^ k)) (hne : rg r (v + n * 2 ^ k) ≠ rg r (v + (n ^^^ 1) * 2 ^ k)) : Ct l y_M_hangsOn (.code y_M_hangsOn b_M_hangsOn 5 (some .boolean) :: TT) (rmF 0 0) G [.ref (b 0), .int (nI r), .int (nI k), .int (nI v)] (mw G b th rg wk fi fa) (some (.int (bI true))) (mw G b th rg wk fi fa) := by
  refine ct_intro (cc := b_M_hangsOn) (nL := 5) (by decide) [(0, .ref (b 0)), (1, .int (nI r)), (2, .int (nI k)), (3, .int (nI v))] rfl (Nat.le_of_ble_eq_true rfl) ?_
  intro p e s m below meth c A h hr
  refine r_iconst (pc := 0) h (v := nI 0) d_M_hangsOn_0 (by decide) ?_
  refine r_istore (pc := 1) h (lv' := [(4, .int (nI 0)), (0, .ref (b 0)), (1, .int (nI r)), (2, .int (nI k)), (3, .int (nI v))]) d_M_hangsOn_1 (by decide) rfl ?_
  refine Wv.loop n (fun i => (mw G b th rg wk fi fa)) (fun i => [(4, .int (nI i)), (0, .ref (b 0)), (1, .int (nI r)), (2, .int (nI k)), (3, .int (nI v))]) ?_ ?_
  · show Wv p l e _ s m _ below meth c G A _ _ _ _ (mw G b th rg wk fi fa) 3 [(4, .int (nI n)), (0, .ref (b 0)), (1, .int (nI r)), (2, .int (nI k)), (3, .int (nI v))] []
    refine r_iload (pc := 3) h 0 d_M_hangsOn_3 rfl ?_
    refine r_sipush (pc := 5) h (v := nI 1024) d_M_hangsOn_5 (by decide) ?_
    refine r_iload_n (pc := 8) h 3 d_M_hangsOn_8 rfl rfl ?_
    refine r_ishr (pc := 9) h (z := nI (2 ^ (10 - k))) d_M_hangsOn_9 (by rw [nx_shr (by decide) (by omega), sh10 k (by omega)]) ?_
    refine r_icmp_ge_f (pc := 10) h (tgt := 52) d_M_hangsOn_10 (by decide) (nI_ge hN (Nat.lt_of_le_of_lt (pw_k k hk).2.1 (by decide))) ?_
    refine r_aload_n (pc := 13) h 1 d_M_hangsOn_13 rfl rfl ?_
    refine r_get (pc := 14) h 0 1 d_M_hangsOn_14 mw_0 rfl (by decide) in_M (List.mem_cons_of_mem _ w_354) rfl ?_
    refine r_iload_n (pc := 17) h 2 d_M_hangsOn_17 rfl rfl ?_
    refine r_aaload (pc := 18) h 1 4 r d_M_hangsOn_18 mw_1 rfl rfl rfl hr0 (by decide) (mw_o hr0) ?_
    refine r_iload_n (pc := 19) h 4 d_M_hangsOn_19 rfl rfl ?_
    refine r_iload (pc := 20) h 0 d_M_hangsOn_20 rfl ?_
    refine r_iload_n (pc := 22) h 3 d_M_hangsOn_22 rfl rfl ?_
    refine r_ishl (pc := 23) h (z := nI (n * 2 ^ k)) d_M_hangsOn_23 (nx_shl (by omega) (mk_lt2 hk hN)) ?_
    refine r_iadd (pc := 24) h (z := nI (v + n * 2 ^ k)) d_M_hangsOn_24 (nI_add _ _) ?_
    refine r_baload (pc := 25) h (5 + r) (z := bI (rg r (v + n * 2 ^ k))) (v + n * 2 ^ k) d_M_hangsOn_25 (mw_r hr0) rfl (ix_lt hk hv hN) (by decide) rfl ?_
    refine r_aload_n (pc := 26) h 1 d_M_hangsOn_26 rfl rfl ?_
    refine r_get (pc := 27) h 0 1 d_M_hangsOn_27 mw_0 rfl (by decide) in_M (List.mem_cons_of_mem _ w_354) rfl ?_
    refine r_iload_n (pc := 30) h 2 d_M_hangsOn_30 rfl rfl ?_
    refine r_aaload (pc := 31) h 1 4 r d_M_hangsOn_31 mw_1 rfl rfl rfl hr0 (by decide) (mw_o hr0) ?_
    refine r_iload_n (pc := 32) h 4 d_M_hangsOn_32 rfl rfl ?_
    refine r_iload (pc := 33) h 0 d_M_hangsOn_33 rfl ?_
    refine r_iconst (pc := 35) h (v := nI 1) d_M_hangsOn_35 (by decide) ?_
    refine r_ixor (pc := 36) h (z := nI (n ^^^ 1)) d_M_hangsOn_36 (nx_xor _ _) ?_
    refine r_iload_n (pc := 37) h 3 d_M_hangsOn_37 rfl rfl ?_
    refine r_ishl (pc := 38) h (z := nI ((n ^^^ 1) * 2 ^ k)) d_M_hangsOn_38 (nx_shl (by omega) (mk_lt2 hk (x1_lt hk hN))) ?_
    refine r_iadd (pc := 39) h (z := nI (v + (n ^^^ 1) * 2 ^ k)) d_M_hangsOn_39 (nI_add _ _) ?_
    refine r_baload (pc := 40) h (5 + r) (z := bI (rg r (v + (n ^^^ 1) * 2 ^ k))) (v + (n ^^^ 1) * 2 ^ k) d_M_hangsOn_40 (mw_r hr0) rfl (ix_lt hk hv (x1_lt hk hN)) (by decide) rfl ?_
    refine r_icmp_eq_f (pc := 41) h (tgt := 46) d_M_hangsOn_41 (by decide) (fun z => hne (bI_inj.mp z)) ?_
    refine r_iconst (pc := 44) h (v := bI true) d_M_hangsOn_44 (by decide) ?_
    exact r_zret (pc := 45) h hr (bI_nrw _) d_M_hangsOn_45
  · intro i hi ih
    have ih : Wv p l e _ s m _ below meth c G A _ _ _ _ (mw G b th rg wk fi fa) 3 [(4, .int (nI (i + 1))), (0, .ref (b 0)), (1, .int (nI r)), (2, .int (nI k)), (3, .int (nI v))] [] := ih
    show Wv p l e _ s m _ below meth c G A _ _ _ _ (mw G b th rg wk fi fa) 3 [(4, .int (nI i)), (0, .ref (b 0)), (1, .int (nI r)), (2, .int (nI k)), (3, .int (nI v))] []
    refine r_iload (pc := 3) h 0 d_M_hangsOn_3 rfl ?_
    refine r_sipush (pc := 5) h (v := nI 1024) d_M_hangsOn_5 (by decide) ?_
    refine r_iload_n (pc := 8) h 3 d_M_hangsOn_8 rfl rfl ?_
    refine r_ishr (pc := 9) h (z := nI (2 ^ (10 - k))) d_M_hangsOn_9 (by rw [nx_shr (by decide) (by omega), sh10 k (by omega)]) ?_
    refine r_icmp_ge_f (pc := 10) h (tgt := 52) d_M_hangsOn_10 (by decide) (nI_ge (Nat.lt_trans hi hN) (Nat.lt_of_le_of_lt (pw_k k hk).2.1 (by decide))) ?_
    refine r_aload_n (pc := 13) h 1 d_M_hangsOn_13 rfl rfl ?_
    refine r_get (pc := 14) h 0 1 d_M_hangsOn_14 mw_0 rfl (by decide) in_M (List.mem_cons_of_mem _ w_354) rfl ?_
    refine r_iload_n (pc := 17) h 2 d_M_hangsOn_17 rfl rfl ?_
    refine r_aaload (pc := 18) h 1 4 r d_M_hangsOn_18 mw_1 rfl rfl rfl hr0 (by decide) (mw_o hr0) ?_
    refine r_iload_n (pc := 19) h 4 d_M_hangsOn_19 rfl rfl ?_
    refine r_iload (pc := 20) h 0 d_M_hangsOn_20 rfl ?_
    refine r_iload_n (pc := 22) h 3 d_M_hangsOn_22 rfl rfl ?_
    refine r_ishl (pc := 23) h (z := nI (i * 2 ^ k)) d_M_hangsOn_23 (nx_shl (by omega) (mk_lt2 hk (Nat.lt_trans hi hN))) ?_
    refine r_iadd (pc := 24) h (z := nI (v + i * 2 ^ k)) d_M_hangsOn_24 (nI_add _ _) ?_
    refine r_baload (pc := 25) h (5 + r) (z := bI (rg r (v + i * 2 ^ k))) (v + i * 2 ^ k) d_M_hangsOn_25 (mw_r hr0) rfl (ix_lt hk hv (Nat.lt_trans hi hN)) (by decide) rfl ?_
    refine r_aload_n (pc := 26) h 1 d_M_hangsOn_26 rfl rfl ?_
    refine r_get (pc := 27) h 0 1 d_M_hangsOn_27 mw_0 rfl (by decide) in_M (List.mem_cons_of_mem _ w_354) rfl ?_
    refine r_iload_n (pc := 30) h 2 d_M_hangsOn_30 rfl rfl ?_
    refine r_aaload (pc := 31) h 1 4 r d_M_hangsOn_31 mw_1 rfl rfl rfl hr0 (by decide) (mw_o hr0) ?_
    refine r_iload_n (pc := 32) h 4 d_M_hangsOn_32 rfl rfl ?_
    refine r_iload (pc := 33) h 0 d_M_hangsOn_33 rfl ?_
    refine r_iconst (pc := 35) h (v := nI 1) d_M_hangsOn_35 (by decide) ?_
    refine r_ixor (pc := 36) h (z := nI (i ^^^ 1)) d_M_hangsOn_36 (nx_xor _ _) ?_
    refine r_iload_n (pc := 37) h 3 d_M_hangsOn_37 rfl rfl ?_
    refine r_ishl (pc := 38) h (z := nI ((i ^^^ 1) * 2 ^ k)) d_M_hangsOn_38 (nx_shl (by omega) (mk_lt2 hk (x1_lt hk (Nat.lt_trans hi hN)))) ?_
    refine r_iadd (pc := 39) h (z := nI (v + (i ^^^ 1) * 2 ^ k)) d_M_hangsOn_39 (nI_add _ _) ?_
    refine r_baload (pc := 40) h (5 + r) (z := bI (rg r (v + (i ^^^ 1) * 2 ^ k))) (v + (i ^^^ 1) * 2 ^ k) d_M_hangsOn_40 (mw_r hr0) rfl (ix_lt hk hv (x1_lt hk (Nat.lt_trans hi hN))) (by decide) rfl ?_
    refine r_icmp_eq_t (pc := 41) h (tgt := 46) d_M_hangsOn_41 (by decide) (by rw [hn i hi]) ?_
    refine r_iinc (pc := 46) h (v := nI (i + 1)) (lv' := [(4, .int (nI (i + 1))), (0, .ref (b 0)), (1, .int (nI r)), (2, .int (nI k)), (3, .int (nI v))]) 0 d_M_hangsOn_46 rfl (nI_inc i) (by decide) rfl ?_
    refine r_goto (pc := 49) h (tgt := 3) d_M_hangsOn_49 (by decide) ?_
    exact ih
theorem m_hangsOn (r k v : Nat) (hr0 : r < 16) (hk : k < 10) (hv : v < 2 ^ k) : Ct l y_M_hangsOn (.code y_M_hangsOn b_M_hangsOn 5 (some .boolean) :: TT) (rmF 0 0) G [.ref (b 0), .int (nI r), .int (nI k), .int (nI v)] (mw G b th rg wk fi fa) (some (.int (bI (hoB (rg r) k v)))) (mw G b th rg wk fi fa) := by
  by_cases h : dep (rg r) k v
  · rw [show hoB (rg r) k v = true from bD_t h]
    obtain ⟨n, ⟨h1, h2⟩, h3⟩ := pk_least _ h
    exact m_hangsOn_t r k v hr0 hk hv n h1 (fun i hi => Classical.byContradiction (fun z => h3 i hi ⟨Nat.lt_trans hi h1, z⟩)) h2
  · rw [show hoB (rg r) k v = false from bD_f h]
    exact m_hangsOn_f r k v hr0 hk hv (fun i hi => Classical.byContradiction (fun z => h ⟨i, hi, z⟩))
theorem m_alike_t (r v q o k : Nat) (hr0 : r < 16) (hv : v < 2 ^ k) (hs0 : q < 16) (ho : o < 2 ^ k) (hk : k < 10) (hn : ∀ i, i < 2 ^ (10 - k) → rg r (v + i * 2 ^ k) = rg q (o + i * 2 ^ k)) : Ct l y_M_alike (.code y_M_alike b_M_alike 7 (some .boolean) :: TT) (rmF 0 0) G [.ref (b 0), .int (nI r), .int (nI v), .int (nI q), .int (nI o), .int (nI k)] (mw G b th rg wk fi fa) (some (.int (bI true))) (mw G b th rg wk fi fa) := by
  refine ct_intro (cc := b_M_alike) (nL := 7) (by decide) [(0, .ref (b 0)), (1, .int (nI r)), (2, .int (nI v)), (3, .int (nI q)), (4, .int (nI o)), (5, .int (nI k))] rfl (Nat.le_of_ble_eq_true rfl) ?_
  intro p e s m below meth c A h hr
  refine r_iconst (pc := 0) h (v := nI 0) d_M_alike_0 (by decide) ?_
  refine r_istore (pc := 1) h (lv' := [(6, .int (nI 0)), (0, .ref (b 0)), (1, .int (nI r)), (2, .int (nI v)), (3, .int (nI q)), (4, .int (nI o)), (5, .int (nI k))]) d_M_alike_1 (by decide) rfl ?_
  refine Wv.loop (2 ^ (10 - k)) (fun i => (mw G b th rg wk fi fa)) (fun i => [(6, .int (nI i)), (0, .ref (b 0)), (1, .int (nI r)), (2, .int (nI v)), (3, .int (nI q)), (4, .int (nI o)), (5, .int (nI k))]) ?_ ?_
  · show Wv p l e _ s m _ below meth c G A _ _ _ _ (mw G b th rg wk fi fa) 3 [(6, .int (nI (2 ^ (10 - k)))), (0, .ref (b 0)), (1, .int (nI r)), (2, .int (nI v)), (3, .int (nI q)), (4, .int (nI o)), (5, .int (nI k))] []
    refine r_iload (pc := 3) h 0 d_M_alike_3 rfl ?_
    refine r_sipush (pc := 5) h (v := nI 1024) d_M_alike_5 (by decide) ?_
    refine r_iload (pc := 8) h 6 d_M_alike_8 rfl ?_
    refine r_ishr (pc := 10) h (z := nI (2 ^ (10 - k))) d_M_alike_10 (by rw [nx_shr (by decide) (by omega), sh10 k (by omega)]) ?_
    refine r_icmp_ge_t (pc := 11) h (tgt := 54) d_M_alike_11 (by decide) (nI_le (Nat.le_refl _) (Nat.lt_of_le_of_lt (pw_k k hk).2.1 (by decide))) ?_
    refine r_iconst (pc := 54) h (v := bI true) d_M_alike_54 (by decide) ?_
    exact r_zret (pc := 55) h hr (bI_nrw _) d_M_alike_55
  · intro i hi ih
    have ih : Wv p l e _ s m _ below meth c G A _ _ _ _ (mw G b th rg wk fi fa) 3 [(6, .int (nI (i + 1))), (0, .ref (b 0)), (1, .int (nI r)), (2, .int (nI v)), (3, .int (nI q)), (4, .int (nI o)), (5, .int (nI k))] [] := ih
    show Wv p l e _ s m _ below meth c G A _ _ _ _ (mw G b th rg wk fi fa) 3 [(6, .int (nI i)), (0, .ref (b 0)), (1, .int (nI r)), (2, .int (nI v)), (3, .int (nI q)), (4, .int (nI o)), (5, .int (nI k))] []
    refine r_iload (pc := 3) h 0 d_M_alike_3 rfl ?_
    refine r_sipush (pc := 5) h (v := nI 1024) d_M_alike_5 (by decide) ?_
    refine r_iload (pc := 8) h 6 d_M_alike_8 rfl ?_
    refine r_ishr (pc := 10) h (z := nI (2 ^ (10 - k))) d_M_alike_10 (by rw [nx_shr (by decide) (by omega), sh10 k (by omega)]) ?_
    refine r_icmp_ge_f (pc := 11) h (tgt := 54) d_M_alike_11 (by decide) (nI_ge hi (Nat.lt_of_le_of_lt (pw_k k hk).2.1 (by decide))) ?_
    refine r_aload_n (pc := 14) h 1 d_M_alike_14 rfl rfl ?_
    refine r_get (pc := 15) h 0 1 d_M_alike_15 mw_0 rfl (by decide) in_M (List.mem_cons_of_mem _ w_354) rfl ?_
    refine r_iload_n (pc := 18) h 2 d_M_alike_18 rfl rfl ?_
    refine r_aaload (pc := 19) h 1 4 r d_M_alike_19 mw_1 rfl rfl rfl hr0 (by decide) (mw_o hr0) ?_
    refine r_iload_n (pc := 20) h 3 d_M_alike_20 rfl rfl ?_
    refine r_iload (pc := 21) h 0 d_M_alike_21 rfl ?_
    refine r_iload (pc := 23) h 6 d_M_alike_23 rfl ?_
    refine r_ishl (pc := 25) h (z := nI (i * 2 ^ k)) d_M_alike_25 (nx_shl (by omega) (mk_lt2 hk hi)) ?_
    refine r_iadd (pc := 26) h (z := nI (v + i * 2 ^ k)) d_M_alike_26 (nI_add _ _) ?_
    refine r_baload (pc := 27) h (5 + r) (z := bI (rg r (v + i * 2 ^ k))) (v + i * 2 ^ k) d_M_alike_27 (mw_r hr0) rfl (ix_lt hk hv hi) (by decide) rfl ?_
    refine r_aload_n (pc := 28) h 1 d_M_alike_28 rfl rfl ?_
    refine r_get (pc := 29) h 0 1 d_M_alike_29 mw_0 rfl (by decide) in_M (List.mem_cons_of_mem _ w_354) rfl ?_
    refine r_iload_n (pc := 32) h 4 d_M_alike_32 rfl rfl ?_
    refine r_aaload (pc := 33) h 1 4 q d_M_alike_33 mw_1 rfl rfl rfl hs0 (by decide) (mw_o hs0) ?_
    refine r_iload (pc := 34) h 5 d_M_alike_34 rfl ?_
    refine r_iload (pc := 36) h 0 d_M_alike_36 rfl ?_
    refine r_iload (pc := 38) h 6 d_M_alike_38 rfl ?_
    refine r_ishl (pc := 40) h (z := nI (i * 2 ^ k)) d_M_alike_40 (nx_shl (by omega) (mk_lt2 hk hi)) ?_
    refine r_iadd (pc := 41) h (z := nI (o + i * 2 ^ k)) d_M_alike_41 (nI_add _ _) ?_
    refine r_baload (pc := 42) h (5 + q) (z := bI (rg q (o + i * 2 ^ k))) (o + i * 2 ^ k) d_M_alike_42 (mw_r hs0) rfl (ix_lt hk ho hi) (by decide) rfl ?_
    refine r_icmp_eq_t (pc := 43) h (tgt := 48) d_M_alike_43 (by decide) (by rw [hn i hi]) ?_
    refine r_iinc (pc := 48) h (v := nI (i + 1)) (lv' := [(6, .int (nI (i + 1))), (0, .ref (b 0)), (1, .int (nI r)), (2, .int (nI v)), (3, .int (nI q)), (4, .int (nI o)), (5, .int (nI k))]) 0 d_M_alike_48 rfl (nI_inc i) (by decide) rfl ?_
    refine r_goto (pc := 51) h (tgt := 3) d_M_alike_51 (by decide) ?_
    exact ih
theorem m_alike_f (r v q o k : Nat) (hr0 : r < 16) (hv : v < 2 ^ k) (hs0 : q < 16) (ho : o < 2 ^ k) (hk : k < 10) (n : Nat) (hN : n < 2 ^ (10 - k)) (hn : ∀ i, i < n → rg r (v + i * 2 ^ k) = rg q (o + i * 2 ^ k)) (hne : rg r (v + n * 2 ^ k) ≠ rg q (o + n * 2 ^ k)) : Ct l y_M_alike (.code y_M_alike b_M_alike 7 (some .boolean) :: TT) (rmF 0 0) G [.ref (b 0), .int (nI r), .int (nI v), .int (nI q), .int (nI o), .int (nI k)] (mw G b th rg wk fi fa) (some (.int (bI false))) (mw G b th rg wk fi fa) := by
  refine ct_intro (cc := b_M_alike) (nL := 7) (by decide) [(0, .ref (b 0)), (1, .int (nI r)), (2, .int (nI v)), (3, .int (nI q)), (4, .int (nI o)), (5, .int (nI k))] rfl (Nat.le_of_ble_eq_true rfl) ?_
  intro p e s m below meth c A h hr
  refine r_iconst (pc := 0) h (v := nI 0) d_M_alike_0 (by decide) ?_
  refine r_istore (pc := 1) h (lv' := [(6, .int (nI 0)), (0, .ref (b 0)), (1, .int (nI r)), (2, .int (nI v)), (3, .int (nI q)), (4, .int (nI o)), (5, .int (nI k))]) d_M_alike_1 (by decide) rfl ?_
  refine Wv.loop n (fun i => (mw G b th rg wk fi fa)) (fun i => [(6, .int (nI i)), (0, .ref (b 0)), (1, .int (nI r)), (2, .int (nI v)), (3, .int (nI q)), (4, .int (nI o)), (5, .int (nI k))]) ?_ ?_
  · show Wv p l e _ s m _ below meth c G A _ _ _ _ (mw G b th rg wk fi fa) 3 [(6, .int (nI n)), (0, .ref (b 0)), (1, .int (nI r)), (2, .int (nI v)), (3, .int (nI q)), (4, .int (nI o)), (5, .int (nI k))] []
    refine r_iload (pc := 3) h 0 d_M_alike_3 rfl ?_
    refine r_sipush (pc := 5) h (v := nI 1024) d_M_alike_5 (by decide) ?_
    refine r_iload (pc := 8) h 6 d_M_alike_8 rfl ?_
    refine r_ishr (pc := 10) h (z := nI (2 ^ (10 - k))) d_M_alike_10 (by rw [nx_shr (by decide) (by omega), sh10 k (by omega)]) ?_
    refine r_icmp_ge_f (pc := 11) h (tgt := 54) d_M_alike_11 (by decide) (nI_ge hN (Nat.lt_of_le_of_lt (pw_k k hk).2.1 (by decide))) ?_
    refine r_aload_n (pc := 14) h 1 d_M_alike_14 rfl rfl ?_
    refine r_get (pc := 15) h 0 1 d_M_alike_15 mw_0 rfl (by decide) in_M (List.mem_cons_of_mem _ w_354) rfl ?_
    refine r_iload_n (pc := 18) h 2 d_M_alike_18 rfl rfl ?_
    refine r_aaload (pc := 19) h 1 4 r d_M_alike_19 mw_1 rfl rfl rfl hr0 (by decide) (mw_o hr0) ?_
    refine r_iload_n (pc := 20) h 3 d_M_alike_20 rfl rfl ?_
    refine r_iload (pc := 21) h 0 d_M_alike_21 rfl ?_
    refine r_iload (pc := 23) h 6 d_M_alike_23 rfl ?_
    refine r_ishl (pc := 25) h (z := nI (n * 2 ^ k)) d_M_alike_25 (nx_shl (by omega) (mk_lt2 hk hN)) ?_
    refine r_iadd (pc := 26) h (z := nI (v + n * 2 ^ k)) d_M_alike_26 (nI_add _ _) ?_
    refine r_baload (pc := 27) h (5 + r) (z := bI (rg r (v + n * 2 ^ k))) (v + n * 2 ^ k) d_M_alike_27 (mw_r hr0) rfl (ix_lt hk hv hN) (by decide) rfl ?_
    refine r_aload_n (pc := 28) h 1 d_M_alike_28 rfl rfl ?_
    refine r_get (pc := 29) h 0 1 d_M_alike_29 mw_0 rfl (by decide) in_M (List.mem_cons_of_mem _ w_354) rfl ?_
    refine r_iload_n (pc := 32) h 4 d_M_alike_32 rfl rfl ?_
    refine r_aaload (pc := 33) h 1 4 q d_M_alike_33 mw_1 rfl rfl rfl hs0 (by decide) (mw_o hs0) ?_
    refine r_iload (pc := 34) h 5 d_M_alike_34 rfl ?_
    refine r_iload (pc := 36) h 0 d_M_alike_36 rfl ?_
    refine r_iload (pc := 38) h 6 d_M_alike_38 rfl ?_
    refine r_ishl (pc := 40) h (z := nI (n * 2 ^ k)) d_M_alike_40 (nx_shl (by omega) (mk_lt2 hk hN)) ?_
    refine r_iadd (pc := 41) h (z := nI (o + n * 2 ^ k)) d_M_alike_41 (nI_add _ _) ?_
    refine r_baload (pc := 42) h (5 + q) (z := bI (rg q (o + n * 2 ^ k))) (o + n * 2 ^ k) d_M_alike_42 (mw_r hs0) rfl (ix_lt hk ho hN) (by decide) rfl ?_
    refine r_icmp_eq_f (pc := 43) h (tgt := 48) d_M_alike_43 (by decide) (fun z => hne (bI_inj.mp z)) ?_
    refine r_iconst (pc := 46) h (v := bI false) d_M_alike_46 (by decide) ?_
    exact r_zret (pc := 47) h hr (bI_nrw _) d_M_alike_47
  · intro i hi ih
    have ih : Wv p l e _ s m _ below meth c G A _ _ _ _ (mw G b th rg wk fi fa) 3 [(6, .int (nI (i + 1))), (0, .ref (b 0)), (1, .int (nI r)), (2, .int (nI v)), (3, .int (nI q)), (4, .int (nI o)), (5, .int (nI k))] [] := ih
    show Wv p l e _ s m _ below meth c G A _ _ _ _ (mw G b th rg wk fi fa) 3 [(6, .int (nI i)), (0, .ref (b 0)), (1, .int (nI r)), (2, .int (nI v)), (3, .int (nI q)), (4, .int (nI o)), (5, .int (nI k))] []
    refine r_iload (pc := 3) h 0 d_M_alike_3 rfl ?_
    refine r_sipush (pc := 5) h (v := nI 1024) d_M_alike_5 (by decide) ?_
    refine r_iload (pc := 8) h 6 d_M_alike_8 rfl ?_
    refine r_ishr (pc := 10) h (z := nI (2 ^ (10 - k))) d_M_alike_10 (by rw [nx_shr (by decide) (by omega), sh10 k (by omega)]) ?_
    refine r_icmp_ge_f (pc := 11) h (tgt := 54) d_M_alike_11 (by decide) (nI_ge (Nat.lt_trans hi hN) (Nat.lt_of_le_of_lt (pw_k k hk).2.1 (by decide))) ?_
    refine r_aload_n (pc := 14) h 1 d_M_alike_14 rfl rfl ?_
    refine r_get (pc := 15) h 0 1 d_M_alike_15 mw_0 rfl (by decide) in_M (List.mem_cons_of_mem _ w_354) rfl ?_
    refine r_iload_n (pc := 18) h 2 d_M_alike_18 rfl rfl ?_
    refine r_aaload (pc := 19) h 1 4 r d_M_alike_19 mw_1 rfl rfl rfl hr0 (by decide) (mw_o hr0) ?_
    refine r_iload_n (pc := 20) h 3 d_M_alike_20 rfl rfl ?_
    refine r_iload (pc := 21) h 0 d_M_alike_21 rfl ?_
    refine r_iload (pc := 23) h 6 d_M_alike_23 rfl ?_
    refine r_ishl (pc := 25) h (z := nI (i * 2 ^ k)) d_M_alike_25 (nx_shl (by omega) (mk_lt2 hk (Nat.lt_trans hi hN))) ?_
    refine r_iadd (pc := 26) h (z := nI (v + i * 2 ^ k)) d_M_alike_26 (nI_add _ _) ?_
    refine r_baload (pc := 27) h (5 + r) (z := bI (rg r (v + i * 2 ^ k))) (v + i * 2 ^ k) d_M_alike_27 (mw_r hr0) rfl (ix_lt hk hv (Nat.lt_trans hi hN)) (by decide) rfl ?_
    refine r_aload_n (pc := 28) h 1 d_M_alike_28 rfl rfl ?_
    refine r_get (pc := 29) h 0 1 d_M_alike_29 mw_0 rfl (by decide) in_M (List.mem_cons_of_mem _ w_354) rfl ?_
    refine r_iload_n (pc := 32) h 4 d_M_alike_32 rfl rfl ?_
    refine r_aaload (pc := 33) h 1 4 q d_M_alike_33 mw_1 rfl rfl rfl hs0 (by decide) (mw_o hs0) ?_
    refine r_iload (pc := 34) h 5 d_M_alike_34 rfl ?_
    refine r_iload (pc := 36) h 0 d_M_alike_36 rfl ?_
    refine r_iload (pc := 38) h 6 d_M_alike_38 rfl ?_
    refine r_ishl (pc := 40) h (z := nI (i * 2 ^ k)) d_M_alike_40 (nx_shl (by omega) (mk_lt2 hk (Nat.lt_trans hi hN))) ?_
    refine r_iadd (pc := 41) h (z := nI (o + i * 2 ^ k)) d_M_alike_41 (nI_add _ _) ?_
    refine r_baload (pc := 42) h (5 + q) (z := bI (rg q (o + i * 2 ^ k))) (o + i * 2 ^ k) d_M_alike_42 (mw_r hs0) rfl (ix_lt hk ho (Nat.lt_trans hi hN)) (by decide) rfl ?_
    refine r_icmp_eq_t (pc := 43) h (tgt := 48) d_M_alike_43 (by decide) (by rw [hn i hi]) ?_
    refine r_iinc (pc := 48) h (v := nI (i + 1)) (lv' := [(6, .int (nI (i + 1))), (0, .ref (b 0)), (1, .int (nI r)), (2, .int (nI v)), (3, .int (nI q)), (4, .int (nI o)), (5, .int (nI k))]) 0 d_M_alike_48 rfl (nI_inc i) (by decide) rfl ?_
    refine r_goto (pc := 51) h (tgt := 3) d_M_alike_51 (by decide) ?_
    exact ih
theorem m_alike (r v q o k : Nat) (hr0 : r < 16) (hv : v < 2 ^ k) (hs0 : q < 16) (ho : o < 2 ^ k) (hk : k < 10) : Ct l y_M_alike (.code y_M_alike b_M_alike 7 (some .boolean) :: TT) (rmF 0 0) G [.ref (b 0), .int (nI r), .int (nI v), .int (nI q), .int (nI o), .int (nI k)] (mw G b th rg wk fi fa) (some (.int (bI (bD (pcode (9 - k) (subf (rg r) k v) = pcode (9 - k) (subf (rg q) k o)))))) (mw G b th rg wk fi fa) := by
  rw [bD_c (pcode_sub hk)]
  by_cases h : ∀ i, i < 2 ^ (10 - k) → rg r (v + i * 2 ^ k) = rg q (o + i * 2 ^ k)
  · rw [bD_t h]
    exact m_alike_t r v q o k hr0 hv hs0 ho hk h
  · rw [bD_f h]
    have hex : ∃ n, n < 2 ^ (10 - k) ∧ rg r (v + n * 2 ^ k) ≠ rg q (o + n * 2 ^ k) := Classical.byContradiction (fun z => h (fun i hi => Classical.byContradiction (fun y => z ⟨i, hi, y⟩)))
    obtain ⟨n, ⟨g1, g2⟩, g3⟩ := pk_least _ hex
    exact m_alike_f r v q o k hr0 hv hs0 ho hk n g1 (fun i hi => Classical.byContradiction (fun z => g3 i hi ⟨Nat.lt_trans hi g1, z⟩)) g2
theorem PK_s {S : Nat → Nat → Bool} {fr r k : Nat} {c : Nat × List Bool} : PK S fr r (k + 1) c ↔ PK S fr r k c ∨ PL S fr r k c := by
  constructor
  · rintro ⟨k', h1, h2⟩
    by_cases e : k' = k
    · subst e; exact Or.inr h2
    · exact Or.inl ⟨k', by omega, h2⟩
  · rintro (⟨k', h1, h2⟩ | h)
    · exact ⟨k', by omega, h2⟩
    · exact ⟨k, by omega, h⟩
theorem PL_s {S : Nat → Nat → Bool} {fr r k : Nat} {c : Nat × List Bool} (hr : fr ≤ r) : PL S fr (r + 1) k c ↔ PL S fr r k c ∨ PV S r k (2 ^ k) c := by
  constructor
  · rintro ⟨r', v, h1, h2, h3, h4, h5⟩
    by_cases e : r' = r
    · subst e; exact Or.inr ⟨v, h3, h4, h5⟩
    · exact Or.inl ⟨r', v, h1, by omega, h3, h4, h5⟩
  · rintro (⟨r', v, h1, h2, h3, h4, h5⟩ | ⟨v, h3, h4, h5⟩)
    · exact ⟨r', v, h1, by omega, h3, h4, h5⟩
    · exact ⟨r, v, hr, by omega, h3, h4, h5⟩
theorem PV_s {S : Nat → Nat → Bool} {r k v : Nat} {c : Nat × List Bool} : PV S r k (v + 1) c ↔ PV S r k v c ∨ (dep (S r) k v ∧ c = pcode (9 - k) (subf (S r) k v)) := by
  constructor
  · rintro ⟨v', h1, h2, h3⟩
    by_cases e : v' = v
    · subst e; exact Or.inr ⟨h2, h3⟩
    · exact Or.inl ⟨v', by omega, h2, h3⟩
  · rintro (⟨v', h1, h2, h3⟩ | ⟨h2, h3⟩)
    · exact ⟨v', by omega, h2, h3⟩
    · exact ⟨v, by omega, h2, h3⟩
theorem PL_0 {S : Nat → Nat → Bool} {fr k : Nat} {c : Nat × List Bool} : ¬ PL S fr fr k c := fun ⟨_, _, h1, h2, _⟩ => by omega
theorem PV_0 {S : Nat → Nat → Bool} {r k : Nat} {c : Nat × List Bool} : ¬ PV S r k 0 c := fun ⟨_, h1, _⟩ => by omega
theorem PK_0 {S : Nat → Nat → Bool} {fr r : Nat} {c : Nat × List Bool} : ¬ PK S fr r 0 c := fun ⟨_, h1, _⟩ => by omega
theorem PL_fst {S : Nat → Nat → Bool} {fr r k : Nat} {c : Nat × List Bool} (h : PL S fr r k c) : c.1 = 9 - k := by
  obtain ⟨_, _, _, _, _, _, e⟩ := h
  rw [e]; rfl
theorem nd_app {l l' : List (Nat × List Bool)} (h : l.Nodup) (h' : l'.Nodup) (hd : ∀ a, a ∈ l → a ∈ l' → False) : (l ++ l').Nodup :=
  List.nodup_append.mpr ⟨h, h', fun a ha b hb e => hd a ha (e ▸ hb)⟩
theorem m_count (fr to : Nat) (hft : fr ≤ to) (ht : to ≤ 16) : Cp l y_M_count (.code y_M_count b_M_count 9 (some .int) :: TT) (rmF 1 26) G [.ref (b 0), .int (nI fr), .int (nI to)] (mw G b th rg wk fi fa) (fun v ws' => ∃ (fi' fa' : Nat → Int32) (L : List (Nat × List Bool)), ws' = mw G b th rg wk fi' fa' ∧ L.Nodup ∧ (∀ c, c ∈ L ↔ PK rg fr to 10 c) ∧ v = some (.int (nI L.length))) := by
  refine cp_intro (cc := b_M_count) (nL := 9) (by decide) [(0, .ref (b 0)), (1, .int (nI fr)), (2, .int (nI to))] rfl (Nat.le_of_ble_eq_true rfl) ?_
  intro p e s m below meth c A h hr
  refine r_iconst (pc := 0) h (v := nI ([] : List (Nat × List Bool)).length) d_M_count_0 rfl ?_
  refine r_istore_n (pc := 1) h (lv' := [(3, .int (nI ([] : List (Nat × List Bool)).length)), (0, .ref (b 0)), (1, .int (nI fr)), (2, .int (nI to))]) d_M_count_1 rfl (by decide) rfl ?_
  refine r_iconst (pc := 2) h (v := nI 0) d_M_count_2 (by decide) ?_
  refine r_istore (pc := 3) h (lv' := [(4, .int (nI 0)), (3, .int (nI ([] : List (Nat × List Bool)).length)), (0, .ref (b 0)), (1, .int (nI fr)), (2, .int (nI to))]) d_M_count_3 (by decide) rfl ?_
  refine Wv.loopR 0 10 (fun k (x : List (Nat × List Bool) × (Nat → Int32) × (Nat → Int32)) => x.1.Nodup ∧ ∀ c, c ∈ x.1 ↔ PK rg fr to k c) (fun k x => (mw G b th rg wk x.2.1 x.2.2)) (fun k x => [(4, .int (nI k)), (3, .int (nI x.1.length)), (0, .ref (b 0)), (1, .int (nI fr)), (2, .int (nI to))]) ?_ ?_ ([], fi, fa) (by decide) ⟨List.nodup_nil, fun c => ⟨fun h => absurd h (by simp), fun h => absurd h PK_0⟩⟩
  · rintro ⟨RL, fi, fa⟩ ⟨hn, hm⟩
    show Wv p l e _ s m _ below meth c G A _ _ _ _ (mw G b th rg wk fi fa) 5 [(4, .int (nI 10)), (3, .int (nI RL.length)), (0, .ref (b 0)), (1, .int (nI fr)), (2, .int (nI to))] []
    refine r_iload (pc := 5) h 0 d_M_count_5 rfl ?_
    refine r_bipush (pc := 7) h (v := nI 10) d_M_count_7 (by decide) ?_
    refine r_icmp_ge_t (pc := 9) h (tgt := 149) d_M_count_9 (by decide) (nI_le (Nat.le_refl _) (by decide)) ?_
    refine r_iload_n (pc := 149) h 1 d_M_count_149 rfl rfl ?_
    exact r_iretP (pc := 150) h hr ⟨fi, fa, RL, rfl, hn, hm, rfl⟩ d_M_count_150
  · rintro k ⟨RL, fi, fa⟩ hk ⟨hn, hm⟩ ihk
    show Wv p l e _ s m _ below meth c G A _ _ _ _ (mw G b th rg wk fi fa) 5 [(4, .int (nI k)), (3, .int (nI RL.length)), (0, .ref (b 0)), (1, .int (nI fr)), (2, .int (nI to))] []
    dsimp only at hn hm
    refine r_iload (pc := 5) h 0 d_M_count_5 rfl ?_
    refine r_bipush (pc := 7) h (v := nI 10) d_M_count_7 (by decide) ?_
    refine r_icmp_ge_f (pc := 9) h (tgt := 149) d_M_count_9 (by decide) (nI_ge hk (by decide)) ?_
    refine r_iconst (pc := 12) h (v := nI ([] : List (Nat × List Bool)).length) d_M_count_12 rfl ?_
    refine r_istore (pc := 13) h (lv' := [(5, .int (nI ([] : List (Nat × List Bool)).length)), (4, .int (nI k)), (3, .int (nI RL.length)), (0, .ref (b 0)), (1, .int (nI fr)), (2, .int (nI to))]) d_M_count_13 (by decide) rfl ?_
    refine r_iload_n (pc := 15) h 4 d_M_count_15 rfl rfl ?_
    refine r_istore (pc := 16) h (lv' := [(6, .int (nI fr)), (5, .int (nI ([] : List (Nat × List Bool)).length)), (4, .int (nI k)), (3, .int (nI RL.length)), (0, .ref (b 0)), (1, .int (nI fr)), (2, .int (nI to))]) d_M_count_16 (by decide) rfl ?_
    refine Wv.loopR fr to (fun r (x : List (Nat × List Bool) × (Nat → Int32) × (Nat → Int32)) => fr ≤ r ∧ x.1.Nodup ∧ (∀ c, c ∈ x.1 ↔ PL rg fr r k c) ∧ Arr rg k x.1 x.2.1 x.2.2 ∧ x.1.length ≤ (r - fr) * 2 ^ k) (fun r x => (mw G b th rg wk x.2.1 x.2.2)) (fun r x => [(6, .int (nI r)), (5, .int (nI x.1.length)), (4, .int (nI k)), (3, .int (nI RL.length)), (0, .ref (b 0)), (1, .int (nI fr)), (2, .int (nI to))]) ?_ ?_ ([], fi, fa) hft ⟨Nat.le_refl _, List.nodup_nil, fun c => ⟨fun h => absurd h (by simp), fun h => absurd h PL_0⟩, fun f hf => absurd hf (by simp), Nat.zero_le _⟩
    · rintro ⟨FL, fi, fa⟩ ⟨-, hFn, hFm, hFa, hFl⟩
      dsimp only at hFn hFm
      show Wv p l e _ s m _ below meth c G A _ _ _ _ (mw G b th rg wk fi fa) 18 [(6, .int (nI to)), (5, .int (nI FL.length)), (4, .int (nI k)), (3, .int (nI RL.length)), (0, .ref (b 0)), (1, .int (nI fr)), (2, .int (nI to))] []
      refine r_iload (pc := 18) h 0 d_M_count_18 rfl ?_
      refine r_iload_n (pc := 20) h 6 d_M_count_20 rfl rfl ?_
      refine r_icmp_ge_t (pc := 21) h (tgt := 138) d_M_count_21 (by decide) (nI_le (Nat.le_refl _) (by omega)) ?_
      refine r_iload_n (pc := 138) h 3 d_M_count_138 rfl rfl ?_
      refine r_iload (pc := 139) h 1 d_M_count_139 rfl ?_
      refine r_iadd (pc := 141) h (z := nI (RL ++ FL).length) d_M_count_141 (by rw [List.length_append]; exact nI_add _ _) ?_
      refine r_istore_n (pc := 142) h (lv' := [(3, .int (nI (RL ++ FL).length)), (6, .int (nI to)), (5, .int (nI FL.length)), (4, .int (nI k)), (0, .ref (b 0)), (1, .int (nI fr)), (2, .int (nI to))]) d_M_count_142 rfl (by decide) rfl ?_
      refine r_iinc (pc := 143) h (v := nI (k + 1)) (lv' := [(4, .int (nI (k + 1))), (3, .int (nI (RL ++ FL).length)), (6, .int (nI to)), (5, .int (nI FL.length)), (0, .ref (b 0)), (1, .int (nI fr)), (2, .int (nI to))]) 3 d_M_count_143 rfl (nI_inc k) (by decide) rfl ?_
      refine r_goto (pc := 146) h (tgt := 5) d_M_count_146 (by decide) ?_
      refine Wv.sub [0, 1, 4, 5, 6] rfl ?_
      refine ihk (RL ++ FL, fi, fa) ⟨nd_app hn hFn (fun a ha hb => ?_), fun c => ?_⟩
      · obtain ⟨k', h1, h2⟩ := (hm a).mp ha
        have h3 := PL_fst h2
        have h4 := PL_fst ((hFm a).mp hb)
        omega
      · rw [List.mem_append, hm c, hFm c]
        exact PK_s.symm
    · rintro r ⟨FL, fi, fa⟩ hr1 ⟨hr, hFn, hFm, hFa, hFl⟩ ihr
      dsimp only at hFn hFm hFa hFl
      show Wv p l e _ s m _ below meth c G A _ _ _ _ (mw G b th rg wk fi fa) 18 [(6, .int (nI r)), (5, .int (nI FL.length)), (4, .int (nI k)), (3, .int (nI RL.length)), (0, .ref (b 0)), (1, .int (nI fr)), (2, .int (nI to))] []
      refine r_iload (pc := 18) h 0 d_M_count_18 rfl ?_
      refine r_iload_n (pc := 20) h 6 d_M_count_20 rfl rfl ?_
      refine r_icmp_ge_f (pc := 21) h (tgt := 138) d_M_count_21 (by decide) (nI_ge hr1 (by omega)) ?_
      refine r_iconst (pc := 24) h (v := nI 0) d_M_count_24 (by decide) ?_
      refine r_istore (pc := 25) h (lv' := [(7, .int (nI 0)), (6, .int (nI r)), (5, .int (nI FL.length)), (4, .int (nI k)), (3, .int (nI RL.length)), (0, .ref (b 0)), (1, .int (nI fr)), (2, .int (nI to))]) d_M_count_25 (by decide) rfl ?_
      refine Wv.loopR 0 (2 ^ k) (fun v (x : List (Nat × List Bool) × (Nat → Int32) × (Nat → Int32)) => x.1.Nodup ∧ (∀ c, c ∈ x.1 ↔ PL rg fr r k c ∨ PV rg r k v c) ∧ Arr rg k x.1 x.2.1 x.2.2 ∧ x.1.length ≤ (r - fr) * 2 ^ k + v) (fun v x => (mw G b th rg wk x.2.1 x.2.2)) (fun v x => [(7, .int (nI v)), (6, .int (nI r)), (5, .int (nI x.1.length)), (4, .int (nI k)), (3, .int (nI RL.length)), (0, .ref (b 0)), (1, .int (nI fr)), (2, .int (nI to))]) ?_ ?_ (FL, fi, fa) (Nat.zero_le _) ⟨hFn, fun c => (hFm c).trans ⟨fun h => Or.inl h, fun h => h.elim id (fun q => absurd q PV_0)⟩, hFa, hFl⟩
      · rintro ⟨FL, fi, fa⟩ ⟨hFn, hFm, hFa, hFl⟩
        dsimp only at hFn hFm hFa hFl
        show Wv p l e _ s m _ below meth c G A _ _ _ _ (mw G b th rg wk fi fa) 27 [(7, .int (nI (2 ^ k))), (6, .int (nI r)), (5, .int (nI FL.length)), (4, .int (nI k)), (3, .int (nI RL.length)), (0, .ref (b 0)), (1, .int (nI fr)), (2, .int (nI to))] []
        refine r_iload (pc := 27) h 0 d_M_count_27 rfl ?_
        refine r_iconst (pc := 29) h (v := nI 1) d_M_count_29 (by decide) ?_
        refine r_iload (pc := 30) h 3 d_M_count_30 rfl ?_
        refine r_ishl (pc := 32) h (z := nI (2 ^ k)) d_M_count_32 (nx_pw (by omega)) ?_
        refine r_icmp_ge_t (pc := 33) h (tgt := 132) d_M_count_33 (by decide) (nI_le (Nat.le_refl _) (Nat.lt_of_le_of_lt (pw_k k hk).1 (by decide))) ?_
        refine r_iinc (pc := 132) h (v := nI (r + 1)) (lv' := [(6, .int (nI (r + 1))), (7, .int (nI (2 ^ k))), (5, .int (nI FL.length)), (4, .int (nI k)), (3, .int (nI RL.length)), (0, .ref (b 0)), (1, .int (nI fr)), (2, .int (nI to))]) 1 d_M_count_132 rfl (nI_inc r) (by decide) rfl ?_
        refine r_goto (pc := 135) h (tgt := 18) d_M_count_135 (by decide) ?_
        refine Wv.sub [0, 2, 3, 4, 5, 6, 7] rfl ?_
        refine ihr (FL, fi, fa) ⟨Nat.le_succ_of_le hr, hFn, fun c => (hFm c).trans (PL_s hr).symm, hFa, ?_⟩
        show FL.length ≤ (r + 1 - fr) * 2 ^ k
        rw [show r + 1 - fr = r - fr + 1 by omega, Nat.add_mul, Nat.one_mul]
        exact hFl
      · rintro v ⟨FL, fi, fa⟩ hv ⟨hFn, hFm, hFa, hFl⟩ ihv
        dsimp only at hFn hFm hFa hFl
        show Wv p l e _ s m _ below meth c G A _ _ _ _ (mw G b th rg wk fi fa) 27 [(7, .int (nI v)), (6, .int (nI r)), (5, .int (nI FL.length)), (4, .int (nI k)), (3, .int (nI RL.length)), (0, .ref (b 0)), (1, .int (nI fr)), (2, .int (nI to))] []
        refine r_iload (pc := 27) h 0 d_M_count_27 rfl ?_
        refine r_iconst (pc := 29) h (v := nI 1) d_M_count_29 (by decide) ?_
        refine r_iload (pc := 30) h 3 d_M_count_30 rfl ?_
        refine r_ishl (pc := 32) h (z := nI (2 ^ k)) d_M_count_32 (nx_pw (by omega)) ?_
        refine r_icmp_ge_f (pc := 33) h (tgt := 132) d_M_count_33 (by decide) (nI_ge hv (Nat.lt_of_le_of_lt (pw_k k hk).1 (by decide))) ?_
        refine r_aload_n (pc := 36) h 5 d_M_count_36 rfl rfl ?_
        refine r_iload (pc := 37) h 1 d_M_count_37 rfl ?_
        refine r_iload (pc := 39) h 3 d_M_count_39 rfl ?_
        refine r_iload (pc := 41) h 0 d_M_count_41 rfl ?_
        refine r_invVa (pc := 43) h 0 (st := []) d_M_count_43 (m_hangsOn r k v (Nat.lt_of_lt_of_le hr1 ht) hk hv) (r_cV h wc_M_hangsOn w_458 w_3 w_460 (TT_se (q := (y_M_hangsOn, 5)) 13 rfl) hd_M_hangsOn ⟨(Nat.le_of_ble_eq_true rfl), (Nat.le_of_ble_eq_true rfl)⟩ rfl rfl) mw_0 rfl rfl rfl (Nat.le_of_ble_eq_true rfl) ⟨(Nat.le_of_ble_eq_true rfl), (Nat.le_of_ble_eq_true rfl)⟩ mw_adr ?_
        by_cases hdep : dep (rg r) k v
        · refine r_if_ne_t (pc := 46) h (tgt := 52) d_M_count_46 (by decide) (by rw [show hoB (rg r) k v = true from bD_t hdep]; decide) ?_
          refine r_iconst (pc := 52) h (v := nI 0) d_M_count_52 (by decide) ?_
          refine r_istore (pc := 53) h (lv' := [(8, .int (nI 0)), (7, .int (nI v)), (6, .int (nI r)), (5, .int (nI FL.length)), (4, .int (nI k)), (3, .int (nI RL.length)), (0, .ref (b 0)), (1, .int (nI fr)), (2, .int (nI to))]) d_M_count_53 (by decide) rfl ?_
          have hq9 : (r - fr) * 2 ^ k ≤ 15 * 512 := Nat.mul_le_mul (by omega) (pw_k k hk).1
          have hlen : FL.length ≤ 8191 := by have h9 := (pw_k k hk).1; omega
          obtain ⟨n, hn1, hn2⟩ := pk_least (fun f => f = FL.length ∨ FL[f]? = some (pcode (9 - k) (subf (rg r) k v))) ⟨FL.length, Or.inl rfl⟩
          have hnl : n ≤ FL.length := Nat.le_of_not_lt (fun z => hn2 _ z (Or.inl rfl))
          refine Wv.loop n (fun f => (mw G b th rg wk fi fa)) (fun f => [(8, .int (nI f)), (7, .int (nI v)), (6, .int (nI r)), (5, .int (nI FL.length)), (4, .int (nI k)), (3, .int (nI RL.length)), (0, .ref (b 0)), (1, .int (nI fr)), (2, .int (nI to))]) ?_ ?_
          · show Wv p l e _ s m _ below meth c G A _ _ _ _ (mw G b th rg wk fi fa) 55 [(8, .int (nI n)), (7, .int (nI v)), (6, .int (nI r)), (5, .int (nI FL.length)), (4, .int (nI k)), (3, .int (nI RL.length)), (0, .ref (b 0)), (1, .int (nI fr)), (2, .int (nI to))] []
            refine r_iload (pc := 55) h 0 d_M_count_55 rfl ?_
            refine r_iload (pc := 57) h 3 d_M_count_57 rfl ?_
            by_cases hnL : n < FL.length
            · obtain ⟨ri, vi, a1, a2, a3, a4, a5⟩ := hFa n hnL
              have hc : FL[n]? = some (pcode (9 - k) (subf (rg r) k v)) := hn1.elim (fun z => absurd z (by omega)) id
              have hold : (pcode (9 - k) (subf (rg r) k v)) ∈ FL := List.mem_of_getElem? hc
              have hal : (pcode (9 - k) (subf (rg r) k v)) = pcode (9 - k) (subf (rg ri) k vi) := Option.some.inj (hc.symm.trans a5)
              refine r_icmp_ge_f (pc := 59) h (tgt := 95) d_M_count_59 (by decide) (nI_ge hnL (Nat.lt_of_le_of_lt hlen (by decide))) ?_
              refine r_aload_n (pc := 62) h 6 d_M_count_62 rfl rfl ?_
              refine r_iload (pc := 63) h 2 d_M_count_63 rfl ?_
              refine r_iload (pc := 65) h 1 d_M_count_65 rfl ?_
              refine r_aload_n (pc := 67) h 6 d_M_count_67 rfl rfl ?_
              refine r_get (pc := 68) h 0 3 d_M_count_68 mw_0 rfl (by decide) in_M (List.mem_cons_of_mem _ w_356) rfl ?_
              refine r_iload (pc := 71) h 0 d_M_count_71 rfl ?_
              refine r_iaload (pc := 73) h 3 (z := nI ri) n d_M_count_73 mw_3 rfl (Nat.lt_of_lt_of_le hnL (Nat.le_trans hlen (by decide))) (by decide) a3 ?_
              refine r_aload_n (pc := 74) h 6 d_M_count_74 rfl rfl ?_
              refine r_get (pc := 75) h 0 4 d_M_count_75 mw_0 rfl (by decide) in_M (List.mem_cons_of_mem _ w_357) rfl ?_
              refine r_iload (pc := 78) h 0 d_M_count_78 rfl ?_
              refine r_iaload (pc := 80) h 4 (z := nI vi) n d_M_count_80 mw_4 rfl (Nat.lt_of_lt_of_le hnL (Nat.le_trans hlen (by decide))) (by decide) a4 ?_
              refine r_iload (pc := 81) h 4 d_M_count_81 rfl ?_
              refine r_invVa (pc := 83) h 0 (st := []) d_M_count_83 (m_alike r v ri vi k (Nat.lt_of_lt_of_le hr1 ht) hv a1 a2 hk) (r_cV h wc_M_alike w_462 w_3 w_464 (TT_se (q := (y_M_alike, 5)) 14 rfl) hd_M_alike ⟨(Nat.le_of_ble_eq_true rfl), (Nat.le_of_ble_eq_true rfl)⟩ rfl rfl) mw_0 rfl rfl rfl (Nat.le_of_ble_eq_true rfl) ⟨(Nat.le_of_ble_eq_true rfl), (Nat.le_of_ble_eq_true rfl)⟩ mw_adr ?_
              refine r_if_ne_t (pc := 86) h (tgt := 95) d_M_count_86 (by decide) (by rw [bD_t hal]; decide) ?_
              refine r_iload (pc := 95) h 0 d_M_count_95 rfl ?_
              refine r_iload (pc := 97) h 3 d_M_count_97 rfl ?_
              refine r_icmp_ge_f (pc := 99) h (tgt := 105) d_M_count_99 (by decide) (nI_ge hnL (Nat.lt_of_le_of_lt hlen (by decide))) ?_
              refine r_goto (pc := 102) h (tgt := 126) d_M_count_102 (by decide) ?_
              refine r_iinc (pc := 126) h (v := nI (v + 1)) (lv' := [(7, .int (nI (v + 1))), (8, .int (nI n)), (6, .int (nI r)), (5, .int (nI FL.length)), (4, .int (nI k)), (3, .int (nI RL.length)), (0, .ref (b 0)), (1, .int (nI fr)), (2, .int (nI to))]) 1 d_M_count_126 rfl (nI_inc v) (by decide) rfl ?_
              refine r_goto (pc := 129) h (tgt := 27) d_M_count_129 (by decide) ?_
              refine Wv.sub [0, 2, 3, 4, 5, 6, 7, 8] rfl ?_
              refine ihv (FL, fi, fa) ⟨hFn, fun c => ?_, hFa, Nat.le_succ_of_le hFl⟩
              refine (hFm c).trans ?_
              rw [PV_s, ← or_assoc]
              exact ⟨fun h => Or.inl h, fun h => h.elim id (fun q => by rw [q.2]; exact (hFm _).mp hold)⟩
            · have e9 : n = FL.length := by omega
              subst e9
              have hnew : (pcode (9 - k) (subf (rg r) k v)) ∉ FL := fun z => by
                obtain ⟨f, hf9⟩ := List.getElem?_of_mem z
                exact hn2 f (List.getElem?_eq_some_iff.mp hf9).1 (Or.inr hf9)
              refine r_icmp_ge_t (pc := 59) h (tgt := 95) d_M_count_59 (by decide) (nI_le (Nat.le_refl _) (Nat.lt_of_le_of_lt hlen (by decide))) ?_
              refine r_iload (pc := 95) h 0 d_M_count_95 rfl ?_
              refine r_iload (pc := 97) h 3 d_M_count_97 rfl ?_
              refine r_icmp_ge_t (pc := 99) h (tgt := 105) d_M_count_99 (by decide) (nI_le (Nat.le_refl _) (Nat.lt_of_le_of_lt hlen (by decide))) ?_
              refine r_aload_n (pc := 105) h 6 d_M_count_105 rfl rfl ?_
              refine r_get (pc := 106) h 0 3 d_M_count_106 mw_0 rfl (by decide) in_M (List.mem_cons_of_mem _ w_356) rfl ?_
              refine r_iload (pc := 109) h 3 d_M_count_109 rfl ?_
              refine r_iload (pc := 111) h 2 d_M_count_111 rfl ?_
              refine r_iastore (pc := 113) h 3 (ws' := (mw G b th rg wk (upd fi FL.length (nI r)) fa)) FL.length d_M_count_113 mw_3 rfl (Nat.lt_of_le_of_lt hlen (by decide)) (by decide) mw_s3 ?_
              refine r_aload_n (pc := 114) h 6 d_M_count_114 rfl rfl ?_
              refine r_get (pc := 115) h 0 4 d_M_count_115 mw_0 rfl (by decide) in_M (List.mem_cons_of_mem _ w_357) rfl ?_
              refine r_iload (pc := 118) h 3 d_M_count_118 rfl ?_
              refine r_iinc (pc := 120) h (v := nI (FL ++ [(pcode (9 - k) (subf (rg r) k v))]).length) (lv' := [(5, .int (nI (FL ++ [(pcode (9 - k) (subf (rg r) k v))]).length)), (8, .int (nI FL.length)), (7, .int (nI v)), (6, .int (nI r)), (4, .int (nI k)), (3, .int (nI RL.length)), (0, .ref (b 0)), (1, .int (nI fr)), (2, .int (nI to))]) 3 d_M_count_120 rfl (by rw [List.length_append, List.length_singleton]; exact nI_inc _) (by decide) rfl ?_
              refine r_iload (pc := 123) h 2 d_M_count_123 rfl ?_
              refine r_iastore (pc := 125) h 4 (ws' := (mw G b th rg wk (upd fi FL.length (nI r)) (upd fa FL.length (nI v)))) FL.length d_M_count_125 mw_4 rfl (Nat.lt_of_le_of_lt hlen (by decide)) (by decide) mw_s4 ?_
              refine r_iinc (pc := 126) h (v := nI (v + 1)) (lv' := [(7, .int (nI (v + 1))), (5, .int (nI (FL ++ [(pcode (9 - k) (subf (rg r) k v))]).length)), (8, .int (nI FL.length)), (6, .int (nI r)), (4, .int (nI k)), (3, .int (nI RL.length)), (0, .ref (b 0)), (1, .int (nI fr)), (2, .int (nI to))]) 2 d_M_count_126 rfl (nI_inc v) (by decide) rfl ?_
              refine r_goto (pc := 129) h (tgt := 27) d_M_count_129 (by decide) ?_
              refine Wv.sub [0, 3, 1, 4, 5, 6, 7, 8] rfl ?_
              refine ihv (FL ++ [(pcode (9 - k) (subf (rg r) k v))], upd fi FL.length (nI r), upd fa FL.length (nI v)) ⟨?_, ?_, Arr_push hFa (Nat.lt_of_lt_of_le hr1 ht) hv, ?_⟩
              · refine nd_app hFn (List.nodup_cons.mpr ⟨by simp, List.nodup_nil⟩) (fun a ha hb => ?_)
                rw [List.mem_singleton] at hb
                rw [hb] at ha
                exact hnew ha
              · intro c
                show c ∈ FL ++ [_] ↔ _
                rw [List.mem_append, List.mem_singleton, hFm c, PV_s, or_assoc]
                exact or_congr Iff.rfl (or_congr Iff.rfl ⟨fun e => ⟨hdep, e⟩, fun e => e.2⟩)
              · show (FL ++ [_]).length ≤ _
                rw [List.length_append, List.length_singleton]
                omega
          · intro f hf ihf
            have ihf : Wv p l e _ s m _ below meth c G A _ _ _ _ (mw G b th rg wk fi fa) 55 [(8, .int (nI (f + 1))), (7, .int (nI v)), (6, .int (nI r)), (5, .int (nI FL.length)), (4, .int (nI k)), (3, .int (nI RL.length)), (0, .ref (b 0)), (1, .int (nI fr)), (2, .int (nI to))] [] := ihf
            show Wv p l e _ s m _ below meth c G A _ _ _ _ (mw G b th rg wk fi fa) 55 [(8, .int (nI f)), (7, .int (nI v)), (6, .int (nI r)), (5, .int (nI FL.length)), (4, .int (nI k)), (3, .int (nI RL.length)), (0, .ref (b 0)), (1, .int (nI fr)), (2, .int (nI to))] []
            obtain ⟨ri, vi, a1, a2, a3, a4, a5⟩ := hFa f (Nat.lt_of_lt_of_le hf hnl)
            refine r_iload (pc := 55) h 0 d_M_count_55 rfl ?_
            refine r_iload (pc := 57) h 3 d_M_count_57 rfl ?_
            refine r_icmp_ge_f (pc := 59) h (tgt := 95) d_M_count_59 (by decide) (nI_ge (Nat.lt_of_lt_of_le hf hnl) (Nat.lt_of_le_of_lt hlen (by decide))) ?_
            refine r_aload_n (pc := 62) h 6 d_M_count_62 rfl rfl ?_
            refine r_iload (pc := 63) h 2 d_M_count_63 rfl ?_
            refine r_iload (pc := 65) h 1 d_M_count_65 rfl ?_
            refine r_aload_n (pc := 67) h 6 d_M_count_67 rfl rfl ?_
            refine r_get (pc := 68) h 0 3 d_M_count_68 mw_0 rfl (by decide) in_M (List.mem_cons_of_mem _ w_356) rfl ?_
            refine r_iload (pc := 71) h 0 d_M_count_71 rfl ?_
            refine r_iaload (pc := 73) h 3 (z := nI ri) f d_M_count_73 mw_3 rfl (Nat.lt_of_lt_of_le (Nat.lt_of_lt_of_le hf hnl) (Nat.le_trans hlen (by decide))) (by decide) a3 ?_
            refine r_aload_n (pc := 74) h 6 d_M_count_74 rfl rfl ?_
            refine r_get (pc := 75) h 0 4 d_M_count_75 mw_0 rfl (by decide) in_M (List.mem_cons_of_mem _ w_357) rfl ?_
            refine r_iload (pc := 78) h 0 d_M_count_78 rfl ?_
            refine r_iaload (pc := 80) h 4 (z := nI vi) f d_M_count_80 mw_4 rfl (Nat.lt_of_lt_of_le (Nat.lt_of_lt_of_le hf hnl) (Nat.le_trans hlen (by decide))) (by decide) a4 ?_
            refine r_iload (pc := 81) h 4 d_M_count_81 rfl ?_
            refine r_invVa (pc := 83) h 0 (st := []) d_M_count_83 (m_alike r v ri vi k (Nat.lt_of_lt_of_le hr1 ht) hv a1 a2 hk) (r_cV h wc_M_alike w_462 w_3 w_464 (TT_se (q := (y_M_alike, 5)) 14 rfl) hd_M_alike ⟨(Nat.le_of_ble_eq_true rfl), (Nat.le_of_ble_eq_true rfl)⟩ rfl rfl) mw_0 rfl rfl rfl (Nat.le_of_ble_eq_true rfl) ⟨(Nat.le_of_ble_eq_true rfl), (Nat.le_of_ble_eq_true rfl)⟩ mw_adr ?_
            refine r_if_ne_f (pc := 86) h (tgt := 95) d_M_count_86 (by decide) (by rw [bD_f (fun z => hn2 f hf (Or.inr (a5.trans (congrArg some z.symm))))]; rfl) ?_
            refine r_iinc (pc := 89) h (v := nI (f + 1)) (lv' := [(8, .int (nI (f + 1))), (7, .int (nI v)), (6, .int (nI r)), (5, .int (nI FL.length)), (4, .int (nI k)), (3, .int (nI RL.length)), (0, .ref (b 0)), (1, .int (nI fr)), (2, .int (nI to))]) 0 d_M_count_89 rfl (nI_inc f) (by decide) rfl ?_
            refine r_goto (pc := 92) h (tgt := 55) d_M_count_92 (by decide) ?_
            exact ihf
        · refine r_if_ne_f (pc := 46) h (tgt := 52) d_M_count_46 (by decide) (by rw [show hoB (rg r) k v = false from bD_f hdep]; rfl) ?_
          refine r_goto (pc := 49) h (tgt := 126) d_M_count_49 (by decide) ?_
          refine r_iinc (pc := 126) h (v := nI (v + 1)) (lv' := [(7, .int (nI (v + 1))), (6, .int (nI r)), (5, .int (nI FL.length)), (4, .int (nI k)), (3, .int (nI RL.length)), (0, .ref (b 0)), (1, .int (nI fr)), (2, .int (nI to))]) 0 d_M_count_126 rfl (nI_inc v) (by decide) rfl ?_
          refine r_goto (pc := 129) h (tgt := 27) d_M_count_129 (by decide) ?_
          refine ihv (FL, fi, fa) ⟨hFn, fun c => ?_, hFa, Nat.le_succ_of_le hFl⟩
          refine (hFm c).trans ?_
          rw [PV_s, ← or_assoc]
          exact ⟨fun h => Or.inl h, fun h => h.elim id (fun q => absurd q.1 hdep)⟩
theorem m_parts (r1 : Nat) (h1 : r1 < 16) : Cp l y_M_parts (.code y_M_parts b_M_parts 2 (some .int) :: TT) (rmF 2 54) G [.ref (b 0), .int (nI r1)] (mw G b th rg wk fi fa) (fun v ws' => ∃ (fi' fa' : Nat → Int32) (L : List (Nat × List Bool)), ws' = mw G b (bI false) rg wk fi' fa' ∧ L.Nodup ∧ (∀ c, c ∈ L ↔ PK rg r1 (r1 + 1) 10 c) ∧ v = some (.int (nI L.length))) := by
  refine cp_intro (cc := b_M_parts) (nL := 2) (by decide) [(0, .ref (b 0)), (1, .int (nI r1))] rfl (Nat.le_of_ble_eq_true rfl) ?_
  intro p e s m below meth c A h hr
  refine r_aload_n (pc := 0) h 0 d_M_parts_0 rfl rfl ?_
  refine r_iload_n (pc := 1) h 1 d_M_parts_1 rfl rfl ?_
  refine r_invSa (pc := 2) h (st := [.ref (b 0)]) d_M_parts_2 (c_none_f r1 h1) (r_cS h wc_M_none w_378 w_3 w_379 hd_M_none ⟨(Nat.le_of_ble_eq_true rfl), (Nat.le_of_ble_eq_true rfl)⟩ rfl rfl) rfl rfl (Nat.le_of_ble_eq_true rfl) ⟨(Nat.le_of_ble_eq_true rfl), (Nat.le_of_ble_eq_true rfl)⟩ rfl ?_
  refine r_invVa (pc := 5) h 0 (st := []) d_M_parts_5 c_bad_false (r_cV h wc_M_bad w_384 w_3 w_386 (TT_se (q := (y_M_bad, 5)) 10 rfl) hd_M_bad ⟨(Nat.le_of_ble_eq_true rfl), (Nat.le_of_ble_eq_true rfl)⟩ rfl rfl) mw_0 rfl rfl rfl (Nat.le_of_ble_eq_true rfl) ⟨(Nat.le_of_ble_eq_true rfl), (Nat.le_of_ble_eq_true rfl)⟩ mw_adr ?_
  refine r_if_eq_t (pc := 8) h (tgt := 13) d_M_parts_8 (by decide) rfl ?_
  refine r_aload_n (pc := 13) h 0 d_M_parts_13 rfl rfl ?_
  refine r_iload_n (pc := 14) h 1 d_M_parts_14 rfl rfl ?_
  refine r_iload_n (pc := 15) h 1 d_M_parts_15 rfl rfl ?_
  refine r_iconst (pc := 16) h (v := nI 1) d_M_parts_16 (by decide) ?_
  refine r_iadd (pc := 17) h (z := nI (r1 + 1)) d_M_parts_17 (nI_add r1 1) ?_
  refine r_invVP (pc := 18) h 0 (st := []) d_M_parts_18 (m_count r1 (r1 + 1) (by omega) (by omega)) (r_cV h wc_M_count w_454 w_3 w_456 (TT_se (q := (y_M_count, 5)) 12 rfl) hd_M_count ⟨(Nat.le_of_ble_eq_true rfl), (Nat.le_of_ble_eq_true rfl)⟩ rfl rfl) mw_0 rfl rfl rfl (Nat.le_of_ble_eq_true rfl) ⟨(Nat.le_of_ble_eq_true rfl), (Nat.le_of_ble_eq_true rfl)⟩ ?_
  rintro v ws' ⟨fi', fa', L, rfl, hLn, hLm, rfl⟩
  refine ⟨mw_adr, ?_⟩
  exact r_iretP (pc := 21) h hr ⟨fi', fa', L, rfl, hLn, hLm, rfl⟩ d_M_parts_21
theorem x_parts (r1 : Int32)  (hB : ¬ (okR 16 r1)) : Ct l y_M_parts (.code y_M_parts b_M_parts 2 (some .int) :: TT) (rmF 2 54) G [.ref (b 0), .int r1] (mw G b th rg wk fi fa) (some (.int (nI 0))) (mw G b (bI true) rg wk fi fa) := by
  refine ct_intro (cc := b_M_parts) (nL := 2) (by decide) [(0, .ref (b 0)), (1, .int r1)] rfl (Nat.le_of_ble_eq_true rfl) ?_
  intro p e s m below meth c A h hr
  refine r_aload_n (pc := 0) h 0 d_M_parts_0 rfl rfl ?_
  refine r_iload_n (pc := 1) h 1 d_M_parts_1 rfl rfl ?_
  rcases pk_ix r1 (n := 16) (by decide) with hN | hN | ⟨j2, hj2, hN2⟩
  · refine r_invSa (pc := 2) h (st := [.ref (b 0)]) d_M_parts_2 (c_none_t r1 (Or.inl hN)) (r_cS h wc_M_none w_378 w_3 w_379 hd_M_none ⟨(Nat.le_of_ble_eq_true rfl), (Nat.le_of_ble_eq_true rfl)⟩ rfl rfl) rfl rfl (Nat.le_of_ble_eq_true rfl) ⟨(Nat.le_of_ble_eq_true rfl), (Nat.le_of_ble_eq_true rfl)⟩ rfl ?_
    refine r_invVa (pc := 5) h 0 (st := []) d_M_parts_5 c_bad_true (r_cV h wc_M_bad w_384 w_3 w_386 (TT_se (q := (y_M_bad, 5)) 10 rfl) hd_M_bad ⟨(Nat.le_of_ble_eq_true rfl), (Nat.le_of_ble_eq_true rfl)⟩ rfl rfl) mw_0 rfl rfl rfl (Nat.le_of_ble_eq_true rfl) ⟨(Nat.le_of_ble_eq_true rfl), (Nat.le_of_ble_eq_true rfl)⟩ mw_adr ?_
    refine r_if_eq_f (pc := 8) h (tgt := 13) d_M_parts_8 (by decide) (by decide) ?_
    refine r_iconst (pc := 11) h (v := nI 0) d_M_parts_11 (by decide) ?_
    exact r_iret (pc := 12) h hr d_M_parts_12
  · refine r_invSa (pc := 2) h (st := [.ref (b 0)]) d_M_parts_2 (c_none_t r1 (Or.inr hN)) (r_cS h wc_M_none w_378 w_3 w_379 hd_M_none ⟨(Nat.le_of_ble_eq_true rfl), (Nat.le_of_ble_eq_true rfl)⟩ rfl rfl) rfl rfl (Nat.le_of_ble_eq_true rfl) ⟨(Nat.le_of_ble_eq_true rfl), (Nat.le_of_ble_eq_true rfl)⟩ rfl ?_
    refine r_invVa (pc := 5) h 0 (st := []) d_M_parts_5 c_bad_true (r_cV h wc_M_bad w_384 w_3 w_386 (TT_se (q := (y_M_bad, 5)) 10 rfl) hd_M_bad ⟨(Nat.le_of_ble_eq_true rfl), (Nat.le_of_ble_eq_true rfl)⟩ rfl rfl) mw_0 rfl rfl rfl (Nat.le_of_ble_eq_true rfl) ⟨(Nat.le_of_ble_eq_true rfl), (Nat.le_of_ble_eq_true rfl)⟩ mw_adr ?_
    refine r_if_eq_f (pc := 8) h (tgt := 13) d_M_parts_8 (by decide) (by decide) ?_
    refine r_iconst (pc := 11) h (v := nI 0) d_M_parts_11 (by decide) ?_
    exact r_iret (pc := 12) h hr d_M_parts_12
  · exfalso
    exact hB ⟨j2, hj2, hN2⟩
theorem m_together (r1 r2 : Nat) (hab : r1 < r2) (hb16 : r2 ≤ 16) : Cp l y_M_together (.code y_M_together b_M_together 3 (some .int) :: TT) (rmF 2 54) G [.ref (b 0), .int (nI r1), .int (nI r2)] (mw G b th rg wk fi fa) (fun v ws' => ∃ (fi' fa' : Nat → Int32) (L : List (Nat × List Bool)), ws' = mw G b (bI false) rg wk fi' fa' ∧ L.Nodup ∧ (∀ c, c ∈ L ↔ PK rg r1 r2 10 c) ∧ v = some (.int (nI L.length))) := by
  refine cp_intro (cc := b_M_together) (nL := 3) (by decide) [(0, .ref (b 0)), (1, .int (nI r1)), (2, .int (nI r2))] rfl (Nat.le_of_ble_eq_true rfl) ?_
  intro p e s m below meth c A h hr
  refine r_aload_n (pc := 0) h 0 d_M_together_0 rfl rfl ?_
  refine r_iload_n (pc := 1) h 1 d_M_together_1 rfl rfl ?_
  refine r_if_lt_f (pc := 2) h (tgt := 16) d_M_together_2 (by decide) (nI_pos (by omega)) ?_
  refine r_iload_n (pc := 5) h 2 d_M_together_5 rfl rfl ?_
  refine r_bipush (pc := 6) h (v := nI 16) d_M_together_6 (by decide) ?_
  refine r_icmp_gt_f (pc := 8) h (tgt := 16) d_M_together_8 (by decide) (nI_nlt (by omega) (by omega)) ?_
  refine r_iload_n (pc := 11) h 1 d_M_together_11 rfl rfl ?_
  refine r_iload_n (pc := 12) h 2 d_M_together_12 rfl rfl ?_
  refine r_icmp_lt_t (pc := 13) h (tgt := 20) d_M_together_13 (by decide) (nI_lt hab (by omega)) ?_
  refine r_iconst (pc := 20) h (v := bI false) d_M_together_20 (by decide) ?_
  refine r_invVa (pc := 21) h 0 (st := []) d_M_together_21 c_bad_false (r_cV h wc_M_bad w_384 w_3 w_386 (TT_se (q := (y_M_bad, 5)) 10 rfl) hd_M_bad ⟨(Nat.le_of_ble_eq_true rfl), (Nat.le_of_ble_eq_true rfl)⟩ rfl rfl) mw_0 rfl rfl rfl (Nat.le_of_ble_eq_true rfl) ⟨(Nat.le_of_ble_eq_true rfl), (Nat.le_of_ble_eq_true rfl)⟩ mw_adr ?_
  refine r_if_eq_t (pc := 24) h (tgt := 29) d_M_together_24 (by decide) rfl ?_
  refine r_aload_n (pc := 29) h 0 d_M_together_29 rfl rfl ?_
  refine r_iload_n (pc := 30) h 1 d_M_together_30 rfl rfl ?_
  refine r_iload_n (pc := 31) h 2 d_M_together_31 rfl rfl ?_
  refine r_invVP (pc := 32) h 0 (st := []) d_M_together_32 (m_count r1 r2 (by omega) hb16) (r_cV h wc_M_count w_454 w_3 w_456 (TT_se (q := (y_M_count, 5)) 12 rfl) hd_M_count ⟨(Nat.le_of_ble_eq_true rfl), (Nat.le_of_ble_eq_true rfl)⟩ rfl rfl) mw_0 rfl rfl rfl (Nat.le_of_ble_eq_true rfl) ⟨(Nat.le_of_ble_eq_true rfl), (Nat.le_of_ble_eq_true rfl)⟩ ?_
  rintro v ws' ⟨fi', fa', L, rfl, hLn, hLm, rfl⟩
  refine ⟨mw_adr, ?_⟩
  exact r_iretP (pc := 35) h hr ⟨fi', fa', L, rfl, hLn, hLm, rfl⟩ d_M_together_35
theorem x_together (r1 r2 : Int32) (hB : ¬ (¬ r1 < 0 ∧ ¬ nI 16 < r2 ∧ r1 < r2)) : Ct l y_M_together (.code y_M_together b_M_together 3 (some .int) :: TT) (rmF 2 54) G [.ref (b 0), .int r1, .int r2] (mw G b th rg wk fi fa) (some (.int (nI 0))) (mw G b (bI true) rg wk fi fa) := by
  refine ct_intro (cc := b_M_together) (nL := 3) (by decide) [(0, .ref (b 0)), (1, .int r1), (2, .int r2)] rfl (Nat.le_of_ble_eq_true rfl) ?_
  intro p e s m below meth c A h hr
  refine r_aload_n (pc := 0) h 0 d_M_together_0 rfl rfl ?_
  refine r_iload_n (pc := 1) h 1 d_M_together_1 rfl rfl ?_
  refine r_if_lt (pc := 2) h (tgt := 16) d_M_together_2 (by decide) (fun q2 => ?_) (fun q2 => ?_)
  · refine r_iconst (pc := 16) h (v := bI true) d_M_together_16 (by decide) ?_
    refine r_goto (pc := 17) h (tgt := 21) d_M_together_17 (by decide) ?_
    refine r_invVa (pc := 21) h 0 (st := []) d_M_together_21 c_bad_true (r_cV h wc_M_bad w_384 w_3 w_386 (TT_se (q := (y_M_bad, 5)) 10 rfl) hd_M_bad ⟨(Nat.le_of_ble_eq_true rfl), (Nat.le_of_ble_eq_true rfl)⟩ rfl rfl) mw_0 rfl rfl rfl (Nat.le_of_ble_eq_true rfl) ⟨(Nat.le_of_ble_eq_true rfl), (Nat.le_of_ble_eq_true rfl)⟩ mw_adr ?_
    refine r_if_eq_f (pc := 24) h (tgt := 29) d_M_together_24 (by decide) (by decide) ?_
    refine r_iconst (pc := 27) h (v := nI 0) d_M_together_27 (by decide) ?_
    exact r_iret (pc := 28) h hr d_M_together_28
  · refine r_iload_n (pc := 5) h 2 d_M_together_5 rfl rfl ?_
    refine r_bipush (pc := 6) h (v := nI 16) d_M_together_6 (by decide) ?_
    refine r_icmp_gt (pc := 8) h (tgt := 16) d_M_together_8 (by decide) (fun q8 => ?_) (fun q8 => ?_)
    · refine r_iconst (pc := 16) h (v := bI true) d_M_together_16 (by decide) ?_
      refine r_goto (pc := 17) h (tgt := 21) d_M_together_17 (by decide) ?_
      refine r_invVa (pc := 21) h 0 (st := []) d_M_together_21 c_bad_true (r_cV h wc_M_bad w_384 w_3 w_386 (TT_se (q := (y_M_bad, 5)) 10 rfl) hd_M_bad ⟨(Nat.le_of_ble_eq_true rfl), (Nat.le_of_ble_eq_true rfl)⟩ rfl rfl) mw_0 rfl rfl rfl (Nat.le_of_ble_eq_true rfl) ⟨(Nat.le_of_ble_eq_true rfl), (Nat.le_of_ble_eq_true rfl)⟩ mw_adr ?_
      refine r_if_eq_f (pc := 24) h (tgt := 29) d_M_together_24 (by decide) (by decide) ?_
      refine r_iconst (pc := 27) h (v := nI 0) d_M_together_27 (by decide) ?_
      exact r_iret (pc := 28) h hr d_M_together_28
    · refine r_iload_n (pc := 11) h 1 d_M_together_11 rfl rfl ?_
      refine r_iload_n (pc := 12) h 2 d_M_together_12 rfl rfl ?_
      refine r_icmp_lt (pc := 13) h (tgt := 20) d_M_together_13 (by decide) (fun q13 => ?_) (fun q13 => ?_)
      · exact absurd ⟨q2, q8, q13⟩ hB
      · refine r_iconst (pc := 16) h (v := bI true) d_M_together_16 (by decide) ?_
        refine r_goto (pc := 17) h (tgt := 21) d_M_together_17 (by decide) ?_
        refine r_invVa (pc := 21) h 0 (st := []) d_M_together_21 c_bad_true (r_cV h wc_M_bad w_384 w_3 w_386 (TT_se (q := (y_M_bad, 5)) 10 rfl) hd_M_bad ⟨(Nat.le_of_ble_eq_true rfl), (Nat.le_of_ble_eq_true rfl)⟩ rfl rfl) mw_0 rfl rfl rfl (Nat.le_of_ble_eq_true rfl) ⟨(Nat.le_of_ble_eq_true rfl), (Nat.le_of_ble_eq_true rfl)⟩ mw_adr ?_
        refine r_if_eq_f (pc := 24) h (tgt := 29) d_M_together_24 (by decide) (by decide) ?_
        refine r_iconst (pc := 27) h (v := nI 0) d_M_together_27 (by decide) ?_
        exact r_iret (pc := 28) h hr d_M_together_28
end MC
