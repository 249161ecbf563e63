-- the law's helpers: a call of the class, its exceptions caught
abbrev oc (G : gG) (o : Nat) (f : Nat → Int64) : va_W := [(o, .inl (G.2 1, 1, .inr (.inl f)))]
def bL (b : Bool) : Int64 := if b = true then 1 else 0
theorem sv_only {f : Nat → Int64} {x0 x : Nat} (h0 : x0 < 1024) (hx : x < 1024) : sv (vp_updL (mix 16 (fun _ => 0) f) (x0 / 64) (1 <<< ((nI (x0 % 64)).toInt64 &&& 63))) x = eqB x0 x := by
  have hm : x % 64 < 64 := Nat.mod_lt _ (by decide)
  have hm0 : x0 % 64 < 64 := Nat.mod_lt _ (by decide)
  unfold sv vp_updL
  by_cases h : x / 64 = x0 / 64
  · rw [if_pos h, lb_shl _ hm0 _ hm]
    by_cases h2 : x0 % 64 ≤ x % 64
    · rw [lb_1 _ (by omega), decide_eq_true h2, Bool.true_and]
      by_cases h3 : x = x0
      · rw [show eqB x0 x = true from bD_t h3]
        exact decide_eq_true (by omega)
      · rw [show eqB x0 x = false from bD_f h3]
        exact decide_eq_false (by omega)
    · rw [decide_eq_false h2, show eqB x0 x = false from bD_f (fun z => h2 (by rw [z]; exact Nat.le_refl _))]
      rfl
  · rw [if_neg h, mix_lt (show x / 64 < 16 by omega), lb_0, show eqB x0 x = false from bD_f (fun z => h (by rw [z]))]
theorem bd_ext {f g : Nat → Bool} {S : Nat} {b : Bool} (h : ∀ y, y < 1024 → f y = g y) : ∀ v, v ≤ 10 → ∀ x, x < 1024 → bd f S b v x = bd g S b v x
  | 0, _, x, hx => h x hx
  | v + 1, hv, x, hx => by
    have h1 := bd_ext (S := S) (b := b) h v (by omega) x hx
    have h2 := bd_ext (S := S) (b := b) h v (by omega) (x ^^^ 2 ^ v) (Nat.xor_lt_two_pow (n := 10) hx (pw10 v (by omega)))
    show (if S.testBit v = true then (if b = true then bd f S b v x && bd f S b v (x ^^^ 2 ^ v) else bd f S b v x || bd f S b v (x ^^^ 2 ^ v)) else bd f S b v x) = (if S.testBit v = true then (if b = true then bd g S b v x && bd g S b v (x ^^^ 2 ^ v) else bd g S b v x || bd g S b v (x ^^^ 2 ^ v)) else bd g S b v x)
    rw [h1, h2]
theorem sv_gB {b : Bool} {wk : Nat → Int64} {v x : Nat} (hv : v < 10) : sv (gB b wk v) x = if b = true then sv wk x && sv wk (x ^^^ 2 ^ v) else sv wk x || sv wk (x ^^^ 2 ^ v) := by
  have h := sv_tW (r := wk) (x := x) hv
  cases b
  · show lb (wk (x / 64) ||| tW wk v (x / 64)) (x % 64) = _
    rw [lb_or, if_neg (by decide)]
    unfold sv at h ⊢
    rw [h]
  · show lb (wk (x / 64) &&& tW wk v (x / 64)) (x % 64) = _
    rw [lb_and, if_pos rfl]
    unfold sv at h ⊢
    rw [h]
theorem sv_bnd {S : Nat} {b : Bool} {wk sp : Nat → Int64} : ∀ v, v ≤ 10 → ∀ x, x < 1024 → sv (bnd S b wk sp v).1 x = bd (sv wk) S b v x
  | 0, _, x, _ => rfl
  | v + 1, hv, x, hx => by
    have ih := sv_bnd (S := S) (b := b) (wk := wk) (sp := sp) v (by omega)
    have hx2 : x ^^^ 2 ^ v < 1024 := Nat.xor_lt_two_pow (n := 10) hx (pw10 v (by omega))
    show _ = (if S.testBit v = true then (if b = true then bd (sv wk) S b v x && bd (sv wk) S b v (x ^^^ 2 ^ v) else bd (sv wk) S b v x || bd (sv wk) S b v (x ^^^ 2 ^ v)) else bd (sv wk) S b v x)
    cases hb : S.testBit v
    · rw [bnd_f hb, if_neg (by decide)]
      exact ih x hx
    · rw [bnd_t hb, if_pos rfl]
      show sv (mix 16 (mix 16 _ _) _) x = _
      rw [sv_mix hx, sv_mix hx, sv_gB (by omega), ih x hx, ih _ hx2]
theorem sv_swp2 {r r' : Nat → Int64} {v w x : Nat} (hv : v < 10) (hw : w < 10) (hx : x < 1024) (hr : ∀ y, y < 1024 → sv r' y = sv (tW r v) y) : sv (fun j => cW (vW v j ^^^ vW w j) (tW r' w j) (r j)) x = sv r (swp x v w) := by
  have hx2 : x ^^^ 2 ^ w < 1024 := Nat.xor_lt_two_pow (n := 10) hx (pw10 w hw)
  rw [← sv_swp hv hw hx, sv_cW (fun j => vW v j ^^^ vW w j) (tW r' w) r x, sv_cW (fun j => vW v j ^^^ vW w j) (tW (tW r v) w) r x, sv_tW hw, sv_tW hw, hr _ hx2]
theorem sv_put {r1 r2 : Nat → Int64} {v x : Nat} (hv : v < 10) (hx : x < 1024) : sv (fun j => cW (r2 j) (fW r1 v true j) (fW r1 v false j)) x = sv r1 (sb x v (sv r2 x)) := by
  rw [sv_cW r2 (fW r1 v true) (fW r1 v false) x, sv_sb hv hx, sv_sb hv hx]
  cases sv r2 x <;> simp
section LH
variable {l : Launch} {G : gG} {a : Nat → Nat} {o : Nat} {of : Nat → Int64} {hd : Nat → Nat → Int64} {wk sp : Nat → Int64} {ct : Int32} {ky nm : Nat → Int32}
theorem oc_g : (cw G a hd wk sp ct ky nm ++ oc G o of)[23]? = some (o, .inl (G.2 1, 1, .inr (.inl of))) := rfl
theorem oc_s {f : Nat → Int64} : (cw G a hd wk sp ct ky nm ++ oc G o of).set 23 (o, .inl (G.2 1, 1, .inr (.inl f))) = cw G a hd wk sp ct ky nm ++ oc G o f := rfl
theorem h_variable (t : Nat) (ht : t < 16) (v : Nat) (hv : v < 10) : Hp l y_L_variable (.codeWith y_L_variable b_L_variable 4 (some .int) [(0, 6, 9, 13)] :: TT) (rmX 8 140) G [.ref (a 0), .int (nI t), .int (nI v)] ((cw G a hd wk sp ct ky nm) ++ oc G o of) (fun v9 ws' => v9 = some (.int (nI 0)) ∧ ∃ (F wk' sp' : Nat → Int64), ws' = cw G a (va_up hd t F) wk' sp' ct ky nm ++ oc G o of ∧ ∀ x, x < 1024 → sv F x = x.testBit v) := by
  refine hp_intro (cc := b_L_variable) (nL := 4) (by decide) [(0, .ref (a 0)), (1, .int (nI t)), (2, .int (nI v))] rfl (Nat.le_of_ble_eq_true rfl) ?_
  intro p e s m below meth c A h hr htab
  refine r_aload_n (pc := 0) h 0 d_L_variable_0 rfl rfl ?_
  refine r_iload_n (pc := 1) h 1 d_L_variable_1 rfl rfl ?_
  refine r_iload_n (pc := 2) h 2 d_L_variable_2 rfl rfl ?_
  refine r_invVv (pc := 3) h 0 (st := []) d_L_variable_3 ((c_variable t ht v hv).frame (oc G o of)) (r_cV h wc_D_variable w_59 w_1 w_60 w_61 hd_D_variable ⟨(Nat.le_of_ble_eq_true rfl), (Nat.le_of_ble_eq_true rfl)⟩ rfl rfl) (ap_l cw_0) rfl rfl rfl (Nat.le_of_ble_eq_true rfl) ⟨(Nat.le_of_ble_eq_true rfl), (Nat.le_of_ble_eq_true rfl)⟩ rfl ?_
  refine r_goto (pc := 6) h (tgt := 12) d_L_variable_6 (by decide) ?_
  refine r_iconst (pc := 12) h (v := nI 0) d_L_variable_12 (by decide) ?_
  exact Wv.wid (Nat.le_of_ble_eq_true rfl) (Nat.le_of_ble_eq_true rfl) (r_iretP (pc := 13) h hr ⟨rfl, _, _, _, rfl, fun x hx => (sv_mix hx).trans (sv_vW hv hx)⟩ d_L_variable_13)
theorem h_only (t : Nat) (ht : t < 16) (x0 : Nat) (h0 : x0 < 1024) : Hp l y_L_only (.codeWith y_L_only b_L_only 4 (some .int) [(0, 6, 9, 13)] :: TT) (rmX 8 140) G [.ref (a 0), .int (nI t), .int (nI x0)] ((cw G a hd wk sp ct ky nm) ++ oc G o of) (fun v9 ws' => v9 = some (.int (nI 0)) ∧ ∃ (F wk' sp' : Nat → Int64), ws' = cw G a (va_up hd t F) wk' sp' ct ky nm ++ oc G o of ∧ ∀ x, x < 1024 → sv F x = eqB x0 x) := by
  refine hp_intro (cc := b_L_only) (nL := 4) (by decide) [(0, .ref (a 0)), (1, .int (nI t)), (2, .int (nI x0))] rfl (Nat.le_of_ble_eq_true rfl) ?_
  intro p e s m below meth c A h hr htab
  refine r_aload_n (pc := 0) h 0 d_L_only_0 rfl rfl ?_
  refine r_iload_n (pc := 1) h 1 d_L_only_1 rfl rfl ?_
  refine r_iload_n (pc := 2) h 2 d_L_only_2 rfl rfl ?_
  refine r_invVv (pc := 3) h 0 (st := []) d_L_only_3 ((c_only t ht x0 h0).frame (oc G o of)) (r_cV h wc_D_only w_149 w_1 w_150 w_151 hd_D_only ⟨(Nat.le_of_ble_eq_true rfl), (Nat.le_of_ble_eq_true rfl)⟩ rfl rfl) (ap_l cw_0) rfl rfl rfl (Nat.le_of_ble_eq_true rfl) ⟨(Nat.le_of_ble_eq_true rfl), (Nat.le_of_ble_eq_true rfl)⟩ rfl ?_
  refine r_goto (pc := 6) h (tgt := 12) d_L_only_6 (by decide) ?_
  refine r_iconst (pc := 12) h (v := nI 0) d_L_only_12 (by decide) ?_
  exact Wv.wid (Nat.le_of_ble_eq_true rfl) (Nat.le_of_ble_eq_true rfl) (r_iretP (pc := 13) h hr ⟨rfl, _, _, _, rfl, fun x hx => sv_only h0 hx⟩ d_L_only_13)
theorem h_join (t : Nat) (ht : t < 16) (k r1 r2 : Nat) (hk : k < 5) (h1 : r1 < 16) (h2 : r2 < 16) : Hp l y_L_join (.codeWith y_L_join b_L_join 6 (some .int) [(0, 9, 12, 13)] :: TT) (rmX 8 140) G [.ref (a 0), .int (nI t), .int (nI k), .int (nI r1), .int (nI r2)] ((cw G a hd wk sp ct ky nm) ++ oc G o of) (fun v9 ws' => v9 = some (.int (nI 0)) ∧ ∃ (F wk' sp' : Nat → Int64), ws' = cw G a (va_up hd t F) wk' sp' ct ky nm ++ oc G o of ∧ ∀ x, x < 1024 → sv F x = jB k (sv (hd r1) x) (sv (hd r2) x)) := by
  refine hp_intro (cc := b_L_join) (nL := 6) (by decide) [(0, .ref (a 0)), (1, .int (nI t)), (2, .int (nI k)), (3, .int (nI r1)), (4, .int (nI r2))] rfl (Nat.le_of_ble_eq_true rfl) ?_
  intro p e s m below meth c A h hr htab
  refine r_aload_n (pc := 0) h 0 d_L_join_0 rfl rfl ?_
  refine r_iload_n (pc := 1) h 1 d_L_join_1 rfl rfl ?_
  refine r_iload_n (pc := 2) h 2 d_L_join_2 rfl rfl ?_
  refine r_iload_n (pc := 3) h 3 d_L_join_3 rfl rfl ?_
  refine r_iload (pc := 4) h 4 d_L_join_4 rfl ?_
  refine r_invVv (pc := 6) h 0 (st := []) d_L_join_6 ((c_join t ht k r1 r2 hk h1 h2).frame (oc G o of)) (r_cV h wc_D_join w_163 w_1 w_164 w_165 hd_D_join ⟨(Nat.le_of_ble_eq_true rfl), (Nat.le_of_ble_eq_true rfl)⟩ rfl rfl) (ap_l cw_0) rfl rfl rfl (Nat.le_of_ble_eq_true rfl) ⟨(Nat.le_of_ble_eq_true rfl), (Nat.le_of_ble_eq_true rfl)⟩ rfl ?_
  refine r_goto (pc := 9) h (tgt := 16) d_L_join_9 (by decide) ?_
  refine r_iconst (pc := 16) h (v := nI 0) d_L_join_16 (by decide) ?_
  exact Wv.wid (Nat.le_of_ble_eq_true rfl) (Nat.le_of_ble_eq_true rfl) (r_iretP (pc := 17) h hr ⟨rfl, _, _, _, rfl, fun x hx => (sv_mix hx).trans (sv_jW k (hd r1) (hd r2) x)⟩ d_L_join_17)
theorem h_choose (t : Nat) (ht : t < 16) (r1 r2 r3 : Nat) (h1 : r1 < 16) (h2 : r2 < 16) (h3 : r3 < 16) : Hp l y_L_choose (.codeWith y_L_choose b_L_choose 6 (some .int) [(0, 9, 12, 13)] :: TT) (rmX 8 140) G [.ref (a 0), .int (nI t), .int (nI r1), .int (nI r2), .int (nI r3)] ((cw G a hd wk sp ct ky nm) ++ oc G o of) (fun v9 ws' => v9 = some (.int (nI 0)) ∧ ∃ (F wk' sp' : Nat → Int64), ws' = cw G a (va_up hd t F) wk' sp' ct ky nm ++ oc G o of ∧ ∀ x, x < 1024 → sv F x = (if sv (hd r1) x = true then sv (hd r2) x else sv (hd r3) x)) := by
  refine hp_intro (cc := b_L_choose) (nL := 6) (by decide) [(0, .ref (a 0)), (1, .int (nI t)), (2, .int (nI r1)), (3, .int (nI r2)), (4, .int (nI r3))] rfl (Nat.le_of_ble_eq_true rfl) ?_
  intro p e s m below meth c A h hr htab
  refine r_aload_n (pc := 0) h 0 d_L_choose_0 rfl rfl ?_
  refine r_iload_n (pc := 1) h 1 d_L_choose_1 rfl rfl ?_
  refine r_iload_n (pc := 2) h 2 d_L_choose_2 rfl rfl ?_
  refine r_iload_n (pc := 3) h 3 d_L_choose_3 rfl rfl ?_
  refine r_iload (pc := 4) h 4 d_L_choose_4 rfl ?_
  refine r_invVv (pc := 6) h 0 (st := []) d_L_choose_6 ((c_choose t ht r1 r2 r3 h1 h2 h3).frame (oc G o of)) (r_cV h wc_D_choose w_177 w_1 w_178 w_179 hd_D_choose ⟨(Nat.le_of_ble_eq_true rfl), (Nat.le_of_ble_eq_true rfl)⟩ rfl rfl) (ap_l cw_0) rfl rfl rfl (Nat.le_of_ble_eq_true rfl) ⟨(Nat.le_of_ble_eq_true rfl), (Nat.le_of_ble_eq_true rfl)⟩ rfl ?_
  refine r_goto (pc := 9) h (tgt := 16) d_L_choose_9 (by decide) ?_
  refine r_iconst (pc := 16) h (v := nI 0) d_L_choose_16 (by decide) ?_
  exact Wv.wid (Nat.le_of_ble_eq_true rfl) (Nat.le_of_ble_eq_true rfl) (r_iretP (pc := 17) h hr ⟨rfl, _, _, _, rfl, fun x hx => (sv_mix hx).trans (sv_cW (hd r1) (hd r2) (hd r3) x)⟩ d_L_choose_17)
theorem h_cut (t : Nat) (ht : t < 16) (r1 v : Nat) (b : Bool) (h1 : r1 < 16) (hv : v < 10) : Hp l y_L_cut (.codeWith y_L_cut b_L_cut 6 (some .int) [(0, 9, 12, 13)] :: TT) (rmX 8 140) G [.ref (a 0), .int (nI t), .int (nI r1), .int (nI v), .int (bI b)] ((cw G a hd wk sp ct ky nm) ++ oc G o of) (fun v9 ws' => v9 = some (.int (nI 0)) ∧ ∃ (F wk' sp' : Nat → Int64), ws' = cw G a (va_up hd t F) wk' sp' ct ky nm ++ oc G o of ∧ ∀ x, x < 1024 → sv F x = sv (hd r1) (sb x v b)) := by
  refine hp_intro (cc := b_L_cut) (nL := 6) (by decide) [(0, .ref (a 0)), (1, .int (nI t)), (2, .int (nI r1)), (3, .int (nI v)), (4, .int (bI b))] rfl (Nat.le_of_ble_eq_true rfl) ?_
  intro p e s m below meth c A h hr htab
  refine r_aload_n (pc := 0) h 0 d_L_cut_0 rfl rfl ?_
  refine r_iload_n (pc := 1) h 1 d_L_cut_1 rfl rfl ?_
  refine r_iload_n (pc := 2) h 2 d_L_cut_2 rfl rfl ?_
  refine r_iload_n (pc := 3) h 3 d_L_cut_3 rfl rfl ?_
  refine r_iload (pc := 4) h 4 d_L_cut_4 rfl ?_
  refine r_invVv (pc := 6) h 0 (st := []) d_L_cut_6 ((c_cut t ht r1 v b h1 hv).frame (oc G o of)) (r_cV h wc_D_cut w_187 w_1 w_188 w_189 hd_D_cut ⟨(Nat.le_of_ble_eq_true rfl), (Nat.le_of_ble_eq_true rfl)⟩ rfl rfl) (ap_l cw_0) rfl rfl rfl (Nat.le_of_ble_eq_true rfl) ⟨(Nat.le_of_ble_eq_true rfl), (Nat.le_of_ble_eq_true rfl)⟩ rfl ?_
  refine r_goto (pc := 9) h (tgt := 16) d_L_cut_9 (by decide) ?_
  refine r_iconst (pc := 16) h (v := nI 0) d_L_cut_16 (by decide) ?_
  exact Wv.wid (Nat.le_of_ble_eq_true rfl) (Nat.le_of_ble_eq_true rfl) (r_iretP (pc := 17) h hr ⟨rfl, _, _, _, rfl, fun x hx => ((sv_mix hx).trans (sv_mix hx)).trans (sv_sb hv hx)⟩ d_L_cut_17)
theorem h_put (t : Nat) (ht : t < 16) (r1 v r2 : Nat) (h1 : r1 < 16) (hv : v < 10) (h2 : r2 < 16) : Hp l y_L_put (.codeWith y_L_put b_L_put 6 (some .int) [(0, 9, 12, 13)] :: TT) (rmX 8 140) G [.ref (a 0), .int (nI t), .int (nI r1), .int (nI v), .int (nI r2)] ((cw G a hd wk sp ct ky nm) ++ oc G o of) (fun v9 ws' => v9 = some (.int (nI 0)) ∧ ∃ (F wk' sp' : Nat → Int64), ws' = cw G a (va_up hd t F) wk' sp' ct ky nm ++ oc G o of ∧ ∀ x, x < 1024 → sv F x = sv (hd r1) (sb x v (sv (hd r2) x))) := by
  refine hp_intro (cc := b_L_put) (nL := 6) (by decide) [(0, .ref (a 0)), (1, .int (nI t)), (2, .int (nI r1)), (3, .int (nI v)), (4, .int (nI r2))] rfl (Nat.le_of_ble_eq_true rfl) ?_
  intro p e s m below meth c A h hr htab
  refine r_aload_n (pc := 0) h 0 d_L_put_0 rfl rfl ?_
  refine r_iload_n (pc := 1) h 1 d_L_put_1 rfl rfl ?_
  refine r_iload_n (pc := 2) h 2 d_L_put_2 rfl rfl ?_
  refine r_iload_n (pc := 3) h 3 d_L_put_3 rfl rfl ?_
  refine r_iload (pc := 4) h 4 d_L_put_4 rfl ?_
  refine r_invVv (pc := 6) h 0 (st := []) d_L_put_6 ((c_put t ht r1 v r2 h1 hv h2).frame (oc G o of)) (r_cV h wc_D_put w_207 w_1 w_208 w_209 hd_D_put ⟨(Nat.le_of_ble_eq_true rfl), (Nat.le_of_ble_eq_true rfl)⟩ rfl rfl) (ap_l cw_0) rfl rfl rfl (Nat.le_of_ble_eq_true rfl) ⟨(Nat.le_of_ble_eq_true rfl), (Nat.le_of_ble_eq_true rfl)⟩ rfl ?_
  refine r_goto (pc := 9) h (tgt := 16) d_L_put_9 (by decide) ?_
  refine r_iconst (pc := 16) h (v := nI 0) d_L_put_16 (by decide) ?_
  exact Wv.wid (Nat.le_of_ble_eq_true rfl) (Nat.le_of_ble_eq_true rfl) (r_iretP (pc := 17) h hr ⟨rfl, _, _, _, rfl, fun x hx => ((sv_mix hx).trans (sv_mix hx)).trans (sv_put hv hx)⟩ d_L_put_17)
theorem h_bound (t : Nat) (ht : t < 16) (r1 S : Nat) (b : Bool) (h1 : r1 < 16) (hS : S < 1024) : Hp l y_L_bound (.codeWith y_L_bound b_L_bound 6 (some .int) [(0, 9, 12, 13)] :: TT) (rmX 8 140) G [.ref (a 0), .int (nI t), .int (nI r1), .int (nI S), .int (bI b)] ((cw G a hd wk sp ct ky nm) ++ oc G o of) (fun v9 ws' => v9 = some (.int (nI 0)) ∧ ∃ (F wk' sp' : Nat → Int64), ws' = cw G a (va_up hd t F) wk' sp' ct ky nm ++ oc G o of ∧ ∀ x, x < 1024 → sv F x = bd (sv (hd r1)) S b 10 x) := by
  refine hp_intro (cc := b_L_bound) (nL := 6) (by decide) [(0, .ref (a 0)), (1, .int (nI t)), (2, .int (nI r1)), (3, .int (nI S)), (4, .int (bI b))] rfl (Nat.le_of_ble_eq_true rfl) ?_
  intro p e s m below meth c A h hr htab
  refine r_aload_n (pc := 0) h 0 d_L_bound_0 rfl rfl ?_
  refine r_iload_n (pc := 1) h 1 d_L_bound_1 rfl rfl ?_
  refine r_iload_n (pc := 2) h 2 d_L_bound_2 rfl rfl ?_
  refine r_iload_n (pc := 3) h 3 d_L_bound_3 rfl rfl ?_
  refine r_iload (pc := 4) h 4 d_L_bound_4 rfl ?_
  refine r_invVv (pc := 6) h 0 (st := []) d_L_bound_6 ((c_bound t ht r1 S b h1 hS).frame (oc G o of)) (r_cV h wc_D_bound w_214 w_1 w_215 w_216 hd_D_bound ⟨(Nat.le_of_ble_eq_true rfl), (Nat.le_of_ble_eq_true rfl)⟩ rfl rfl) (ap_l cw_0) rfl rfl rfl (Nat.le_of_ble_eq_true rfl) ⟨(Nat.le_of_ble_eq_true rfl), (Nat.le_of_ble_eq_true rfl)⟩ rfl ?_
  refine r_goto (pc := 9) h (tgt := 16) d_L_bound_9 (by decide) ?_
  refine r_iconst (pc := 16) h (v := nI 0) d_L_bound_16 (by decide) ?_
  exact Wv.wid (Nat.le_of_ble_eq_true rfl) (Nat.le_of_ble_eq_true rfl) (r_iretP (pc := 17) h hr ⟨rfl, _, _, _, rfl, fun x hx => ((sv_mix hx).trans (sv_bnd 10 (Nat.le_refl _) x hx)).trans (bd_ext (fun y hy => sv_mix hy) 10 (Nat.le_refl _) x hx)⟩ d_L_bound_17)
theorem h_swap (t : Nat) (ht : t < 16) (r1 v w : Nat) (h1 : r1 < 16) (hv : v < 10) (hw : w < 10) : Hp l y_L_swap (.codeWith y_L_swap b_L_swap 6 (some .int) [(0, 9, 12, 13)] :: TT) (rmX 8 140) G [.ref (a 0), .int (nI t), .int (nI r1), .int (nI v), .int (nI w)] ((cw G a hd wk sp ct ky nm) ++ oc G o of) (fun v9 ws' => v9 = some (.int (nI 0)) ∧ ∃ (F wk' sp' : Nat → Int64), ws' = cw G a (va_up hd t F) wk' sp' ct ky nm ++ oc G o of ∧ ∀ x, x < 1024 → sv F x = sv (hd r1) (swp x v w)) := by
  refine hp_intro (cc := b_L_swap) (nL := 6) (by decide) [(0, .ref (a 0)), (1, .int (nI t)), (2, .int (nI r1)), (3, .int (nI v)), (4, .int (nI w))] rfl (Nat.le_of_ble_eq_true rfl) ?_
  intro p e s m below meth c A h hr htab
  refine r_aload_n (pc := 0) h 0 d_L_swap_0 rfl rfl ?_
  refine r_iload_n (pc := 1) h 1 d_L_swap_1 rfl rfl ?_
  refine r_iload_n (pc := 2) h 2 d_L_swap_2 rfl rfl ?_
  refine r_iload_n (pc := 3) h 3 d_L_swap_3 rfl rfl ?_
  refine r_iload (pc := 4) h 4 d_L_swap_4 rfl ?_
  refine r_invVv (pc := 6) h 0 (st := []) d_L_swap_6 ((c_swap t ht r1 v w h1 hv hw).frame (oc G o of)) (r_cV h wc_D_swap w_229 w_1 w_230 w_231 hd_D_swap ⟨(Nat.le_of_ble_eq_true rfl), (Nat.le_of_ble_eq_true rfl)⟩ rfl rfl) (ap_l cw_0) rfl rfl rfl (Nat.le_of_ble_eq_true rfl) ⟨(Nat.le_of_ble_eq_true rfl), (Nat.le_of_ble_eq_true rfl)⟩ rfl ?_
  refine r_goto (pc := 9) h (tgt := 16) d_L_swap_9 (by decide) ?_
  refine r_iconst (pc := 16) h (v := nI 0) d_L_swap_16 (by decide) ?_
  exact Wv.wid (Nat.le_of_ble_eq_true rfl) (Nat.le_of_ble_eq_true rfl) (r_iretP (pc := 17) h hr ⟨rfl, _, _, _, rfl, fun x hx => ((sv_mix hx).trans (sv_mix hx)).trans (sv_swp2 hv hw hx (fun y hy => sv_mix hy))⟩ d_L_swap_17)
theorem hx_variable (hl : l.stackTraces = false) (t v : Int32) (hB : ¬ (okR 16 t ∧ okR 10 v)) : Hp l y_L_variable (.codeWith y_L_variable b_L_variable 4 (some .int) [(0, 6, 9, 13)] :: TT) (rmX 8 140) G [.ref (a 0), .int t, .int v] ((cw G a hd wk sp ct ky nm) ++ oc G o of) (fun v9 ws' => v9 = some (.int (nI 1)) ∧ ws' = ((cw G a hd wk sp ct ky nm) ++ oc G o of)) := by
  refine hp_intro (cc := b_L_variable) (nL := 4) (by decide) [(0, .ref (a 0)), (1, .int t), (2, .int v)] rfl (Nat.le_of_ble_eq_true rfl) ?_
  intro p e s m below meth c A h hr htab
  refine r_aload_n (pc := 0) h 0 d_L_variable_0 rfl rfl ?_
  refine r_iload_n (pc := 1) h 1 d_L_variable_1 rfl rfl ?_
  refine r_iload_n (pc := 2) h 2 d_L_variable_2 rfl rfl ?_
  refine r_catchV (pc := 3) h 0 (st := []) d_L_variable_3 (t_variable hl (a 0) t v hB) (r_cV h wc_D_variable w_59 w_1 w_60 w_61 hd_D_variable ⟨(Nat.le_of_ble_eq_true rfl), (Nat.le_of_ble_eq_true rfl)⟩ rfl rfl) (ap_l cw_0) rfl rfl rfl (Nat.le_of_ble_eq_true rfl) ⟨(Nat.le_of_ble_eq_true rfl), (Nat.le_of_ble_eq_true rfl)⟩ [] { startPc := 0, endPc := 6, handlerPc := 9, catchType := 13 } [] htab (fun z hz => absurd hz (by simp)) (by decide) (by decide) w_58 (List.mem_of_getElem? (i := 2) rfl) (fun q9 => ?_)
  show Wv p l e _ s m _ below meth c G A _ _ _ _ ((cw G a hd wk sp ct ky nm) ++ oc G o of) 9 [(0, .ref (a 0)), (1, .int t), (2, .int v)] [.ref q9]
  refine r_astore_n (pc := 9) h (lv' := [(3, .ref q9), (0, .ref (a 0)), (1, .int t), (2, .int v)]) d_L_variable_9 rfl (by decide) rfl ?_
  refine r_iconst (pc := 10) h (v := nI 1) d_L_variable_10 (by decide) ?_
  exact r_iretP (pc := 11) h hr ⟨rfl, rfl⟩ d_L_variable_11
theorem hx_only (hl : l.stackTraces = false) (t x : Int32) (hB : ¬ (okR 16 t ∧ okR 1024 x)) : Hp l y_L_only (.codeWith y_L_only b_L_only 4 (some .int) [(0, 6, 9, 13)] :: TT) (rmX 8 140) G [.ref (a 0), .int t, .int x] ((cw G a hd wk sp ct ky nm) ++ oc G o of) (fun v9 ws' => v9 = some (.int (nI 1)) ∧ ws' = ((cw G a hd wk sp ct ky nm) ++ oc G o of)) := by
  refine hp_intro (cc := b_L_only) (nL := 4) (by decide) [(0, .ref (a 0)), (1, .int t), (2, .int x)] rfl (Nat.le_of_ble_eq_true rfl) ?_
  intro p e s m below meth c A h hr htab
  refine r_aload_n (pc := 0) h 0 d_L_only_0 rfl rfl ?_
  refine r_iload_n (pc := 1) h 1 d_L_only_1 rfl rfl ?_
  refine r_iload_n (pc := 2) h 2 d_L_only_2 rfl rfl ?_
  refine r_catchV (pc := 3) h 0 (st := []) d_L_only_3 (t_only hl (a 0) t x hB) (r_cV h wc_D_only w_149 w_1 w_150 w_151 hd_D_only ⟨(Nat.le_of_ble_eq_true rfl), (Nat.le_of_ble_eq_true rfl)⟩ rfl rfl) (ap_l cw_0) rfl rfl rfl (Nat.le_of_ble_eq_true rfl) ⟨(Nat.le_of_ble_eq_true rfl), (Nat.le_of_ble_eq_true rfl)⟩ [] { startPc := 0, endPc := 6, handlerPc := 9, catchType := 13 } [] htab (fun z hz => absurd hz (by simp)) (by decide) (by decide) w_58 (List.mem_of_getElem? (i := 2) rfl) (fun q9 => ?_)
  show Wv p l e _ s m _ below meth c G A _ _ _ _ ((cw G a hd wk sp ct ky nm) ++ oc G o of) 9 [(0, .ref (a 0)), (1, .int t), (2, .int x)] [.ref q9]
  refine r_astore_n (pc := 9) h (lv' := [(3, .ref q9), (0, .ref (a 0)), (1, .int t), (2, .int x)]) d_L_only_9 rfl (by decide) rfl ?_
  refine r_iconst (pc := 10) h (v := nI 1) d_L_only_10 (by decide) ?_
  exact r_iretP (pc := 11) h hr ⟨rfl, rfl⟩ d_L_only_11
theorem hx_join (hl : l.stackTraces = false) (t k r1 r2 : Int32) (hB : ¬ (okR 16 t ∧ okR 5 k ∧ okR 16 r1 ∧ okR 16 r2)) : Hp l y_L_join (.codeWith y_L_join b_L_join 6 (some .int) [(0, 9, 12, 13)] :: TT) (rmX 8 140) G [.ref (a 0), .int t, .int k, .int r1, .int r2] ((cw G a hd wk sp ct ky nm) ++ oc G o of) (fun v9 ws' => v9 = some (.int (nI 1)) ∧ ws' = ((cw G a hd wk sp ct ky nm) ++ oc G o of)) := by
  refine hp_intro (cc := b_L_join) (nL := 6) (by decide) [(0, .ref (a 0)), (1, .int t), (2, .int k), (3, .int r1), (4, .int r2)] rfl (Nat.le_of_ble_eq_true rfl) ?_
  intro p e s m below meth c A h hr htab
  refine r_aload_n (pc := 0) h 0 d_L_join_0 rfl rfl ?_
  refine r_iload_n (pc := 1) h 1 d_L_join_1 rfl rfl ?_
  refine r_iload_n (pc := 2) h 2 d_L_join_2 rfl rfl ?_
  refine r_iload_n (pc := 3) h 3 d_L_join_3 rfl rfl ?_
  refine r_iload (pc := 4) h 4 d_L_join_4 rfl ?_
  refine r_catchV (pc := 6) h 0 (st := []) d_L_join_6 (t_join hl (a 0) t k r1 r2 hB) (r_cV h wc_D_join w_163 w_1 w_164 w_165 hd_D_join ⟨(Nat.le_of_ble_eq_true rfl), (Nat.le_of_ble_eq_true rfl)⟩ rfl rfl) (ap_l cw_0) rfl rfl rfl (Nat.le_of_ble_eq_true rfl) ⟨(Nat.le_of_ble_eq_true rfl), (Nat.le_of_ble_eq_true rfl)⟩ [] { startPc := 0, endPc := 9, handlerPc := 12, catchType := 13 } [] htab (fun z hz => absurd hz (by simp)) (by decide) (by decide) w_58 (List.mem_of_getElem? (i := 2) rfl) (fun q9 => ?_)
  show Wv p l e _ s m _ below meth c G A _ _ _ _ ((cw G a hd wk sp ct ky nm) ++ oc G o of) 12 [(0, .ref (a 0)), (1, .int t), (2, .int k), (3, .int r1), (4, .int r2)] [.ref q9]
  refine r_astore (pc := 12) h (lv' := [(5, .ref q9), (0, .ref (a 0)), (1, .int t), (2, .int k), (3, .int r1), (4, .int r2)]) d_L_join_12 (by decide) rfl ?_
  refine r_iconst (pc := 14) h (v := nI 1) d_L_join_14 (by decide) ?_
  exact r_iretP (pc := 15) h hr ⟨rfl, rfl⟩ d_L_join_15
theorem hx_choose (hl : l.stackTraces = false) (t r1 r2 r3 : Int32) (hB : ¬ (okR 16 t ∧ okR 16 r1 ∧ okR 16 r2 ∧ okR 16 r3)) : Hp l y_L_choose (.codeWith y_L_choose b_L_choose 6 (some .int) [(0, 9, 12, 13)] :: TT) (rmX 8 140) G [.ref (a 0), .int t, .int r1, .int r2, .int r3] ((cw G a hd wk sp ct ky nm) ++ oc G o of) (fun v9 ws' => v9 = some (.int (nI 1)) ∧ ws' = ((cw G a hd wk sp ct ky nm) ++ oc G o of)) := by
  refine hp_intro (cc := b_L_choose) (nL := 6) (by decide) [(0, .ref (a 0)), (1, .int t), (2, .int r1), (3, .int r2), (4, .int r3)] rfl (Nat.le_of_ble_eq_true rfl) ?_
  intro p e s m below meth c A h hr htab
  refine r_aload_n (pc := 0) h 0 d_L_choose_0 rfl rfl ?_
  refine r_iload_n (pc := 1) h 1 d_L_choose_1 rfl rfl ?_
  refine r_iload_n (pc := 2) h 2 d_L_choose_2 rfl rfl ?_
  refine r_iload_n (pc := 3) h 3 d_L_choose_3 rfl rfl ?_
  refine r_iload (pc := 4) h 4 d_L_choose_4 rfl ?_
  refine r_catchV (pc := 6) h 0 (st := []) d_L_choose_6 (t_choose hl (a 0) t r1 r2 r3 hB) (r_cV h wc_D_choose w_177 w_1 w_178 w_179 hd_D_choose ⟨(Nat.le_of_ble_eq_true rfl), (Nat.le_of_ble_eq_true rfl)⟩ rfl rfl) (ap_l cw_0) rfl rfl rfl (Nat.le_of_ble_eq_true rfl) ⟨(Nat.le_of_ble_eq_true rfl), (Nat.le_of_ble_eq_true rfl)⟩ [] { startPc := 0, endPc := 9, handlerPc := 12, catchType := 13 } [] htab (fun z hz => absurd hz (by simp)) (by decide) (by decide) w_58 (List.mem_of_getElem? (i := 2) rfl) (fun q9 => ?_)
  show Wv p l e _ s m _ below meth c G A _ _ _ _ ((cw G a hd wk sp ct ky nm) ++ oc G o of) 12 [(0, .ref (a 0)), (1, .int t), (2, .int r1), (3, .int r2), (4, .int r3)] [.ref q9]
  refine r_astore (pc := 12) h (lv' := [(5, .ref q9), (0, .ref (a 0)), (1, .int t), (2, .int r1), (3, .int r2), (4, .int r3)]) d_L_choose_12 (by decide) rfl ?_
  refine r_iconst (pc := 14) h (v := nI 1) d_L_choose_14 (by decide) ?_
  exact r_iretP (pc := 15) h hr ⟨rfl, rfl⟩ d_L_choose_15
theorem hx_cut (hl : l.stackTraces = false) (t r1 v z : Int32) (hB : ¬ (okR 16 t ∧ okR 16 r1 ∧ okR 10 v)) : Hp l y_L_cut (.codeWith y_L_cut b_L_cut 6 (some .int) [(0, 9, 12, 13)] :: TT) (rmX 8 140) G [.ref (a 0), .int t, .int r1, .int v, .int z] ((cw G a hd wk sp ct ky nm) ++ oc G o of) (fun v9 ws' => v9 = some (.int (nI 1)) ∧ ws' = ((cw G a hd wk sp ct ky nm) ++ oc G o of)) := by
  refine hp_intro (cc := b_L_cut) (nL := 6) (by decide) [(0, .ref (a 0)), (1, .int t), (2, .int r1), (3, .int v), (4, .int z)] rfl (Nat.le_of_ble_eq_true rfl) ?_
  intro p e s m below meth c A h hr htab
  refine r_aload_n (pc := 0) h 0 d_L_cut_0 rfl rfl ?_
  refine r_iload_n (pc := 1) h 1 d_L_cut_1 rfl rfl ?_
  refine r_iload_n (pc := 2) h 2 d_L_cut_2 rfl rfl ?_
  refine r_iload_n (pc := 3) h 3 d_L_cut_3 rfl rfl ?_
  refine r_iload (pc := 4) h 4 d_L_cut_4 rfl ?_
  refine r_catchV (pc := 6) h 0 (st := []) d_L_cut_6 (t_cut hl (a 0) t r1 v z hB) (r_cV h wc_D_cut w_187 w_1 w_188 w_189 hd_D_cut ⟨(Nat.le_of_ble_eq_true rfl), (Nat.le_of_ble_eq_true rfl)⟩ rfl rfl) (ap_l cw_0) rfl rfl rfl (Nat.le_of_ble_eq_true rfl) ⟨(Nat.le_of_ble_eq_true rfl), (Nat.le_of_ble_eq_true rfl)⟩ [] { startPc := 0, endPc := 9, handlerPc := 12, catchType := 13 } [] htab (fun z hz => absurd hz (by simp)) (by decide) (by decide) w_58 (List.mem_of_getElem? (i := 2) rfl) (fun q9 => ?_)
  show Wv p l e _ s m _ below meth c G A _ _ _ _ ((cw G a hd wk sp ct ky nm) ++ oc G o of) 12 [(0, .ref (a 0)), (1, .int t), (2, .int r1), (3, .int v), (4, .int z)] [.ref q9]
  refine r_astore (pc := 12) h (lv' := [(5, .ref q9), (0, .ref (a 0)), (1, .int t), (2, .int r1), (3, .int v), (4, .int z)]) d_L_cut_12 (by decide) rfl ?_
  refine r_iconst (pc := 14) h (v := nI 1) d_L_cut_14 (by decide) ?_
  exact r_iretP (pc := 15) h hr ⟨rfl, rfl⟩ d_L_cut_15
theorem hx_put (hl : l.stackTraces = false) (t r1 v r2 : Int32) (hB : ¬ (okR 16 t ∧ okR 16 r1 ∧ okR 10 v ∧ okR 16 r2)) : Hp l y_L_put (.codeWith y_L_put b_L_put 6 (some .int) [(0, 9, 12, 13)] :: TT) (rmX 8 140) G [.ref (a 0), .int t, .int r1, .int v, .int r2] ((cw G a hd wk sp ct ky nm) ++ oc G o of) (fun v9 ws' => v9 = some (.int (nI 1)) ∧ ws' = ((cw G a hd wk sp ct ky nm) ++ oc G o of)) := by
  refine hp_intro (cc := b_L_put) (nL := 6) (by decide) [(0, .ref (a 0)), (1, .int t), (2, .int r1), (3, .int v), (4, .int r2)] rfl (Nat.le_of_ble_eq_true rfl) ?_
  intro p e s m below meth c A h hr htab
  refine r_aload_n (pc := 0) h 0 d_L_put_0 rfl rfl ?_
  refine r_iload_n (pc := 1) h 1 d_L_put_1 rfl rfl ?_
  refine r_iload_n (pc := 2) h 2 d_L_put_2 rfl rfl ?_
  refine r_iload_n (pc := 3) h 3 d_L_put_3 rfl rfl ?_
  refine r_iload (pc := 4) h 4 d_L_put_4 rfl ?_
  refine r_catchV (pc := 6) h 0 (st := []) d_L_put_6 (t_put hl (a 0) t r1 v r2 hB) (r_cV h wc_D_put w_207 w_1 w_208 w_209 hd_D_put ⟨(Nat.le_of_ble_eq_true rfl), (Nat.le_of_ble_eq_true rfl)⟩ rfl rfl) (ap_l cw_0) rfl rfl rfl (Nat.le_of_ble_eq_true rfl) ⟨(Nat.le_of_ble_eq_true rfl), (Nat.le_of_ble_eq_true rfl)⟩ [] { startPc := 0, endPc := 9, handlerPc := 12, catchType := 13 } [] htab (fun z hz => absurd hz (by simp)) (by decide) (by decide) w_58 (List.mem_of_getElem? (i := 2) rfl) (fun q9 => ?_)
  show Wv p l e _ s m _ below meth c G A _ _ _ _ ((cw G a hd wk sp ct ky nm) ++ oc G o of) 12 [(0, .ref (a 0)), (1, .int t), (2, .int r1), (3, .int v), (4, .int r2)] [.ref q9]
  refine r_astore (pc := 12) h (lv' := [(5, .ref q9), (0, .ref (a 0)), (1, .int t), (2, .int r1), (3, .int v), (4, .int r2)]) d_L_put_12 (by decide) rfl ?_
  refine r_iconst (pc := 14) h (v := nI 1) d_L_put_14 (by decide) ?_
  exact r_iretP (pc := 15) h hr ⟨rfl, rfl⟩ d_L_put_15
theorem hx_bound (hl : l.stackTraces = false) (t r1 S z : Int32) (hB : ¬ (okR 16 t ∧ okR 16 r1 ∧ okR 1024 S)) : Hp l y_L_bound (.codeWith y_L_bound b_L_bound 6 (some .int) [(0, 9, 12, 13)] :: TT) (rmX 8 140) G [.ref (a 0), .int t, .int r1, .int S, .int z] ((cw G a hd wk sp ct ky nm) ++ oc G o of) (fun v9 ws' => v9 = some (.int (nI 1)) ∧ ws' = ((cw G a hd wk sp ct ky nm) ++ oc G o of)) := by
  refine hp_intro (cc := b_L_bound) (nL := 6) (by decide) [(0, .ref (a 0)), (1, .int t), (2, .int r1), (3, .int S), (4, .int z)] rfl (Nat.le_of_ble_eq_true rfl) ?_
  intro p e s m below meth c A h hr htab
  refine r_aload_n (pc := 0) h 0 d_L_bound_0 rfl rfl ?_
  refine r_iload_n (pc := 1) h 1 d_L_bound_1 rfl rfl ?_
  refine r_iload_n (pc := 2) h 2 d_L_bound_2 rfl rfl ?_
  refine r_iload_n (pc := 3) h 3 d_L_bound_3 rfl rfl ?_
  refine r_iload (pc := 4) h 4 d_L_bound_4 rfl ?_
  refine r_catchV (pc := 6) h 0 (st := []) d_L_bound_6 (t_bound hl (a 0) t r1 S z hB) (r_cV h wc_D_bound w_214 w_1 w_215 w_216 hd_D_bound ⟨(Nat.le_of_ble_eq_true rfl), (Nat.le_of_ble_eq_true rfl)⟩ rfl rfl) (ap_l cw_0) rfl rfl rfl (Nat.le_of_ble_eq_true rfl) ⟨(Nat.le_of_ble_eq_true rfl), (Nat.le_of_ble_eq_true rfl)⟩ [] { startPc := 0, endPc := 9, handlerPc := 12, catchType := 13 } [] htab (fun z hz => absurd hz (by simp)) (by decide) (by decide) w_58 (List.mem_of_getElem? (i := 2) rfl) (fun q9 => ?_)
  show Wv p l e _ s m _ below meth c G A _ _ _ _ ((cw G a hd wk sp ct ky nm) ++ oc G o of) 12 [(0, .ref (a 0)), (1, .int t), (2, .int r1), (3, .int S), (4, .int z)] [.ref q9]
  refine r_astore (pc := 12) h (lv' := [(5, .ref q9), (0, .ref (a 0)), (1, .int t), (2, .int r1), (3, .int S), (4, .int z)]) d_L_bound_12 (by decide) rfl ?_
  refine r_iconst (pc := 14) h (v := nI 1) d_L_bound_14 (by decide) ?_
  exact r_iretP (pc := 15) h hr ⟨rfl, rfl⟩ d_L_bound_15
theorem hx_swap (hl : l.stackTraces = false) (t r1 v w : Int32) (hB : ¬ (okR 16 t ∧ okR 16 r1 ∧ okR 10 v ∧ okR 10 w)) : Hp l y_L_swap (.codeWith y_L_swap b_L_swap 6 (some .int) [(0, 9, 12, 13)] :: TT) (rmX 8 140) G [.ref (a 0), .int t, .int r1, .int v, .int w] ((cw G a hd wk sp ct ky nm) ++ oc G o of) (fun v9 ws' => v9 = some (.int (nI 1)) ∧ ws' = ((cw G a hd wk sp ct ky nm) ++ oc G o of)) := by
  refine hp_intro (cc := b_L_swap) (nL := 6) (by decide) [(0, .ref (a 0)), (1, .int t), (2, .int r1), (3, .int v), (4, .int w)] rfl (Nat.le_of_ble_eq_true rfl) ?_
  intro p e s m below meth c A h hr htab
  refine r_aload_n (pc := 0) h 0 d_L_swap_0 rfl rfl ?_
  refine r_iload_n (pc := 1) h 1 d_L_swap_1 rfl rfl ?_
  refine r_iload_n (pc := 2) h 2 d_L_swap_2 rfl rfl ?_
  refine r_iload_n (pc := 3) h 3 d_L_swap_3 rfl rfl ?_
  refine r_iload (pc := 4) h 4 d_L_swap_4 rfl ?_
  refine r_catchV (pc := 6) h 0 (st := []) d_L_swap_6 (t_swap hl (a 0) t r1 v w hB) (r_cV h wc_D_swap w_229 w_1 w_230 w_231 hd_D_swap ⟨(Nat.le_of_ble_eq_true rfl), (Nat.le_of_ble_eq_true rfl)⟩ rfl rfl) (ap_l cw_0) rfl rfl rfl (Nat.le_of_ble_eq_true rfl) ⟨(Nat.le_of_ble_eq_true rfl), (Nat.le_of_ble_eq_true rfl)⟩ [] { startPc := 0, endPc := 9, handlerPc := 12, catchType := 13 } [] htab (fun z hz => absurd hz (by simp)) (by decide) (by decide) w_58 (List.mem_of_getElem? (i := 2) rfl) (fun q9 => ?_)
  show Wv p l e _ s m _ below meth c G A _ _ _ _ ((cw G a hd wk sp ct ky nm) ++ oc G o of) 12 [(0, .ref (a 0)), (1, .int t), (2, .int r1), (3, .int v), (4, .int w)] [.ref q9]
  refine r_astore (pc := 12) h (lv' := [(5, .ref q9), (0, .ref (a 0)), (1, .int t), (2, .int r1), (3, .int v), (4, .int w)]) d_L_swap_12 (by decide) rfl ?_
  refine r_iconst (pc := 14) h (v := nI 1) d_L_swap_14 (by decide) ?_
  exact r_iretP (pc := 15) h hr ⟨rfl, rfl⟩ d_L_swap_15
theorem hx_is (hl : l.stackTraces = false) (r1 x : Int32) (hB : ¬ (okR 16 r1 ∧ okR 1024 x)) : Hp l y_L_is (.codeWith y_L_is b_L_is 5 (some .int) [(0, 17, 20, 13)] :: TT) (rmX 8 140) G [.ref (a 0), .int r1, .int x, .ref o] ((cw G a hd wk sp ct ky nm) ++ oc G o of) (fun v9 ws' => v9 = some (.int (nI 1)) ∧ ws' = ((cw G a hd wk sp ct ky nm) ++ oc G o of)) := by
  refine hp_intro (cc := b_L_is) (nL := 5) (by decide) [(0, .ref (a 0)), (1, .int r1), (2, .int x), (3, .ref o)] rfl (Nat.le_of_ble_eq_true rfl) ?_
  intro p e s m below meth c A h hr htab
  refine r_aload_n (pc := 0) h 3 d_L_is_0 rfl rfl ?_
  refine r_iconst (pc := 1) h (v := nI 0) d_L_is_1 (by decide) ?_
  refine r_aload_n (pc := 2) h 0 d_L_is_2 rfl rfl ?_
  refine r_iload_n (pc := 3) h 1 d_L_is_3 rfl rfl ?_
  refine r_iload_n (pc := 4) h 2 d_L_is_4 rfl rfl ?_
  refine r_catchV (pc := 5) h 0 (st := [.int (nI 0), .ref o]) d_L_is_5 (t_is hl (a 0) r1 x hB) (r_cV h wc_D_is w_236 w_1 w_237 w_238 hd_D_is ⟨(Nat.le_of_ble_eq_true rfl), (Nat.le_of_ble_eq_true rfl)⟩ rfl rfl) (ap_l cw_0) rfl rfl rfl (Nat.le_of_ble_eq_true rfl) ⟨(Nat.le_of_ble_eq_true rfl), (Nat.le_of_ble_eq_true rfl)⟩ [] { startPc := 0, endPc := 17, handlerPc := 20, catchType := 13 } [] htab (fun z hz => absurd hz (by simp)) (by decide) (by decide) w_58 (List.mem_of_getElem? (i := 2) rfl) (fun q9 => ?_)
  show Wv p l e _ s m _ below meth c G A _ _ _ _ ((cw G a hd wk sp ct ky nm) ++ oc G o of) 20 [(0, .ref (a 0)), (1, .int r1), (2, .int x), (3, .ref o)] [.ref q9]
  refine r_astore (pc := 20) h (lv' := [(4, .ref q9), (0, .ref (a 0)), (1, .int r1), (2, .int x), (3, .ref o)]) d_L_is_20 (by decide) rfl ?_
  refine r_iconst (pc := 22) h (v := nI 1) d_L_is_22 (by decide) ?_
  exact r_iretP (pc := 23) h hr ⟨rfl, rfl⟩ d_L_is_23
theorem hx_ways (hl : l.stackTraces = false) (r1 : Int32) (hB : ¬ (okR 16 r1)) : Hp l y_L_ways (.codeWith y_L_ways b_L_ways 4 (some .int) [(0, 9, 12, 13)] :: TT) (rmX 8 140) G [.ref (a 0), .int r1, .ref o] ((cw G a hd wk sp ct ky nm) ++ oc G o of) (fun v9 ws' => v9 = some (.int (nI 1)) ∧ ws' = ((cw G a hd wk sp ct ky nm) ++ oc G o of)) := by
  refine hp_intro (cc := b_L_ways) (nL := 4) (by decide) [(0, .ref (a 0)), (1, .int r1), (2, .ref o)] rfl (Nat.le_of_ble_eq_true rfl) ?_
  intro p e s m below meth c A h hr htab
  refine r_aload_n (pc := 0) h 2 d_L_ways_0 rfl rfl ?_
  refine r_iconst (pc := 1) h (v := nI 0) d_L_ways_1 (by decide) ?_
  refine r_aload_n (pc := 2) h 0 d_L_ways_2 rfl rfl ?_
  refine r_iload_n (pc := 3) h 1 d_L_ways_3 rfl rfl ?_
  refine r_catchV (pc := 4) h 0 (st := [.int (nI 0), .ref o]) d_L_ways_4 (t_ways hl (a 0) r1 hB) (r_cV h wc_D_ways w_246 w_1 w_247 w_248 hd_D_ways ⟨(Nat.le_of_ble_eq_true rfl), (Nat.le_of_ble_eq_true rfl)⟩ rfl rfl) (ap_l cw_0) rfl rfl rfl (Nat.le_of_ble_eq_true rfl) ⟨(Nat.le_of_ble_eq_true rfl), (Nat.le_of_ble_eq_true rfl)⟩ [] { startPc := 0, endPc := 9, handlerPc := 12, catchType := 13 } [] htab (fun z hz => absurd hz (by simp)) (by decide) (by decide) w_58 (List.mem_of_getElem? (i := 2) rfl) (fun q9 => ?_)
  show Wv p l e _ s m _ below meth c G A _ _ _ _ ((cw G a hd wk sp ct ky nm) ++ oc G o of) 12 [(0, .ref (a 0)), (1, .int r1), (2, .ref o)] [.ref q9]
  refine r_astore_n (pc := 12) h (lv' := [(3, .ref q9), (0, .ref (a 0)), (1, .int r1), (2, .ref o)]) d_L_ways_12 rfl (by decide) rfl ?_
  refine r_iconst (pc := 13) h (v := nI 1) d_L_ways_13 (by decide) ?_
  exact r_iretP (pc := 14) h hr ⟨rfl, rfl⟩ d_L_ways_14
theorem hx_first (hl : l.stackTraces = false) (r1 : Int32) (hB : ¬ (okR 16 r1)) : Hp l y_L_first (.codeWith y_L_first b_L_first 4 (some .int) [(0, 9, 12, 13), (0, 9, 15, 49)] :: TT) (rmX 8 140) G [.ref (a 0), .int r1, .ref o] ((cw G a hd wk sp ct ky nm) ++ oc G o of) (fun v9 ws' => v9 = some (.int (nI 1)) ∧ ws' = ((cw G a hd wk sp ct ky nm) ++ oc G o of)) := by
  refine hp_intro (cc := b_L_first) (nL := 4) (by decide) [(0, .ref (a 0)), (1, .int r1), (2, .ref o)] rfl (Nat.le_of_ble_eq_true rfl) ?_
  intro p e s m below meth c A h hr htab
  refine r_aload_n (pc := 0) h 2 d_L_first_0 rfl rfl ?_
  refine r_iconst (pc := 1) h (v := nI 0) d_L_first_1 (by decide) ?_
  refine r_aload_n (pc := 2) h 0 d_L_first_2 rfl rfl ?_
  refine r_iload_n (pc := 3) h 1 d_L_first_3 rfl rfl ?_
  refine r_catchV (pc := 4) h 0 (st := [.int (nI 0), .ref o]) d_L_first_4 (t_first hl (a 0) r1 hB) (r_cV h wc_D_first w_260 w_1 w_261 w_262 hd_D_first ⟨(Nat.le_of_ble_eq_true rfl), (Nat.le_of_ble_eq_true rfl)⟩ rfl rfl) (ap_l cw_0) rfl rfl rfl (Nat.le_of_ble_eq_true rfl) ⟨(Nat.le_of_ble_eq_true rfl), (Nat.le_of_ble_eq_true rfl)⟩ [] { startPc := 0, endPc := 9, handlerPc := 12, catchType := 13 } [{ startPc := 0, endPc := 9, handlerPc := 15, catchType := 49 }] htab (fun z hz => absurd hz (by simp)) (by decide) (by decide) w_58 (List.mem_of_getElem? (i := 2) rfl) (fun q9 => ?_)
  show Wv p l e _ s m _ below meth c G A _ _ _ _ ((cw G a hd wk sp ct ky nm) ++ oc G o of) 12 [(0, .ref (a 0)), (1, .int r1), (2, .ref o)] [.ref q9]
  refine r_astore_n (pc := 12) h (lv' := [(3, .ref q9), (0, .ref (a 0)), (1, .int r1), (2, .ref o)]) d_L_first_12 rfl (by decide) rfl ?_
  refine r_iconst (pc := 13) h (v := nI 1) d_L_first_13 (by decide) ?_
  exact r_iretP (pc := 14) h hr ⟨rfl, rfl⟩ d_L_first_14
theorem hx_hangs (hl : l.stackTraces = false) (r1 : Int32) (hB : ¬ (okR 16 r1)) : Hp l y_L_hangs (.codeWith y_L_hangs b_L_hangs 4 (some .int) [(0, 9, 12, 13)] :: TT) (rmX 8 140) G [.ref (a 0), .int r1, .ref o] ((cw G a hd wk sp ct ky nm) ++ oc G o of) (fun v9 ws' => v9 = some (.int (nI 1)) ∧ ws' = ((cw G a hd wk sp ct ky nm) ++ oc G o of)) := by
  refine hp_intro (cc := b_L_hangs) (nL := 4) (by decide) [(0, .ref (a 0)), (1, .int r1), (2, .ref o)] rfl (Nat.le_of_ble_eq_true rfl) ?_
  intro p e s m below meth c A h hr htab
  refine r_aload_n (pc := 0) h 2 d_L_hangs_0 rfl rfl ?_
  refine r_iconst (pc := 1) h (v := nI 0) d_L_hangs_1 (by decide) ?_
  refine r_aload_n (pc := 2) h 0 d_L_hangs_2 rfl rfl ?_
  refine r_iload_n (pc := 3) h 1 d_L_hangs_3 rfl rfl ?_
  refine r_catchV (pc := 4) h 0 (st := [.int (nI 0), .ref o]) d_L_hangs_4 (t_hangs hl (a 0) r1 hB) (r_cV h wc_D_hangs w_291 w_1 w_292 w_293 hd_D_hangs ⟨(Nat.le_of_ble_eq_true rfl), (Nat.le_of_ble_eq_true rfl)⟩ rfl rfl) (ap_l cw_0) rfl rfl rfl (Nat.le_of_ble_eq_true rfl) ⟨(Nat.le_of_ble_eq_true rfl), (Nat.le_of_ble_eq_true rfl)⟩ [] { startPc := 0, endPc := 9, handlerPc := 12, catchType := 13 } [] htab (fun z hz => absurd hz (by simp)) (by decide) (by decide) w_58 (List.mem_of_getElem? (i := 2) rfl) (fun q9 => ?_)
  show Wv p l e _ s m _ below meth c G A _ _ _ _ ((cw G a hd wk sp ct ky nm) ++ oc G o of) 12 [(0, .ref (a 0)), (1, .int r1), (2, .ref o)] [.ref q9]
  refine r_astore_n (pc := 12) h (lv' := [(3, .ref q9), (0, .ref (a 0)), (1, .int r1), (2, .ref o)]) d_L_hangs_12 rfl (by decide) rfl ?_
  refine r_iconst (pc := 13) h (v := nI 1) d_L_hangs_13 (by decide) ?_
  exact r_iretP (pc := 14) h hr ⟨rfl, rfl⟩ d_L_hangs_14
theorem hx_same (hl : l.stackTraces = false) (r1 r2 : Int32) (hB : ¬ (okR 16 r1 ∧ okR 16 r2)) : Hp l y_L_same (.codeWith y_L_same b_L_same 5 (some .int) [(0, 17, 20, 13)] :: TT) (rmX 8 140) G [.ref (a 0), .int r1, .int r2, .ref o] ((cw G a hd wk sp ct ky nm) ++ oc G o of) (fun v9 ws' => v9 = some (.int (nI 1)) ∧ ws' = ((cw G a hd wk sp ct ky nm) ++ oc G o of)) := by
  refine hp_intro (cc := b_L_same) (nL := 5) (by decide) [(0, .ref (a 0)), (1, .int r1), (2, .int r2), (3, .ref o)] rfl (Nat.le_of_ble_eq_true rfl) ?_
  intro p e s m below meth c A h hr htab
  refine r_aload_n (pc := 0) h 3 d_L_same_0 rfl rfl ?_
  refine r_iconst (pc := 1) h (v := nI 0) d_L_same_1 (by decide) ?_
  refine r_aload_n (pc := 2) h 0 d_L_same_2 rfl rfl ?_
  refine r_iload_n (pc := 3) h 1 d_L_same_3 rfl rfl ?_
  refine r_iload_n (pc := 4) h 2 d_L_same_4 rfl rfl ?_
  refine r_catchV (pc := 5) h 0 (st := [.int (nI 0), .ref o]) d_L_same_5 (t_same hl (a 0) r1 r2 hB) (r_cV h wc_D_same w_301 w_1 w_302 w_303 hd_D_same ⟨(Nat.le_of_ble_eq_true rfl), (Nat.le_of_ble_eq_true rfl)⟩ rfl rfl) (ap_l cw_0) rfl rfl rfl (Nat.le_of_ble_eq_true rfl) ⟨(Nat.le_of_ble_eq_true rfl), (Nat.le_of_ble_eq_true rfl)⟩ [] { startPc := 0, endPc := 17, handlerPc := 20, catchType := 13 } [] htab (fun z hz => absurd hz (by simp)) (by decide) (by decide) w_58 (List.mem_of_getElem? (i := 2) rfl) (fun q9 => ?_)
  show Wv p l e _ s m _ below meth c G A _ _ _ _ ((cw G a hd wk sp ct ky nm) ++ oc G o of) 20 [(0, .ref (a 0)), (1, .int r1), (2, .int r2), (3, .ref o)] [.ref q9]
  refine r_astore (pc := 20) h (lv' := [(4, .ref q9), (0, .ref (a 0)), (1, .int r1), (2, .int r2), (3, .ref o)]) d_L_same_20 (by decide) rfl ?_
  refine r_iconst (pc := 22) h (v := nI 1) d_L_same_22 (by decide) ?_
  exact r_iretP (pc := 23) h hr ⟨rfl, rfl⟩ d_L_same_23
theorem hx_parts (hl : l.stackTraces = false) (r1 : Int32) (hB : ¬ (okR 16 r1)) : Hp l y_L_parts (.codeWith y_L_parts b_L_parts 4 (some .int) [(0, 9, 12, 13)] :: TT) (rmX 8 140) G [.ref (a 0), .int r1, .ref o] ((cw G a hd wk sp ct ky nm) ++ oc G o of) (fun v9 ws' => v9 = some (.int (nI 1)) ∧ ws' = ((cw G a hd wk sp ct ky nm) ++ oc G o of)) := by
  refine hp_intro (cc := b_L_parts) (nL := 4) (by decide) [(0, .ref (a 0)), (1, .int r1), (2, .ref o)] rfl (Nat.le_of_ble_eq_true rfl) ?_
  intro p e s m below meth c A h hr htab
  refine r_aload_n (pc := 0) h 2 d_L_parts_0 rfl rfl ?_
  refine r_iconst (pc := 1) h (v := nI 0) d_L_parts_1 (by decide) ?_
  refine r_aload_n (pc := 2) h 0 d_L_parts_2 rfl rfl ?_
  refine r_iload_n (pc := 3) h 1 d_L_parts_3 rfl rfl ?_
  refine r_catchV (pc := 4) h 0 (st := [.int (nI 0), .ref o]) d_L_parts_4 (t_parts hl (a 0) r1 hB) (r_cV h wc_D_parts w_308 w_1 w_309 w_310 hd_D_parts ⟨(Nat.le_of_ble_eq_true rfl), (Nat.le_of_ble_eq_true rfl)⟩ rfl rfl) (ap_l cw_0) rfl rfl rfl (Nat.le_of_ble_eq_true rfl) ⟨(Nat.le_of_ble_eq_true rfl), (Nat.le_of_ble_eq_true rfl)⟩ [] { startPc := 0, endPc := 9, handlerPc := 12, catchType := 13 } [] htab (fun z hz => absurd hz (by simp)) (by decide) (by decide) w_58 (List.mem_of_getElem? (i := 2) rfl) (fun q9 => ?_)
  show Wv p l e _ s m _ below meth c G A _ _ _ _ ((cw G a hd wk sp ct ky nm) ++ oc G o of) 12 [(0, .ref (a 0)), (1, .int r1), (2, .ref o)] [.ref q9]
  refine r_astore_n (pc := 12) h (lv' := [(3, .ref q9), (0, .ref (a 0)), (1, .int r1), (2, .ref o)]) d_L_parts_12 rfl (by decide) rfl ?_
  refine r_iconst (pc := 13) h (v := nI 1) d_L_parts_13 (by decide) ?_
  exact r_iretP (pc := 14) h hr ⟨rfl, rfl⟩ d_L_parts_14
theorem hx_together (hl : l.stackTraces = false) (r1 r2 : Int32) (hB : ¬ (¬ r1 < 0 ∧ ¬ r2 ≤ r1 ∧ r2 ≤ nI 16)) : Hp l y_L_together (.codeWith y_L_together b_L_together 5 (some .int) [(0, 10, 13, 13)] :: TT) (rmX 8 140) G [.ref (a 0), .int r1, .int r2, .ref o] ((cw G a hd wk sp ct ky nm) ++ oc G o of) (fun v9 ws' => v9 = some (.int (nI 1)) ∧ ws' = ((cw G a hd wk sp ct ky nm) ++ oc G o of)) := by
  refine hp_intro (cc := b_L_together) (nL := 5) (by decide) [(0, .ref (a 0)), (1, .int r1), (2, .int r2), (3, .ref o)] rfl (Nat.le_of_ble_eq_true rfl) ?_
  intro p e s m below meth c A h hr htab
  refine r_aload_n (pc := 0) h 3 d_L_together_0 rfl rfl ?_
  refine r_iconst (pc := 1) h (v := nI 0) d_L_together_1 (by decide) ?_
  refine r_aload_n (pc := 2) h 0 d_L_together_2 rfl rfl ?_
  refine r_iload_n (pc := 3) h 1 d_L_together_3 rfl rfl ?_
  refine r_iload_n (pc := 4) h 2 d_L_together_4 rfl rfl ?_
  refine r_catchV (pc := 5) h 0 (st := [.int (nI 0), .ref o]) d_L_together_5 (t_together hl (a 0) r1 r2 hB) (r_cV h wc_D_together w_340 w_1 w_341 w_342 hd_D_together ⟨(Nat.le_of_ble_eq_true rfl), (Nat.le_of_ble_eq_true rfl)⟩ rfl rfl) (ap_l cw_0) rfl rfl rfl (Nat.le_of_ble_eq_true rfl) ⟨(Nat.le_of_ble_eq_true rfl), (Nat.le_of_ble_eq_true rfl)⟩ [] { startPc := 0, endPc := 10, handlerPc := 13, catchType := 13 } [] htab (fun z hz => absurd hz (by simp)) (by decide) (by decide) w_58 (List.mem_of_getElem? (i := 2) rfl) (fun q9 => ?_)
  show Wv p l e _ s m _ below meth c G A _ _ _ _ ((cw G a hd wk sp ct ky nm) ++ oc G o of) 13 [(0, .ref (a 0)), (1, .int r1), (2, .int r2), (3, .ref o)] [.ref q9]
  refine r_astore (pc := 13) h (lv' := [(4, .ref q9), (0, .ref (a 0)), (1, .int r1), (2, .int r2), (3, .ref o)]) d_L_together_13 (by decide) rfl ?_
  refine r_iconst (pc := 15) h (v := nI 1) d_L_together_15 (by decide) ?_
  exact r_iretP (pc := 16) h hr ⟨rfl, rfl⟩ d_L_together_16
theorem h_is (r1 x : Nat) (h1 : r1 < 16) (hx : x < 1024) : Hp l y_L_is (.codeWith y_L_is b_L_is 5 (some .int) [(0, 17, 20, 13)] :: TT) (rmX 8 140) G [.ref (a 0), .int (nI r1), .int (nI x), .ref o] ((cw G a hd wk sp ct ky nm) ++ oc G o of) (fun v9 ws' => v9 = some (.int (nI 0)) ∧ ∃ (wk' sp' : Nat → Int64) (ct' : Int32) (ky' nm' : Nat → Int32) (of' : Nat → Int64), ws' = cw G a hd wk' sp' ct' ky' nm' ++ oc G o of' ∧ of' 0 = bL (sv (hd r1) x)) := by
  refine hp_intro (cc := b_L_is) (nL := 5) (by decide) [(0, .ref (a 0)), (1, .int (nI r1)), (2, .int (nI x)), (3, .ref o)] rfl (Nat.le_of_ble_eq_true rfl) ?_
  intro p e s m below meth c A h hr htab
  refine r_aload_n (pc := 0) h 3 d_L_is_0 rfl rfl ?_
  refine r_iconst (pc := 1) h (v := nI 0) d_L_is_1 (by decide) ?_
  refine r_aload_n (pc := 2) h 0 d_L_is_2 rfl rfl ?_
  refine r_iload_n (pc := 3) h 1 d_L_is_3 rfl rfl ?_
  refine r_iload_n (pc := 4) h 2 d_L_is_4 rfl rfl ?_
  refine r_invVa (pc := 5) h 0 (st := [.int (nI 0), .ref o]) d_L_is_5 ((c_is r1 x h1 hx).frame (oc G o of)) (r_cV h wc_D_is w_236 w_1 w_237 w_238 hd_D_is ⟨(Nat.le_of_ble_eq_true rfl), (Nat.le_of_ble_eq_true rfl)⟩ rfl rfl) (ap_l cw_0) rfl rfl rfl (Nat.le_of_ble_eq_true rfl) ⟨(Nat.le_of_ble_eq_true rfl), (Nat.le_of_ble_eq_true rfl)⟩ rfl ?_
  refine r_if_eq (pc := 8) h (tgt := 15) d_L_is_8 (by decide) (fun q8 => ?_) (fun q8 => ?_)
  · have hb := bI_F q8
    refine r_lconst (pc := 15) h (v := bL (sv (hd r1) x)) d_L_is_15 (by rw [hb]; decide) ?_
    refine r_lastore (pc := 16) h 23 (ws' := ((cw G a hd wk sp ct ky nm) ++ oc G o (vp_updL of 0 (bL (sv (hd r1) x))))) 0 d_L_is_16 oc_g rfl (by decide) (by decide) oc_s ?_
    refine r_goto (pc := 17) h (tgt := 24) d_L_is_17 (by decide) ?_
    refine r_iconst (pc := 24) h (v := nI 0) d_L_is_24 (by decide) ?_
    exact Wv.wid (Nat.le_of_ble_eq_true rfl) (Nat.le_of_ble_eq_true rfl) (r_iretP (pc := 25) h hr ⟨rfl, _, _, _, _, _, _, rfl, pk_uLs⟩ d_L_is_25)
  · have hb := bI_T q8
    refine r_lconst (pc := 11) h (v := bL (sv (hd r1) x)) d_L_is_11 (by rw [hb]; decide) ?_
    refine r_goto (pc := 12) h (tgt := 16) d_L_is_12 (by decide) ?_
    refine r_lastore (pc := 16) h 23 (ws' := ((cw G a hd wk sp ct ky nm) ++ oc G o (vp_updL of 0 (bL (sv (hd r1) x))))) 0 d_L_is_16 oc_g rfl (by decide) (by decide) oc_s ?_
    refine r_goto (pc := 17) h (tgt := 24) d_L_is_17 (by decide) ?_
    refine r_iconst (pc := 24) h (v := nI 0) d_L_is_24 (by decide) ?_
    exact Wv.wid (Nat.le_of_ble_eq_true rfl) (Nat.le_of_ble_eq_true rfl) (r_iretP (pc := 25) h hr ⟨rfl, _, _, _, _, _, _, rfl, pk_uLs⟩ d_L_is_25)
theorem h_ways (r1 : Nat) (h1 : r1 < 16) : Hp l y_L_ways (.codeWith y_L_ways b_L_ways 4 (some .int) [(0, 9, 12, 13)] :: TT) (rmX 8 140) G [.ref (a 0), .int (nI r1), .ref o] ((cw G a hd wk sp ct ky nm) ++ oc G o of) (fun v9 ws' => v9 = some (.int (nI 0)) ∧ ∃ (wk' sp' : Nat → Int64) (ct' : Int32) (ky' nm' : Nat → Int32) (of' : Nat → Int64), ws' = cw G a hd wk' sp' ct' ky' nm' ++ oc G o of' ∧ of' 0 = (nI (wyN (hd r1) 16)).toInt64) := by
  refine hp_intro (cc := b_L_ways) (nL := 4) (by decide) [(0, .ref (a 0)), (1, .int (nI r1)), (2, .ref o)] rfl (Nat.le_of_ble_eq_true rfl) ?_
  intro p e s m below meth c A h hr htab
  refine r_aload_n (pc := 0) h 2 d_L_ways_0 rfl rfl ?_
  refine r_iconst (pc := 1) h (v := nI 0) d_L_ways_1 (by decide) ?_
  refine r_aload_n (pc := 2) h 0 d_L_ways_2 rfl rfl ?_
  refine r_iload_n (pc := 3) h 1 d_L_ways_3 rfl rfl ?_
  refine r_invVa (pc := 4) h 0 (st := [.int (nI 0), .ref o]) d_L_ways_4 ((c_ways r1 h1).frame (oc G o of)) (r_cV h wc_D_ways w_246 w_1 w_247 w_248 hd_D_ways ⟨(Nat.le_of_ble_eq_true rfl), (Nat.le_of_ble_eq_true rfl)⟩ rfl rfl) (ap_l cw_0) rfl rfl rfl (Nat.le_of_ble_eq_true rfl) ⟨(Nat.le_of_ble_eq_true rfl), (Nat.le_of_ble_eq_true rfl)⟩ rfl ?_
  refine r_i2l (pc := 7) h (z := (nI (wyN (hd r1) 16)).toInt64) d_L_ways_7 rfl ?_
  refine r_lastore (pc := 8) h 23 (ws' := ((cw G a hd wk sp ct ky nm) ++ oc G o (vp_updL of 0 ((nI (wyN (hd r1) 16)).toInt64)))) 0 d_L_ways_8 oc_g rfl (by decide) (by decide) oc_s ?_
  refine r_goto (pc := 9) h (tgt := 15) d_L_ways_9 (by decide) ?_
  refine r_iconst (pc := 15) h (v := nI 0) d_L_ways_15 (by decide) ?_
  exact Wv.wid (Nat.le_of_ble_eq_true rfl) (Nat.le_of_ble_eq_true rfl) (r_iretP (pc := 16) h hr ⟨rfl, _, _, _, _, _, _, rfl, pk_uLs⟩ d_L_ways_16)
theorem h_first (r1 x0 : Nat) (h1 : r1 < 16) (hF : isF (sv (hd r1)) x0) : Hp l y_L_first (.codeWith y_L_first b_L_first 4 (some .int) [(0, 9, 12, 13), (0, 9, 15, 49)] :: TT) (rmX 8 140) G [.ref (a 0), .int (nI r1), .ref o] ((cw G a hd wk sp ct ky nm) ++ oc G o of) (fun v9 ws' => v9 = some (.int (nI 0)) ∧ ∃ (wk' sp' : Nat → Int64) (ct' : Int32) (ky' nm' : Nat → Int32) (of' : Nat → Int64), ws' = cw G a hd wk' sp' ct' ky' nm' ++ oc G o of' ∧ of' 0 = (nI x0).toInt64) := by
  refine hp_intro (cc := b_L_first) (nL := 4) (by decide) [(0, .ref (a 0)), (1, .int (nI r1)), (2, .ref o)] rfl (Nat.le_of_ble_eq_true rfl) ?_
  intro p e s m below meth c A h hr htab
  refine r_aload_n (pc := 0) h 2 d_L_first_0 rfl rfl ?_
  refine r_iconst (pc := 1) h (v := nI 0) d_L_first_1 (by decide) ?_
  refine r_aload_n (pc := 2) h 0 d_L_first_2 rfl rfl ?_
  refine r_iload_n (pc := 3) h 1 d_L_first_3 rfl rfl ?_
  refine r_invVa (pc := 4) h 0 (st := [.int (nI 0), .ref o]) d_L_first_4 ((c_first r1 x0 h1 hF).frame (oc G o of)) (r_cV h wc_D_first w_260 w_1 w_261 w_262 hd_D_first ⟨(Nat.le_of_ble_eq_true rfl), (Nat.le_of_ble_eq_true rfl)⟩ rfl rfl) (ap_l cw_0) rfl rfl rfl (Nat.le_of_ble_eq_true rfl) ⟨(Nat.le_of_ble_eq_true rfl), (Nat.le_of_ble_eq_true rfl)⟩ rfl ?_
  refine r_i2l (pc := 7) h (z := (nI x0).toInt64) d_L_first_7 rfl ?_
  refine r_lastore (pc := 8) h 23 (ws' := ((cw G a hd ((fsq x0 (mix 16 (hd r1) wk) sp 10).1) ((fsq x0 (mix 16 (hd r1) wk) sp 10).2) ct ky nm) ++ oc G o (vp_updL of 0 ((nI x0).toInt64)))) 0 d_L_first_8 oc_g rfl (by decide) (by decide) oc_s ?_
  refine r_goto (pc := 9) h (tgt := 18) d_L_first_9 (by decide) ?_
  refine r_iconst (pc := 18) h (v := nI 0) d_L_first_18 (by decide) ?_
  exact Wv.wid (Nat.le_of_ble_eq_true rfl) (Nat.le_of_ble_eq_true rfl) (r_iretP (pc := 19) h hr ⟨rfl, _, _, _, _, _, _, rfl, pk_uLs⟩ d_L_first_19)
theorem h_hangs (r1 : Nat) (h1 : r1 < 16) : Hp l y_L_hangs (.codeWith y_L_hangs b_L_hangs 4 (some .int) [(0, 9, 12, 13)] :: TT) (rmX 8 140) G [.ref (a 0), .int (nI r1), .ref o] ((cw G a hd wk sp ct ky nm) ++ oc G o of) (fun v9 ws' => v9 = some (.int (nI 0)) ∧ ∃ (wk' sp' : Nat → Int64) (ct' : Int32) (ky' nm' : Nat → Int32) (of' : Nat → Int64), ws' = cw G a hd wk' sp' ct' ky' nm' ++ oc G o of' ∧ of' 0 = (nI (hgN (hd r1) 10)).toInt64) := by
  refine hp_intro (cc := b_L_hangs) (nL := 4) (by decide) [(0, .ref (a 0)), (1, .int (nI r1)), (2, .ref o)] rfl (Nat.le_of_ble_eq_true rfl) ?_
  intro p e s m below meth c A h hr htab
  refine r_aload_n (pc := 0) h 2 d_L_hangs_0 rfl rfl ?_
  refine r_iconst (pc := 1) h (v := nI 0) d_L_hangs_1 (by decide) ?_
  refine r_aload_n (pc := 2) h 0 d_L_hangs_2 rfl rfl ?_
  refine r_iload_n (pc := 3) h 1 d_L_hangs_3 rfl rfl ?_
  refine r_invVa (pc := 4) h 0 (st := [.int (nI 0), .ref o]) d_L_hangs_4 ((c_hangs r1 h1).frame (oc G o of)) (r_cV h wc_D_hangs w_291 w_1 w_292 w_293 hd_D_hangs ⟨(Nat.le_of_ble_eq_true rfl), (Nat.le_of_ble_eq_true rfl)⟩ rfl rfl) (ap_l cw_0) rfl rfl rfl (Nat.le_of_ble_eq_true rfl) ⟨(Nat.le_of_ble_eq_true rfl), (Nat.le_of_ble_eq_true rfl)⟩ rfl ?_
  refine r_i2l (pc := 7) h (z := (nI (hgN (hd r1) 10)).toInt64) d_L_hangs_7 rfl ?_
  refine r_lastore (pc := 8) h 23 (ws' := ((cw G a hd wk sp ct ky nm) ++ oc G o (vp_updL of 0 ((nI (hgN (hd r1) 10)).toInt64)))) 0 d_L_hangs_8 oc_g rfl (by decide) (by decide) oc_s ?_
  refine r_goto (pc := 9) h (tgt := 15) d_L_hangs_9 (by decide) ?_
  refine r_iconst (pc := 15) h (v := nI 0) d_L_hangs_15 (by decide) ?_
  exact Wv.wid (Nat.le_of_ble_eq_true rfl) (Nat.le_of_ble_eq_true rfl) (r_iretP (pc := 16) h hr ⟨rfl, _, _, _, _, _, _, rfl, pk_uLs⟩ d_L_hangs_16)
theorem h_same (r1 r2 : Nat) (h1 : r1 < 16) (h2 : r2 < 16) : Hp l y_L_same (.codeWith y_L_same b_L_same 5 (some .int) [(0, 17, 20, 13)] :: TT) (rmX 8 140) G [.ref (a 0), .int (nI r1), .int (nI r2), .ref o] ((cw G a hd wk sp ct ky nm) ++ oc G o of) (fun v9 ws' => v9 = some (.int (nI 0)) ∧ ∃ (wk' sp' : Nat → Int64) (ct' : Int32) (ky' nm' : Nat → Int32) (of' : Nat → Int64), ws' = cw G a hd wk' sp' ct' ky' nm' ++ oc G o of' ∧ of' 0 = bL (bD (∀ i, i < 16 → hd r1 i = hd r2 i))) := by
  refine hp_intro (cc := b_L_same) (nL := 5) (by decide) [(0, .ref (a 0)), (1, .int (nI r1)), (2, .int (nI r2)), (3, .ref o)] rfl (Nat.le_of_ble_eq_true rfl) ?_
  intro p e s m below meth c A h hr htab
  refine r_aload_n (pc := 0) h 3 d_L_same_0 rfl rfl ?_
  refine r_iconst (pc := 1) h (v := nI 0) d_L_same_1 (by decide) ?_
  refine r_aload_n (pc := 2) h 0 d_L_same_2 rfl rfl ?_
  refine r_iload_n (pc := 3) h 1 d_L_same_3 rfl rfl ?_
  refine r_iload_n (pc := 4) h 2 d_L_same_4 rfl rfl ?_
  refine r_invVa (pc := 5) h 0 (st := [.int (nI 0), .ref o]) d_L_same_5 ((c_same r1 r2 h1 h2).frame (oc G o of)) (r_cV h wc_D_same w_301 w_1 w_302 w_303 hd_D_same ⟨(Nat.le_of_ble_eq_true rfl), (Nat.le_of_ble_eq_true rfl)⟩ rfl rfl) (ap_l cw_0) rfl rfl rfl (Nat.le_of_ble_eq_true rfl) ⟨(Nat.le_of_ble_eq_true rfl), (Nat.le_of_ble_eq_true rfl)⟩ rfl ?_
  refine r_if_eq (pc := 8) h (tgt := 15) d_L_same_8 (by decide) (fun q8 => ?_) (fun q8 => ?_)
  · have hb := bI_F q8
    refine r_lconst (pc := 15) h (v := bL (bD (∀ i, i < 16 → hd r1 i = hd r2 i))) d_L_same_15 (by rw [hb]; decide) ?_
    refine r_lastore (pc := 16) h 23 (ws' := ((cw G a hd wk sp ct ky nm) ++ oc G o (vp_updL of 0 (bL (bD (∀ i, i < 16 → hd r1 i = hd r2 i)))))) 0 d_L_same_16 oc_g rfl (by decide) (by decide) oc_s ?_
    refine r_goto (pc := 17) h (tgt := 24) d_L_same_17 (by decide) ?_
    refine r_iconst (pc := 24) h (v := nI 0) d_L_same_24 (by decide) ?_
    exact Wv.wid (Nat.le_of_ble_eq_true rfl) (Nat.le_of_ble_eq_true rfl) (r_iretP (pc := 25) h hr ⟨rfl, _, _, _, _, _, _, rfl, pk_uLs⟩ d_L_same_25)
  · have hb := bI_T q8
    refine r_lconst (pc := 11) h (v := bL (bD (∀ i, i < 16 → hd r1 i = hd r2 i))) d_L_same_11 (by rw [hb]; decide) ?_
    refine r_goto (pc := 12) h (tgt := 16) d_L_same_12 (by decide) ?_
    refine r_lastore (pc := 16) h 23 (ws' := ((cw G a hd wk sp ct ky nm) ++ oc G o (vp_updL of 0 (bL (bD (∀ i, i < 16 → hd r1 i = hd r2 i)))))) 0 d_L_same_16 oc_g rfl (by decide) (by decide) oc_s ?_
    refine r_goto (pc := 17) h (tgt := 24) d_L_same_17 (by decide) ?_
    refine r_iconst (pc := 24) h (v := nI 0) d_L_same_24 (by decide) ?_
    exact Wv.wid (Nat.le_of_ble_eq_true rfl) (Nat.le_of_ble_eq_true rfl) (r_iretP (pc := 25) h hr ⟨rfl, _, _, _, _, _, _, rfl, pk_uLs⟩ d_L_same_25)
theorem h_parts (r1 : Nat) (h1 : r1 < 16) : Hp l y_L_parts (.codeWith y_L_parts b_L_parts 4 (some .int) [(0, 9, 12, 13)] :: TT) (rmX 8 140) G [.ref (a 0), .int (nI r1), .ref o] ((cw G a hd wk sp ct ky nm) ++ oc G o of) (fun v9 ws' => v9 = some (.int (nI 0)) ∧ ∃ (ct' : Int32) (ky' nm' : Nat → Int32) (of' : Nat → Int64) (L : List (Nat × List Bool)), ws' = cw G a hd wk sp ct' ky' nm' ++ oc G o of' ∧ of' 0 = (nI L.length).toInt64 ∧ L.Nodup ∧ ∀ c, c ∈ L ↔ PK (fun r => sv (hd r)) r1 (r1 + 1) 10 c) := by
  refine hp_intro (cc := b_L_parts) (nL := 4) (by decide) [(0, .ref (a 0)), (1, .int (nI r1)), (2, .ref o)] rfl (Nat.le_of_ble_eq_true rfl) ?_
  intro p e s m below meth c A h hr htab
  refine r_aload_n (pc := 0) h 2 d_L_parts_0 rfl rfl ?_
  refine r_iconst (pc := 1) h (v := nI 0) d_L_parts_1 (by decide) ?_
  refine r_aload_n (pc := 2) h 0 d_L_parts_2 rfl rfl ?_
  refine r_iload_n (pc := 3) h 1 d_L_parts_3 rfl rfl ?_
  refine r_invVP (pc := 4) h 0 (st := [.int (nI 0), .ref o]) d_L_parts_4 ((c_parts r1 h1).frame (oc G o of)) (r_cV h wc_D_parts w_308 w_1 w_309 w_310 hd_D_parts ⟨(Nat.le_of_ble_eq_true rfl), (Nat.le_of_ble_eq_true rfl)⟩ rfl rfl) (ap_l cw_0) rfl rfl rfl (Nat.le_of_ble_eq_true rfl) ⟨(Nat.le_of_ble_eq_true rfl), (Nat.le_of_ble_eq_true rfl)⟩ ?_
  rintro v ws' ⟨ws1, ⟨ct', ky', nm', L, rfl, hLn, hLm, rfl⟩, rfl⟩
  refine ⟨rfl, ?_⟩
  show Wv p l e _ s m _ below meth c G A _ _ _ _ ((cw G a hd wk sp ct' ky' nm') ++ oc G o of) 7 [(0, .ref (a 0)), (1, .int (nI r1)), (2, .ref o)] [.int (nI L.length), .int (nI 0), .ref o]
  refine r_i2l (pc := 7) h (z := (nI L.length).toInt64) d_L_parts_7 rfl ?_
  refine r_lastore (pc := 8) h 23 (ws' := ((cw G a hd wk sp ct' ky' nm') ++ oc G o (vp_updL of 0 ((nI L.length).toInt64)))) 0 d_L_parts_8 oc_g rfl (by decide) (by decide) oc_s ?_
  refine r_goto (pc := 9) h (tgt := 15) d_L_parts_9 (by decide) ?_
  refine r_iconst (pc := 15) h (v := nI 0) d_L_parts_15 (by decide) ?_
  exact Wv.wid (Nat.le_of_ble_eq_true rfl) (Nat.le_of_ble_eq_true rfl) (r_iretP (pc := 16) h hr ⟨rfl, _, _, _, _, L, rfl, pk_uLs, hLn, hLm⟩ d_L_parts_16)
theorem h_together (r1 r2 : Nat) (hab : r1 < r2) (hb16 : r2 ≤ 16) : Hp l y_L_together (.codeWith y_L_together b_L_together 5 (some .int) [(0, 10, 13, 13)] :: TT) (rmX 8 140) G [.ref (a 0), .int (nI r1), .int (nI r2), .ref o] ((cw G a hd wk sp ct ky nm) ++ oc G o of) (fun v9 ws' => v9 = some (.int (nI 0)) ∧ ∃ (ct' : Int32) (ky' nm' : Nat → Int32) (of' : Nat → Int64) (L : List (Nat × List Bool)), ws' = cw G a hd wk sp ct' ky' nm' ++ oc G o of' ∧ of' 0 = (nI L.length).toInt64 ∧ L.Nodup ∧ ∀ c, c ∈ L ↔ PK (fun r => sv (hd r)) r1 r2 10 c) := by
  refine hp_intro (cc := b_L_together) (nL := 5) (by decide) [(0, .ref (a 0)), (1, .int (nI r1)), (2, .int (nI r2)), (3, .ref o)] rfl (Nat.le_of_ble_eq_true rfl) ?_
  intro p e s m below meth c A h hr htab
  refine r_aload_n (pc := 0) h 3 d_L_together_0 rfl rfl ?_
  refine r_iconst (pc := 1) h (v := nI 0) d_L_together_1 (by decide) ?_
  refine r_aload_n (pc := 2) h 0 d_L_together_2 rfl rfl ?_
  refine r_iload_n (pc := 3) h 1 d_L_together_3 rfl rfl ?_
  refine r_iload_n (pc := 4) h 2 d_L_together_4 rfl rfl ?_
  refine r_invVP (pc := 5) h 0 (st := [.int (nI 0), .ref o]) d_L_together_5 ((c_together r1 r2 hab hb16).frame (oc G o of)) (r_cV h wc_D_together w_340 w_1 w_341 w_342 hd_D_together ⟨(Nat.le_of_ble_eq_true rfl), (Nat.le_of_ble_eq_true rfl)⟩ rfl rfl) (ap_l cw_0) rfl rfl rfl (Nat.le_of_ble_eq_true rfl) ⟨(Nat.le_of_ble_eq_true rfl), (Nat.le_of_ble_eq_true rfl)⟩ ?_
  rintro v ws' ⟨ws1, ⟨ct', ky', nm', L, rfl, hLn, hLm, rfl⟩, rfl⟩
  refine ⟨rfl, ?_⟩
  show Wv p l e _ s m _ below meth c G A _ _ _ _ ((cw G a hd wk sp ct' ky' nm') ++ oc G o of) 8 [(0, .ref (a 0)), (1, .int (nI r1)), (2, .int (nI r2)), (3, .ref o)] [.int (nI L.length), .int (nI 0), .ref o]
  refine r_i2l (pc := 8) h (z := (nI L.length).toInt64) d_L_together_8 rfl ?_
  refine r_lastore (pc := 9) h 23 (ws' := ((cw G a hd wk sp ct' ky' nm') ++ oc G o (vp_updL of 0 ((nI L.length).toInt64)))) 0 d_L_together_9 oc_g rfl (by decide) (by decide) oc_s ?_
  refine r_goto (pc := 10) h (tgt := 17) d_L_together_10 (by decide) ?_
  refine r_iconst (pc := 17) h (v := nI 0) d_L_together_17 (by decide) ?_
  exact Wv.wid (Nat.le_of_ble_eq_true rfl) (Nat.le_of_ble_eq_true rfl) (r_iretP (pc := 18) h hr ⟨rfl, _, _, _, _, L, rfl, pk_uLs, hLn, hLm⟩ d_L_together_18)
end LH
