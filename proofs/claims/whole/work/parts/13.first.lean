-- first
theorem row_eq {f g : Nat → Int64} : (∀ i, i < 16 → f i = g i) ↔ ∀ y, y < 1024 → sv f y = sv g y := by
  constructor
  · intro h y hy
    unfold sv
    rw [h (y / 64) (by omega)]
  · intro h i hi
    apply lb_ext
    intro k hk
    have h1 := h (64 * i + k) (by omega)
    unfold sv at h1
    rw [show (64 * i + k) / 64 = i by omega, show (64 * i + k) % 64 = k by omega] at h1
    exact h1
theorem sv_0 (y : Nat) : sv (fun _ => 0) y = false := lb_0 _
theorem row_0 {f : Nat → Int64} : (∀ i, i < 16 → f i = 0) ↔ ∀ y, y < 1024 → sv f y = false := by
  have h := row_eq (f := f) (g := fun _ => 0)
  constructor
  · intro h1 y hy
    rw [h.mp h1 y hy, sv_0]
  · intro h1
    exact h.mpr (fun y hy => by rw [h1 y hy, sv_0])
theorem sv_mix {g f : Nat → Int64} {x : Nat} (hx : x < 1024) : sv (mix 16 g f) x = sv g x := by
  unfold sv
  rw [mix_lt (show x / 64 < 16 by omega)]
/-- what narrowing to v false leaves -/
def nwG (wk : Nat → Int64) (v j : Nat) : Int64 := wk j &&& (vW v j ^^^ (-1))
theorem sv_nwG {wk : Nat → Int64} {v x : Nat} (hv : v < 10) (hx : x < 1024) : sv (nwG wk v) x = (sv wk x && !x.testBit v) := by
  have hm : x % 64 < 64 := Nat.mod_lt _ (by decide)
  have h1 := sv_vW hv hx
  unfold sv nwG at *
  rw [lb_and, lb_not _ hm, h1]
/-- work and spare along first, whose answer is x0 -/
def fsq (x0 : Nat) (wk sp : Nat → Int64) : Nat → (Nat → Int64) × (Nat → Int64)
  | 0 => (wk, sp)
  | v + 1 => if x0.testBit v = false then (mix 16 (mix 16 (nwG (fsq x0 wk sp v).1 v) (fsq x0 wk sp v).2) (fsq x0 wk sp v).1, mix 16 (nwG (fsq x0 wk sp v).1 v) (fsq x0 wk sp v).2) else ((fsq x0 wk sp v).1, mix 16 (nwG (fsq x0 wk sp v).1 v) (fsq x0 wk sp v).2)
theorem fsq_f {x0 v : Nat} {wk sp : Nat → Int64} (h : x0.testBit v = false) : fsq x0 wk sp (v + 1) = (mix 16 (mix 16 (nwG (fsq x0 wk sp v).1 v) (fsq x0 wk sp v).2) (fsq x0 wk sp v).1, mix 16 (nwG (fsq x0 wk sp v).1 v) (fsq x0 wk sp v).2) := if_pos h
theorem fsq_t {x0 v : Nat} {wk sp : Nat → Int64} (h : x0.testBit v = true) : fsq x0 wk sp (v + 1) = ((fsq x0 wk sp v).1, mix 16 (nwG (fsq x0 wk sp v).1 v) (fsq x0 wk sp v).2) := if_neg (by rw [h]; decide)
theorem fsq_inv {x0 : Nat} {r wk sp : Nat → Int64} (hF : isF (sv r) x0) (h0 : ∀ y, y < 1024 → sv wk y = sv r y) : ∀ v, v ≤ 10 → ∀ y, y < 1024 → (sv (fsq x0 wk sp v).1 y = true ↔ sv r y = true ∧ y % 2 ^ v = x0 % 2 ^ v)
  | 0, _, y, hy => by
    show sv wk y = true ↔ _
    rw [h0 y hy]
    simp [Nat.mod_one]
  | v + 1, hv, y, hy => by
    have ih := fsq_inv (sp := sp) hF h0 v (by omega)
    have hst := isF_step hF (show v < 10 by omega)
    rw [mod_succ]
    cases hb : x0.testBit v
    · rw [fsq_f hb]
      show sv (mix 16 (mix 16 _ _) _) y = true ↔ _
      rw [sv_mix hy, sv_mix hy, sv_nwG (by omega) hy, Bool.and_eq_true, ih y hy]
      constructor
      · rintro ⟨⟨h1, h2⟩, h3⟩
        exact ⟨h1, h2, by simpa using h3⟩
      · rintro ⟨h1, h2, h3⟩
        exact ⟨⟨h1, h2⟩, by rw [h3]; rfl⟩
    · rw [fsq_t hb]
      show sv (fsq x0 wk sp v).1 y = true ↔ _
      rw [ih y hy]
      constructor
      · rintro ⟨h1, h2⟩
        refine ⟨h1, h2, ?_⟩
        cases hyb : y.testBit v
        · exfalso
          have := hst.mp ⟨y, hy, ⟨h1, h2⟩, hyb⟩
          rw [hb] at this
          cases this
        · rfl
      · rintro ⟨h1, h2, -⟩
        exact ⟨h1, h2⟩
/-- nothing is left just if the first has v true -/
theorem fsq_0 {x0 v : Nat} {r wk sp : Nat → Int64} (hF : isF (sv r) x0) (h0 : ∀ y, y < 1024 → sv wk y = sv r y) (hv : v < 10) : (∀ i, i < 16 → nwG (fsq x0 wk sp v).1 v i = 0) ↔ x0.testBit v = true := by
  have ih := fsq_inv (sp := sp) hF h0 v (by omega)
  have hst := isF_step hF hv
  rw [row_0]
  constructor
  · intro h
    cases hb : x0.testBit v
    · exfalso
      obtain ⟨y, hy, h1, h2⟩ := hst.mpr hb
      have h3 := h y hy
      rw [sv_nwG hv hy, (ih y hy).mpr h1, h2] at h3
      cases h3
    · rfl
  · intro h y hy
    rw [sv_nwG hv hy]
    cases h1 : sv (fsq x0 wk sp v).1 y
    · rfl
    · cases h2 : y.testBit v
      · exfalso
        have := hst.mp ⟨y, hy, (ih y hy).mp h1, h2⟩
        rw [h] at this
        cases this
      · rfl
section CF
variable {l : Launch} {G : gG} {a : Nat → Nat} {hd : Nat → Nat → Int64} {wk sp : Nat → Int64} {ct : Int32} {ky nm : Nat → Int32}
theorem c_isEmptyWork : Ct l y_D_isEmptyWork (.code y_D_isEmptyWork b_D_isEmptyWork 2 (some .boolean) :: TT) (rmF 0 0) G [.ref (a 0)] (cw G a hd wk sp ct ky nm) (some (.int (bI (bD (∀ i, i < 16 → wk i = 0))))) (cw G a hd wk sp ct ky nm) := by
  by_cases h : ∀ i, i < 16 → wk i = 0
  · rw [bD_t h]
    exact c_isEmptyWork_t h
  · rw [bD_f h]
    have hex : ∃ n, n < 16 ∧ wk n ≠ 0 := Classical.byContradiction (fun q => h (fun i hi => Classical.byContradiction (fun z => q ⟨i, hi, z⟩)))
    obtain ⟨n, ⟨h1, h2⟩, h3⟩ := pk_least _ hex
    exact c_isEmptyWork_f n h1 (fun i hi => Classical.byContradiction (fun z => h3 i hi ⟨Nat.lt_trans hi h1, z⟩)) h2
theorem c_first (r1 x0 : Nat) (h1 : r1 < 16) (hF : isF (sv (hd r1)) x0) : Ct l y_D_first (.code y_D_first b_D_first 4 (some .int) :: TT) (rmF 3 66) G [.ref (a 0), .int (nI r1)] (cw G a hd wk sp ct ky nm) (some (.int (nI x0))) (cw G a hd ((fsq x0 (mix 16 (hd r1) wk) sp 10).1) ((fsq x0 (mix 16 (hd r1) wk) sp 10).2) ct ky nm) := by
  refine ct_intro (cc := b_D_first) (nL := 4) (by decide) [(0, .ref (a 0)), (1, .int (nI r1))] rfl (Nat.le_of_ble_eq_true rfl) ?_
  intro p e s m below meth c A h hr
  have h0 : ∀ y, y < 1024 → sv (mix 16 (hd r1) wk) y = sv (hd r1) y := fun y hy => sv_mix hy
  have hne : ¬ ∀ i, i < 16 → (mix 16 (hd r1) wk) i = 0 := fun z => by
    have h9 := row_0.mp z x0 hF.1
    rw [h0 x0 hF.1, hF.2.1] at h9
    cases h9
  refine r_iload_n (pc := 0) h 1 d_D_first_0 rfl rfl ?_
  refine r_invSv (pc := 1) h (st := []) d_D_first_1 (c_checkRegister r1 h1) (r_cS h wc_D_checkRegister w_63 w_1 w_64 hd_D_checkRegister ⟨(Nat.le_of_ble_eq_true rfl), (Nat.le_of_ble_eq_true rfl)⟩ rfl rfl) rfl rfl (Nat.le_of_ble_eq_true rfl) ⟨(Nat.le_of_ble_eq_true rfl), (Nat.le_of_ble_eq_true rfl)⟩ rfl ?_
  refine r_aload_n (pc := 4) h 0 d_D_first_4 rfl rfl ?_
  refine r_get (pc := 5) h 0 0 d_D_first_5 cw_0 rfl (by decide) in_D (List.mem_cons_of_mem _ w_42) rfl ?_
  refine r_iload_n (pc := 8) h 1 d_D_first_8 rfl rfl ?_
  refine r_aaload (pc := 9) h 1 3 r1 d_D_first_9 cw_1 rfl rfl rfl h1 (by decide) (cw_o h1) ?_
  refine r_iconst (pc := 10) h (v := 0) d_D_first_10 (by decide) ?_
  refine r_aload_n (pc := 11) h 0 d_D_first_11 rfl rfl ?_
  refine r_get (pc := 12) h 0 1 d_D_first_12 cw_0 rfl (by decide) in_D (List.mem_cons_of_mem _ w_43) rfl ?_
  refine r_iconst (pc := 15) h (v := 0) d_D_first_15 (by decide) ?_
  refine r_bipush (pc := 16) h (v := nI 16) d_D_first_16 (by decide) ?_
  refine r_copyl (pc := 18) h (7 + r1) 2 (ws' := (cw G a hd (mix 16 (hd r1) wk) sp ct ky nm)) 16 d_D_first_18 (List.mem_cons_of_mem _ w_201) (List.mem_cons_of_mem _ w_203) (List.mem_cons_of_mem _ w_202) (List.mem_cons_of_mem _ w_9) (cw_r h1) cw_2 rfl rfl rfl (by decide) (by decide) (by decide) (Nat.le_of_ble_eq_true rfl) (Nat.le_of_ble_eq_true rfl) (by rw [cpy_row]; exact cw_s2) ?_
  refine r_aload_n (pc := 21) h 0 d_D_first_21 rfl rfl ?_
  refine r_invVa (pc := 22) h 0 (st := []) d_D_first_22 c_isEmptyWork (r_cV h wc_D_isEmptyWork w_264 w_1 w_266 (TT_se (q := (y_D_isEmptyWork, 4)) 3 rfl) hd_D_isEmptyWork ⟨(Nat.le_of_ble_eq_true rfl), (Nat.le_of_ble_eq_true rfl)⟩ rfl rfl) cw_0 rfl rfl rfl (Nat.le_of_ble_eq_true rfl) ⟨(Nat.le_of_ble_eq_true rfl), (Nat.le_of_ble_eq_true rfl)⟩ cw_adr ?_
  refine r_if_eq_t (pc := 25) h (tgt := 38) d_D_first_25 (by decide) (by rw [bD_f hne]; decide) ?_
  refine r_iconst (pc := 38) h (v := nI (x0 % 2 ^ 0)) d_D_first_38 (by rw [Nat.pow_zero, Nat.mod_one]; decide) ?_
  refine r_istore_n (pc := 39) h (lv' := [(2, .int (nI (x0 % 2 ^ 0))), (0, .ref (a 0)), (1, .int (nI r1))]) d_D_first_39 rfl (by decide) rfl ?_
  refine r_iconst (pc := 40) h (v := nI 0) d_D_first_40 (by decide) ?_
  refine r_istore_n (pc := 41) h (lv' := [(3, .int (nI 0)), (2, .int (nI (x0 % 2 ^ 0))), (0, .ref (a 0)), (1, .int (nI r1))]) d_D_first_41 rfl (by decide) rfl ?_
  refine Wv.wld (ws' := (cw G a hd ((fsq x0 (mix 16 (hd r1) wk) sp 0).1) ((fsq x0 (mix 16 (hd r1) wk) sp 0).2) ct ky nm)) rfl ?_
  refine Wv.loop 10 (fun i => (cw G a hd ((fsq x0 (mix 16 (hd r1) wk) sp i).1) ((fsq x0 (mix 16 (hd r1) wk) sp i).2) ct ky nm)) (fun i => [(3, .int (nI i)), (2, .int (nI (x0 % 2 ^ i))), (0, .ref (a 0)), (1, .int (nI r1))]) ?_ ?_
  · show Wv p l e _ s m _ below meth c G A _ _ _ _ (cw G a hd ((fsq x0 (mix 16 (hd r1) wk) sp 10).1) ((fsq x0 (mix 16 (hd r1) wk) sp 10).2) ct ky nm) 42 [(3, .int (nI 10)), (2, .int (nI (x0 % 2 ^ 10))), (0, .ref (a 0)), (1, .int (nI r1))] []
    rw [show x0 % 2 ^ 10 = x0 from Nat.mod_eq_of_lt hF.1]
    refine r_iload_n (pc := 42) h 0 d_D_first_42 rfl rfl ?_
    refine r_bipush (pc := 43) h (v := nI 10) d_D_first_43 (by decide) ?_
    refine r_icmp_ge_t (pc := 45) h (tgt := 68) d_D_first_45 (by decide) (nI_le (Nat.le_refl _) (by decide)) ?_
    refine r_iload_n (pc := 68) h 1 d_D_first_68 rfl rfl ?_
    exact r_iret (pc := 69) h hr d_D_first_69
  · intro i hi ih
    have ih : Wv p l e _ s m _ below meth c G A _ _ _ _ (cw G a hd ((fsq x0 (mix 16 (hd r1) wk) sp (i + 1)).1) ((fsq x0 (mix 16 (hd r1) wk) sp (i + 1)).2) ct ky nm) 42 [(3, .int (nI (i + 1))), (2, .int (nI (x0 % 2 ^ (i + 1)))), (0, .ref (a 0)), (1, .int (nI r1))] [] := ih
    show Wv p l e _ s m _ below meth c G A _ _ _ _ (cw G a hd ((fsq x0 (mix 16 (hd r1) wk) sp i).1) ((fsq x0 (mix 16 (hd r1) wk) sp i).2) ct ky nm) 42 [(3, .int (nI i)), (2, .int (nI (x0 % 2 ^ i))), (0, .ref (a 0)), (1, .int (nI r1))] []
    refine r_iload_n (pc := 42) h 0 d_D_first_42 rfl rfl ?_
    refine r_bipush (pc := 43) h (v := nI 10) d_D_first_43 (by decide) ?_
    refine r_icmp_ge_f (pc := 45) h (tgt := 68) d_D_first_45 (by decide) (nI_ge hi (by decide)) ?_
    refine r_aload_n (pc := 48) h 2 d_D_first_48 rfl rfl ?_
    refine r_iload_n (pc := 49) h 0 d_D_first_49 rfl rfl ?_
    have hz := fsq_0 (sp := sp) hF h0 hi
    cases hb : x0.testBit i
    · rw [hb] at hz
      refine r_invVa (pc := 50) h 0 (st := []) d_D_first_50 (c_narrow_true i hi (fun z => absurd (hz.mp z) (by decide))) (r_cV h wc_D_narrowWorkToFalse w_284 w_1 w_286 (TT_se (q := (y_D_narrowWorkToFalse, 4)) 4 rfl) hd_D_narrowWorkToFalse ⟨(Nat.le_of_ble_eq_true rfl), (Nat.le_of_ble_eq_true rfl)⟩ rfl rfl) cw_0 rfl rfl rfl (Nat.le_of_ble_eq_true rfl) ⟨(Nat.le_of_ble_eq_true rfl), (Nat.le_of_ble_eq_true rfl)⟩ cw_adr ?_
      refine Wv.wld (ws' := (cw G a hd ((fsq x0 (mix 16 (hd r1) wk) sp (i + 1)).1) ((fsq x0 (mix 16 (hd r1) wk) sp (i + 1)).2) ct ky nm)) (by rw [fsq_f hb]; rfl) ?_
      refine r_if_ne_t (pc := 53) h (tgt := 62) d_D_first_53 (by decide) (by decide) ?_
      refine Wv.lcl (lv' := [(3, .int (nI i)), (2, .int (nI (x0 % 2 ^ (i + 1)))), (0, .ref (a 0)), (1, .int (nI r1))]) (by have h9 := mod_bit x0 i; rw [hb, if_neg (by decide), Nat.or_zero] at h9; rw [h9]) ?_
      refine r_iinc (pc := 62) h (v := nI (i + 1)) (lv' := [(3, .int (nI (i + 1))), (2, .int (nI (x0 % 2 ^ (i + 1)))), (0, .ref (a 0)), (1, .int (nI r1))]) 0 d_D_first_62 rfl (nI_inc i) (by decide) rfl ?_
      refine r_goto (pc := 65) h (tgt := 42) d_D_first_65 (by decide) ?_
      exact ih
    · rw [hb] at hz
      refine r_invVa (pc := 50) h 0 (st := []) d_D_first_50 (c_narrow_false i hi (hz.mpr rfl)) (r_cV h wc_D_narrowWorkToFalse w_284 w_1 w_286 (TT_se (q := (y_D_narrowWorkToFalse, 4)) 4 rfl) hd_D_narrowWorkToFalse ⟨(Nat.le_of_ble_eq_true rfl), (Nat.le_of_ble_eq_true rfl)⟩ rfl rfl) cw_0 rfl rfl rfl (Nat.le_of_ble_eq_true rfl) ⟨(Nat.le_of_ble_eq_true rfl), (Nat.le_of_ble_eq_true rfl)⟩ cw_adr ?_
      refine Wv.wld (ws' := (cw G a hd ((fsq x0 (mix 16 (hd r1) wk) sp (i + 1)).1) ((fsq x0 (mix 16 (hd r1) wk) sp (i + 1)).2) ct ky nm)) (by rw [fsq_t hb]; rfl) ?_
      refine r_if_ne_f (pc := 53) h (tgt := 62) d_D_first_53 (by decide) (by decide) ?_
      refine r_iload_n (pc := 56) h 1 d_D_first_56 rfl rfl ?_
      refine r_iconst (pc := 57) h (v := nI 1) d_D_first_57 (by decide) ?_
      refine r_iload_n (pc := 58) h 0 d_D_first_58 rfl rfl ?_
      refine r_ishl (pc := 59) h (z := nI (2 ^ i)) d_D_first_59 (nx_pw (by omega)) ?_
      refine r_ior (pc := 60) h (z := nI (x0 % 2 ^ (i + 1))) d_D_first_60 (by have h9 := mod_bit x0 i; rw [hb, if_pos rfl] at h9; rw [nx_or, h9]) ?_
      refine r_istore_n (pc := 61) h (lv' := [(2, .int (nI (x0 % 2 ^ (i + 1)))), (3, .int (nI i)), (0, .ref (a 0)), (1, .int (nI r1))]) d_D_first_61 rfl (by decide) rfl ?_
      refine r_iinc (pc := 62) h (v := nI (i + 1)) (lv' := [(3, .int (nI (i + 1))), (2, .int (nI (x0 % 2 ^ (i + 1)))), (0, .ref (a 0)), (1, .int (nI r1))]) 1 d_D_first_62 rfl (nI_inc i) (by decide) rfl ?_
      refine r_goto (pc := 65) h (tgt := 42) d_D_first_65 (by decide) ?_
      exact ih
end CF
