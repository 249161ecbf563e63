-- the reference: join, swap, is, ways, same, turned, first, hangs, bound
theorem bI_shl (c : Bool) {w : Nat} (hw : w < 31) : bI c <<< (nI w &&& 31) = nI (if c = true then 2 ^ w else 0) := by
  cases c
  · show nI 0 <<< (nI w &&& 31) = nI 0
    rw [nx_shl (by omega) (by rw [Nat.zero_mul]; decide), Nat.zero_mul]
  · exact nx_pw hw
def cbN (f : Nat → Bool) : Nat → Nat
  | 0 => 0
  | x + 1 => if f x = true then cbN f x + 1 else cbN f x
theorem cbN_t {f : Nat → Bool} {x : Nat} (h : f x = true) : cbN f (x + 1) = cbN f x + 1 := if_pos h
theorem cbN_f {f : Nat → Bool} {x : Nat} (h : f x = false) : cbN f (x + 1) = cbN f x := if_neg (by rw [h]; decide)
/-- the best so far -/
def bst (f : Nat → Bool) : Nat → Option Nat
  | 0 => none
  | i + 1 => if f i = true then (match bst f i with | none => some i | some b => if tn 10 i < tn 10 b then some i else some b) else bst f i
def oI (o : Option Nat) : Int32 := match o with | none => -1 | some b => nI b
theorem bst_f {f : Nat → Bool} {i : Nat} (h : f i = false) : bst f (i + 1) = bst f i := if_neg (by rw [h]; decide)
theorem bst_n {f : Nat → Bool} {i : Nat} (h : f i = true) (hb : bst f i = none) : bst f (i + 1) = some i := by
  show (if f i = true then _ else _) = _
  rw [if_pos h, hb]
theorem bst_s {f : Nat → Bool} {i b : Nat} (h : f i = true) (hb : bst f i = some b) : bst f (i + 1) = if tn 10 i < tn 10 b then some i else some b := by
  show (if f i = true then _ else _) = _
  rw [if_pos h, hb]
theorem bst_inv (f : Nat → Bool) : ∀ i, (bst f i = none → ∀ y, y < i → f y = false) ∧ ∀ b, bst f i = some b → b < i ∧ f b = true ∧ ∀ y, y < i → f y = true → tn 10 b ≤ tn 10 y
  | 0 => ⟨fun _ y hy => absurd hy (by omega), fun b hb => by cases hb⟩
  | i + 1 => by
    obtain ⟨ih1, ih2⟩ := bst_inv f i
    cases hf : f i
    · rw [bst_f hf]
      refine ⟨fun h y hy => ?_, fun b hb => ?_⟩
      · by_cases e : y = i
        · rw [e]; exact hf
        · exact ih1 h y (by omega)
      · obtain ⟨h1, h2, h3⟩ := ih2 b hb
        refine ⟨by omega, h2, fun y hy hy2 => ?_⟩
        by_cases e : y = i
        · rw [e, hf] at hy2; cases hy2
        · exact h3 y (by omega) hy2
    · cases hb : bst f i with
      | none =>
        rw [bst_n hf hb]
        refine ⟨fun h => (by cases h), fun b hb2 => ?_⟩
        cases hb2
        refine ⟨by omega, hf, fun y hy hy2 => ?_⟩
        by_cases e : y = i
        · rw [e]; exact Nat.le_refl _
        · rw [ih1 hb y (by omega)] at hy2; cases hy2
      | some b =>
        obtain ⟨h1, h2, h3⟩ := ih2 b hb
        rw [bst_s hf hb]
        by_cases hlt : tn 10 i < tn 10 b
        · rw [if_pos hlt]
          refine ⟨fun h => (by cases h), fun b2 hb2 => ?_⟩
          cases hb2
          refine ⟨by omega, hf, fun y hy hy2 => ?_⟩
          by_cases e : y = i
          · rw [e]; exact Nat.le_refl _
          · have := h3 y (by omega) hy2
            omega
        · rw [if_neg hlt]
          refine ⟨fun h => (by cases h), fun b2 hb2 => ?_⟩
          cases hb2
          refine ⟨by omega, h2, fun y hy hy2 => ?_⟩
          by_cases e : y = i
          · rw [e]; omega
          · exact h3 y (by omega) hy2
theorem bst_isF {f : Nat → Bool} {x0 : Nat} (hF : isF f x0) : bst f 1024 = some x0 := by
  obtain ⟨h1, h2⟩ := bst_inv f 1024
  cases hb : bst f 1024 with
  | none =>
    have := h1 hb x0 hF.1
    rw [hF.2.1] at this
    cases this
  | some b =>
    obtain ⟨g1, g2, g3⟩ := h2 b hb
    rw [isF_one hF g1 g2 g3]
theorem bst_none {f : Nat → Bool} (hn : ∀ y, y < 1024 → f y = false) : bst f 1024 = none := by
  cases hb : bst f 1024 with
  | none => rfl
  | some b =>
    obtain ⟨g1, g2, -⟩ := (bst_inv f 1024).2 b hb
    rw [hn b g1] at g2
    cases g2
noncomputable def hrB (f : Nat → Bool) (v : Nat) : Bool := bD (∃ x, x < 1024 ∧ f x ≠ f (x ^^^ 2 ^ v))
noncomputable def hrN (f : Nat → Bool) : Nat → Nat
  | 0 => 0
  | v + 1 => if hrB f v = true then hrN f v ||| 2 ^ v else hrN f v
/-- the set inside variable v, behind x places -/
noncomputable def hrI (f : Nat → Bool) (v s x : Nat) : Nat := if bD (∃ y, y < x ∧ f y ≠ f (y ^^^ 2 ^ v)) = true then s ||| 2 ^ v else s
theorem hrI_0 (f : Nat → Bool) (v s : Nat) : hrI f v s 0 = s := by
  unfold hrI
  rw [bD_f (fun ⟨y, hy, _⟩ => absurd hy (by omega)), if_neg (by decide)]
theorem hrI_e {f : Nat → Bool} {v s x : Nat} (h : f x = f (x ^^^ 2 ^ v)) : hrI f v s (x + 1) = hrI f v s x := by
  unfold hrI
  rw [bD_c (show (∃ y, y < x + 1 ∧ f y ≠ f (y ^^^ 2 ^ v)) ↔ ∃ y, y < x ∧ f y ≠ f (y ^^^ 2 ^ v) from ⟨fun ⟨y, hy, hn⟩ => ⟨y, by
    by_cases e : y = x
    · subst e; exact absurd h hn
    · omega, hn⟩, fun ⟨y, hy, hn⟩ => ⟨y, by omega, hn⟩⟩)]
theorem or_or (s t : Nat) : (s ||| t) ||| t = s ||| t := by rw [Nat.or_assoc, Nat.or_self]
theorem hrI_d {f : Nat → Bool} {v s x : Nat} (h : ¬ f x = f (x ^^^ 2 ^ v)) : hrI f v s (x + 1) = hrI f v s x ||| 2 ^ v := by
  unfold hrI
  rw [bD_t (⟨x, by omega, h⟩ : ∃ y, y < x + 1 ∧ f y ≠ f (y ^^^ 2 ^ v)), if_pos rfl]
  split
  · rw [or_or]
  · rfl
theorem hrI_n (f : Nat → Bool) (v : Nat) : hrI f v (hrN f v) 1024 = hrN f (v + 1) := rfl
/-- what bound has gathered behind y places -/
def bsI (f : Nat → Bool) (S : Nat) (every : Bool) (x : Nat) : Nat → Bool
  | 0 => every
  | y + 1 => if (x ^^^ y) &&& (S ^^^ 4294967295) = 0 then (if every = true then bsI f S every x y && f y else bsI f S every x y || f y) else bsI f S every x y
theorem bsI_0 {f : Nat → Bool} {S x y : Nat} {every : Bool} (h : ¬ (x ^^^ y) &&& (S ^^^ 4294967295) = 0) : bsI f S every x (y + 1) = bsI f S every x y := if_neg h
theorem bsI_t {f : Nat → Bool} {S x y : Nat} (h : (x ^^^ y) &&& (S ^^^ 4294967295) = 0) : bsI f S true x (y + 1) = (bsI f S true x y && f y) := (if_pos h).trans (if_pos rfl)
theorem bsI_f {f : Nat → Bool} {S x y : Nat} (h : (x ^^^ y) &&& (S ^^^ 4294967295) = 0) : bsI f S false x (y + 1) = (bsI f S false x y || f y) := (if_pos h).trans (if_neg (by decide))
theorem bsI_all {f : Nat → Bool} {S x : Nat} : ∀ n, bsI f S true x n = true ↔ ∀ y, y < n → (x ^^^ y) &&& (S ^^^ 4294967295) = 0 → f y = true
  | 0 => ⟨fun _ y hy => absurd hy (by omega), fun _ => rfl⟩
  | n + 1 => by
    by_cases h : (x ^^^ n) &&& (S ^^^ 4294967295) = 0
    · rw [bsI_t h, Bool.and_eq_true, bsI_all n]
      constructor
      · rintro ⟨h1, h2⟩ y hy hc
        by_cases e : y = n
        · rw [e]; exact h2
        · exact h1 y (by omega) hc
      · intro h1
        exact ⟨fun y hy hc => h1 y (by omega) hc, h1 n (by omega) h⟩
    · rw [bsI_0 h, bsI_all n]
      constructor
      · intro h1 y hy hc
        by_cases e : y = n
        · rw [e] at hc; exact absurd hc h
        · exact h1 y (by omega) hc
      · intro h1 y hy hc
        exact h1 y (by omega) hc
theorem bsI_some {f : Nat → Bool} {S x : Nat} : ∀ n, bsI f S false x n = true ↔ ∃ y, y < n ∧ (x ^^^ y) &&& (S ^^^ 4294967295) = 0 ∧ f y = true
  | 0 => ⟨fun h => (by cases h), fun ⟨y, hy, _⟩ => absurd hy (by omega)⟩
  | n + 1 => by
    by_cases h : (x ^^^ n) &&& (S ^^^ 4294967295) = 0
    · rw [bsI_f h, Bool.or_eq_true, bsI_some n]
      constructor
      · rintro (⟨y, hy, hc, hf⟩ | hf)
        · exact ⟨y, by omega, hc, hf⟩
        · exact ⟨n, by omega, h, hf⟩
      · rintro ⟨y, hy, hc, hf⟩
        by_cases e : y = n
        · right; rw [← e]; exact hf
        · left; exact ⟨y, by omega, hc, hf⟩
    · rw [bsI_0 h, bsI_some n]
      constructor
      · rintro ⟨y, hy, hc, hf⟩
        exact ⟨y, by omega, hc, hf⟩
      · rintro ⟨y, hy, hc, hf⟩
        by_cases e : y = n
        · rw [e] at hc; exact absurd hc h
        · exact ⟨y, by omega, hc, hf⟩
theorem dfr_lt {S x y : Nat} (hx : x < 1024) (h : dfr S 10 x y) : y < 1024 := by
  apply Nat.lt_pow_two_of_testBit (n := 10)
  intro j hj
  apply Classical.byContradiction
  intro q
  have hxj : x.testBit j = false := Nat.testBit_lt_two_pow (Nat.lt_of_lt_of_le hx (Nat.pow_le_pow_right (n := 2) (by decide) hj))
  have := (h j (by rw [hxj]; intro z; exact q z.symm)).1
  omega
theorem bsI_bd {f : Nat → Bool} {S x : Nat} {every : Bool} (hx : x < 1024) : bsI f S every x 1024 = bd f S every 10 x := by
  rw [Bool.eq_iff_iff]
  cases every
  · rw [bsI_some, bd_some]
    constructor
    · rintro ⟨y, hy, hc, hf⟩
      exact ⟨y, (dfr_ref hx hy).mp hc, hf⟩
    · rintro ⟨y, hd, hf⟩
      have hy := dfr_lt hx hd
      exact ⟨y, hy, (dfr_ref hx hy).mpr hd, hf⟩
  · rw [bsI_all, bd_all]
    constructor
    · intro h y hd
      have hy := dfr_lt hx hd
      exact h y hy ((dfr_ref hx hy).mpr hd)
    · intro h y hy hc
      exact h y ((dfr_ref hx hy).mp hc)
section MQ2
variable {l : Launch} {G : gG} {b : Nat → Nat} {th : Int32} {rg : Nat → Nat → Bool} {wk : Nat → Bool} {fi fa : Nat → Int32}
theorem m_join0 (t : Nat) (ht : t < 16) (r1 r2 : Nat) (h1 : r1 < 16) (h2 : r2 < 16) : Ct l y_M_join (.code y_M_join b_M_join 8 none :: TT) (rmF 2 61) G [.ref (b 0), .int (nI t), .int (nI 0), .int (nI r1), .int (nI r2)] (mw G b th rg wk fi fa) none (mw G b (bI false) (va_up rg t (mix 1024 (mix 1024 (fun x => jB 0 (rg r1 x) (rg r2 x)) wk) (rg t))) (mix 1024 (fun x => jB 0 (rg r1 x) (rg r2 x)) wk) fi fa) := by
  refine ct_intro (cc := b_M_join) (nL := 8) (by decide) [(0, .ref (b 0)), (1, .int (nI t)), (2, .int (nI 0)), (3, .int (nI r1)), (4, .int (nI r2))] rfl (Nat.le_of_ble_eq_true rfl) ?_
  intro p e s m below meth c A h hr
  refine r_aload_n (pc := 0) h 0 d_M_join_0 rfl rfl ?_
  refine r_iload_n (pc := 1) h 1 d_M_join_1 rfl rfl ?_
  refine r_invSa (pc := 2) h (st := [.ref (b 0)]) d_M_join_2 (c_none_f t ht) (r_cS h wc_M_none w_378 w_3 w_379 hd_M_none ⟨(Nat.le_of_ble_eq_true rfl), (Nat.le_of_ble_eq_true rfl)⟩ rfl rfl) rfl rfl (Nat.le_of_ble_eq_true rfl) ⟨(Nat.le_of_ble_eq_true rfl), (Nat.le_of_ble_eq_true rfl)⟩ rfl ?_
  refine r_if_ne_f (pc := 5) h (tgt := 32) d_M_join_5 (by decide) rfl ?_
  refine r_iload_n (pc := 8) h 2 d_M_join_8 rfl rfl ?_
  refine r_if_lt_f (pc := 9) h (tgt := 32) d_M_join_9 (by decide) (by decide) ?_
  refine r_iload_n (pc := 12) h 2 d_M_join_12 rfl rfl ?_
  refine r_iconst (pc := 13) h (v := nI 4) d_M_join_13 (by decide) ?_
  refine r_icmp_gt_f (pc := 14) h (tgt := 32) d_M_join_14 (by decide) (by decide) ?_
  refine r_iload_n (pc := 17) h 3 d_M_join_17 rfl rfl ?_
  refine r_invSa (pc := 18) h (st := [.ref (b 0)]) d_M_join_18 (c_none_f r1 h1) (r_cS h wc_M_none w_378 w_3 w_379 hd_M_none ⟨(Nat.le_of_ble_eq_true rfl), (Nat.le_of_ble_eq_true rfl)⟩ rfl rfl) rfl rfl (Nat.le_of_ble_eq_true rfl) ⟨(Nat.le_of_ble_eq_true rfl), (Nat.le_of_ble_eq_true rfl)⟩ rfl ?_
  refine r_if_ne_f (pc := 21) h (tgt := 32) d_M_join_21 (by decide) rfl ?_
  refine r_iload (pc := 24) h 4 d_M_join_24 rfl ?_
  refine r_invSa (pc := 26) h (st := [.ref (b 0)]) d_M_join_26 (c_none_f r2 h2) (r_cS h wc_M_none w_378 w_3 w_379 hd_M_none ⟨(Nat.le_of_ble_eq_true rfl), (Nat.le_of_ble_eq_true rfl)⟩ rfl rfl) rfl rfl (Nat.le_of_ble_eq_true rfl) ⟨(Nat.le_of_ble_eq_true rfl), (Nat.le_of_ble_eq_true rfl)⟩ rfl ?_
  refine r_if_eq_t (pc := 29) h (tgt := 36) d_M_join_29 (by decide) rfl ?_
  refine r_iconst (pc := 36) h (v := bI false) d_M_join_36 (by decide) ?_
  refine r_invVa (pc := 37) h 0 (st := []) d_M_join_37 c_bad_false (r_cV h wc_M_bad w_384 w_3 w_386 (TT_se (q := (y_M_bad, 5)) 10 rfl) hd_M_bad ⟨(Nat.le_of_ble_eq_true rfl), (Nat.le_of_ble_eq_true rfl)⟩ rfl rfl) mw_0 rfl rfl rfl (Nat.le_of_ble_eq_true rfl) ⟨(Nat.le_of_ble_eq_true rfl), (Nat.le_of_ble_eq_true rfl)⟩ mw_adr ?_
  refine r_if_eq_t (pc := 40) h (tgt := 44) d_M_join_40 (by decide) rfl ?_
  refine r_iconst (pc := 44) h (v := nI 0) d_M_join_44 (by decide) ?_
  refine r_istore (pc := 45) h (lv' := [(5, .int (nI 0)), (0, .ref (b 0)), (1, .int (nI t)), (2, .int (nI 0)), (3, .int (nI r1)), (4, .int (nI r2))]) d_M_join_45 (by decide) rfl ?_
  refine Wv.wld (ws' := (mw G b (bI false) rg (mix 0 (fun x => jB 0 (rg r1 x) (rg r2 x)) wk) fi fa)) (by rw [mix_0]) ?_
  refine Wv.loop 1024 (fun i => (mw G b (bI false) rg (mix i (fun x => jB 0 (rg r1 x) (rg r2 x)) wk) fi fa)) (fun i => [(5, .int (nI i)), (0, .ref (b 0)), (1, .int (nI t)), (2, .int (nI 0)), (3, .int (nI r1)), (4, .int (nI r2))]) ?_ ?_
  · show Wv p l e _ s m _ below meth c G A _ _ _ _ (mw G b (bI false) rg (mix 1024 (fun x => jB 0 (rg r1 x) (rg r2 x)) wk) fi fa) 47 [(5, .int (nI 1024)), (0, .ref (b 0)), (1, .int (nI t)), (2, .int (nI 0)), (3, .int (nI r1)), (4, .int (nI r2))] []
    refine r_iload (pc := 47) h 0 d_M_join_47 rfl ?_
    refine r_sipush (pc := 49) h (v := nI 1024) d_M_join_49 (by decide) ?_
    refine r_icmp_ge_t (pc := 52) h (tgt := 189) d_M_join_52 (by decide) (nI_le (Nat.le_refl _) (by decide)) ?_
    refine r_aload_n (pc := 189) h 1 d_M_join_189 rfl rfl ?_
    refine r_iload_n (pc := 190) h 2 d_M_join_190 rfl rfl ?_
    refine r_invVv (pc := 191) h 0 (st := []) d_M_join_191 (c_keep t ht) (r_cV h wc_M_keep w_399 w_3 w_401 (TT_se (q := (y_M_keep, 5)) 11 rfl) hd_M_keep ⟨(Nat.le_of_ble_eq_true rfl), (Nat.le_of_ble_eq_true rfl)⟩ rfl rfl) mw_0 rfl rfl rfl (Nat.le_of_ble_eq_true rfl) ⟨(Nat.le_of_ble_eq_true rfl), (Nat.le_of_ble_eq_true rfl)⟩ mw_adr ?_
    exact r_vret (pc := 194) h hr d_M_join_194
  · intro i hi ih
    have ih : Wv p l e _ s m _ below meth c G A _ _ _ _ (mw G b (bI false) rg (mix (i + 1) (fun x => jB 0 (rg r1 x) (rg r2 x)) wk) fi fa) 47 [(5, .int (nI (i + 1))), (0, .ref (b 0)), (1, .int (nI t)), (2, .int (nI 0)), (3, .int (nI r1)), (4, .int (nI r2))] [] := ih
    show Wv p l e _ s m _ below meth c G A _ _ _ _ (mw G b (bI false) rg (mix i (fun x => jB 0 (rg r1 x) (rg r2 x)) wk) fi fa) 47 [(5, .int (nI i)), (0, .ref (b 0)), (1, .int (nI t)), (2, .int (nI 0)), (3, .int (nI r1)), (4, .int (nI r2))] []
    refine r_iload (pc := 47) h 0 d_M_join_47 rfl ?_
    refine r_sipush (pc := 49) h (v := nI 1024) d_M_join_49 (by decide) ?_
    refine r_icmp_ge_f (pc := 52) h (tgt := 189) d_M_join_52 (by decide) (nI_ge hi (by decide)) ?_
    refine r_aload_n (pc := 55) h 1 d_M_join_55 rfl rfl ?_
    refine r_get (pc := 56) h 0 1 d_M_join_56 mw_0 rfl (by decide) in_M (List.mem_cons_of_mem _ w_354) rfl ?_
    refine r_iload_n (pc := 59) h 4 d_M_join_59 rfl rfl ?_
    refine r_aaload (pc := 60) h 1 4 r1 d_M_join_60 mw_1 rfl rfl rfl h1 (by decide) (mw_o h1) ?_
    refine r_iload (pc := 61) h 0 d_M_join_61 rfl ?_
    refine r_baload (pc := 63) h (5 + r1) (z := bI (rg r1 i)) i d_M_join_63 (mw_r h1) rfl hi (by decide) rfl ?_
    refine r_istore (pc := 64) h (lv' := [(6, .int (bI (rg r1 i))), (5, .int (nI i)), (0, .ref (b 0)), (1, .int (nI t)), (2, .int (nI 0)), (3, .int (nI r1)), (4, .int (nI r2))]) d_M_join_64 (by decide) rfl ?_
    refine r_aload_n (pc := 66) h 2 d_M_join_66 rfl rfl ?_
    refine r_get (pc := 67) h 0 1 d_M_join_67 mw_0 rfl (by decide) in_M (List.mem_cons_of_mem _ w_354) rfl ?_
    refine r_iload (pc := 70) h 6 d_M_join_70 rfl ?_
    refine r_aaload (pc := 72) h 1 4 r2 d_M_join_72 mw_1 rfl rfl rfl h2 (by decide) (mw_o h2) ?_
    refine r_iload (pc := 73) h 1 d_M_join_73 rfl ?_
    refine r_baload (pc := 75) h (5 + r2) (z := bI (rg r2 i)) i d_M_join_75 (mw_r h2) rfl hi (by decide) rfl ?_
    refine r_istore (pc := 76) h (lv' := [(7, .int (bI (rg r2 i))), (6, .int (bI (rg r1 i))), (5, .int (nI i)), (0, .ref (b 0)), (1, .int (nI t)), (2, .int (nI 0)), (3, .int (nI r1)), (4, .int (nI r2))]) d_M_join_76 (by decide) rfl ?_
    refine r_aload_n (pc := 78) h 3 d_M_join_78 rfl rfl ?_
    refine r_get (pc := 79) h 0 2 d_M_join_79 mw_0 rfl (by decide) in_M (List.mem_cons_of_mem _ w_355) rfl ?_
    refine r_iload (pc := 82) h 2 d_M_join_82 rfl ?_
    refine r_iload_n (pc := 84) h 5 d_M_join_84 rfl rfl ?_
    refine r_if_ne_f (pc := 85) h (tgt := 106) d_M_join_85 (by decide) (by decide) ?_
    refine r_iload (pc := 88) h 1 d_M_join_88 rfl ?_
    refine r_if_eq (pc := 90) h (tgt := 102) d_M_join_90 (by decide) (fun q90 => ?_) (fun q90 => ?_)
    · have hb90 := bI_F q90
      refine r_iconst (pc := 102) h (v := bI (jB 0 (rg r1 i) (rg r2 i))) d_M_join_102 (by rw [hb90]; cases rg r2 i <;> decide) ?_
      refine r_goto (pc := 103) h (tgt := 182) d_M_join_103 (by decide) ?_
      refine r_bastore (pc := 182) h 2 (ws' := (mw G b (bI false) rg (mix (i + 1) (fun x => jB 0 (rg r1 x) (rg r2 x)) wk) fi fa)) i d_M_join_182 mw_2 rfl hi (by decide) (bI_nar _) (by rw [upd_b, mix_up i (fun x => jB 0 (rg r1 x) (rg r2 x)) wk]; exact mw_s2) ?_
      refine r_iinc (pc := 183) h (v := nI (i + 1)) (lv' := [(5, .int (nI (i + 1))), (7, .int (bI (rg r2 i))), (6, .int (bI (rg r1 i))), (0, .ref (b 0)), (1, .int (nI t)), (2, .int (nI 0)), (3, .int (nI r1)), (4, .int (nI r2))]) 2 d_M_join_183 rfl (nI_inc i) (by decide) rfl ?_
      refine r_goto (pc := 186) h (tgt := 47) d_M_join_186 (by decide) ?_
      refine Wv.sub [0, 3, 4, 5, 6, 7] rfl ?_
      exact ih
    · have hb90 := bI_T q90
      refine r_iload (pc := 93) h 0 d_M_join_93 rfl ?_
      refine r_if_eq (pc := 95) h (tgt := 102) d_M_join_95 (by decide) (fun q95 => ?_) (fun q95 => ?_)
      · have hb95 := bI_F q95
        refine r_iconst (pc := 102) h (v := bI (jB 0 (rg r1 i) (rg r2 i))) d_M_join_102 (by rw [hb90, hb95]; decide) ?_
        refine r_goto (pc := 103) h (tgt := 182) d_M_join_103 (by decide) ?_
        refine r_bastore (pc := 182) h 2 (ws' := (mw G b (bI false) rg (mix (i + 1) (fun x => jB 0 (rg r1 x) (rg r2 x)) wk) fi fa)) i d_M_join_182 mw_2 rfl hi (by decide) (bI_nar _) (by rw [upd_b, mix_up i (fun x => jB 0 (rg r1 x) (rg r2 x)) wk]; exact mw_s2) ?_
        refine r_iinc (pc := 183) h (v := nI (i + 1)) (lv' := [(5, .int (nI (i + 1))), (7, .int (bI (rg r2 i))), (6, .int (bI (rg r1 i))), (0, .ref (b 0)), (1, .int (nI t)), (2, .int (nI 0)), (3, .int (nI r1)), (4, .int (nI r2))]) 2 d_M_join_183 rfl (nI_inc i) (by decide) rfl ?_
        refine r_goto (pc := 186) h (tgt := 47) d_M_join_186 (by decide) ?_
        refine Wv.sub [0, 3, 4, 5, 6, 7] rfl ?_
        exact ih
      · have hb95 := bI_T q95
        refine r_iconst (pc := 98) h (v := bI (jB 0 (rg r1 i) (rg r2 i))) d_M_join_98 (by rw [hb90, hb95]; decide) ?_
        refine r_goto (pc := 99) h (tgt := 182) d_M_join_99 (by decide) ?_
        refine r_bastore (pc := 182) h 2 (ws' := (mw G b (bI false) rg (mix (i + 1) (fun x => jB 0 (rg r1 x) (rg r2 x)) wk) fi fa)) i d_M_join_182 mw_2 rfl hi (by decide) (bI_nar _) (by rw [upd_b, mix_up i (fun x => jB 0 (rg r1 x) (rg r2 x)) wk]; exact mw_s2) ?_
        refine r_iinc (pc := 183) h (v := nI (i + 1)) (lv' := [(5, .int (nI (i + 1))), (7, .int (bI (rg r2 i))), (6, .int (bI (rg r1 i))), (0, .ref (b 0)), (1, .int (nI t)), (2, .int (nI 0)), (3, .int (nI r1)), (4, .int (nI r2))]) 2 d_M_join_183 rfl (nI_inc i) (by decide) rfl ?_
        refine r_goto (pc := 186) h (tgt := 47) d_M_join_186 (by decide) ?_
        refine Wv.sub [0, 3, 4, 5, 6, 7] rfl ?_
        exact ih
theorem m_join1 (t : Nat) (ht : t < 16) (r1 r2 : Nat) (h1 : r1 < 16) (h2 : r2 < 16) : Ct l y_M_join (.code y_M_join b_M_join 8 none :: TT) (rmF 2 61) G [.ref (b 0), .int (nI t), .int (nI 1), .int (nI r1), .int (nI r2)] (mw G b th rg wk fi fa) none (mw G b (bI false) (va_up rg t (mix 1024 (mix 1024 (fun x => jB 1 (rg r1 x) (rg r2 x)) wk) (rg t))) (mix 1024 (fun x => jB 1 (rg r1 x) (rg r2 x)) wk) fi fa) := by
  refine ct_intro (cc := b_M_join) (nL := 8) (by decide) [(0, .ref (b 0)), (1, .int (nI t)), (2, .int (nI 1)), (3, .int (nI r1)), (4, .int (nI r2))] rfl (Nat.le_of_ble_eq_true rfl) ?_
  intro p e s m below meth c A h hr
  refine r_aload_n (pc := 0) h 0 d_M_join_0 rfl rfl ?_
  refine r_iload_n (pc := 1) h 1 d_M_join_1 rfl rfl ?_
  refine r_invSa (pc := 2) h (st := [.ref (b 0)]) d_M_join_2 (c_none_f t ht) (r_cS h wc_M_none w_378 w_3 w_379 hd_M_none ⟨(Nat.le_of_ble_eq_true rfl), (Nat.le_of_ble_eq_true rfl)⟩ rfl rfl) rfl rfl (Nat.le_of_ble_eq_true rfl) ⟨(Nat.le_of_ble_eq_true rfl), (Nat.le_of_ble_eq_true rfl)⟩ rfl ?_
  refine r_if_ne_f (pc := 5) h (tgt := 32) d_M_join_5 (by decide) rfl ?_
  refine r_iload_n (pc := 8) h 2 d_M_join_8 rfl rfl ?_
  refine r_if_lt_f (pc := 9) h (tgt := 32) d_M_join_9 (by decide) (by decide) ?_
  refine r_iload_n (pc := 12) h 2 d_M_join_12 rfl rfl ?_
  refine r_iconst (pc := 13) h (v := nI 4) d_M_join_13 (by decide) ?_
  refine r_icmp_gt_f (pc := 14) h (tgt := 32) d_M_join_14 (by decide) (by decide) ?_
  refine r_iload_n (pc := 17) h 3 d_M_join_17 rfl rfl ?_
  refine r_invSa (pc := 18) h (st := [.ref (b 0)]) d_M_join_18 (c_none_f r1 h1) (r_cS h wc_M_none w_378 w_3 w_379 hd_M_none ⟨(Nat.le_of_ble_eq_true rfl), (Nat.le_of_ble_eq_true rfl)⟩ rfl rfl) rfl rfl (Nat.le_of_ble_eq_true rfl) ⟨(Nat.le_of_ble_eq_true rfl), (Nat.le_of_ble_eq_true rfl)⟩ rfl ?_
  refine r_if_ne_f (pc := 21) h (tgt := 32) d_M_join_21 (by decide) rfl ?_
  refine r_iload (pc := 24) h 4 d_M_join_24 rfl ?_
  refine r_invSa (pc := 26) h (st := [.ref (b 0)]) d_M_join_26 (c_none_f r2 h2) (r_cS h wc_M_none w_378 w_3 w_379 hd_M_none ⟨(Nat.le_of_ble_eq_true rfl), (Nat.le_of_ble_eq_true rfl)⟩ rfl rfl) rfl rfl (Nat.le_of_ble_eq_true rfl) ⟨(Nat.le_of_ble_eq_true rfl), (Nat.le_of_ble_eq_true rfl)⟩ rfl ?_
  refine r_if_eq_t (pc := 29) h (tgt := 36) d_M_join_29 (by decide) rfl ?_
  refine r_iconst (pc := 36) h (v := bI false) d_M_join_36 (by decide) ?_
  refine r_invVa (pc := 37) h 0 (st := []) d_M_join_37 c_bad_false (r_cV h wc_M_bad w_384 w_3 w_386 (TT_se (q := (y_M_bad, 5)) 10 rfl) hd_M_bad ⟨(Nat.le_of_ble_eq_true rfl), (Nat.le_of_ble_eq_true rfl)⟩ rfl rfl) mw_0 rfl rfl rfl (Nat.le_of_ble_eq_true rfl) ⟨(Nat.le_of_ble_eq_true rfl), (Nat.le_of_ble_eq_true rfl)⟩ mw_adr ?_
  refine r_if_eq_t (pc := 40) h (tgt := 44) d_M_join_40 (by decide) rfl ?_
  refine r_iconst (pc := 44) h (v := nI 0) d_M_join_44 (by decide) ?_
  refine r_istore (pc := 45) h (lv' := [(5, .int (nI 0)), (0, .ref (b 0)), (1, .int (nI t)), (2, .int (nI 1)), (3, .int (nI r1)), (4, .int (nI r2))]) d_M_join_45 (by decide) rfl ?_
  refine Wv.wld (ws' := (mw G b (bI false) rg (mix 0 (fun x => jB 1 (rg r1 x) (rg r2 x)) wk) fi fa)) (by rw [mix_0]) ?_
  refine Wv.loop 1024 (fun i => (mw G b (bI false) rg (mix i (fun x => jB 1 (rg r1 x) (rg r2 x)) wk) fi fa)) (fun i => [(5, .int (nI i)), (0, .ref (b 0)), (1, .int (nI t)), (2, .int (nI 1)), (3, .int (nI r1)), (4, .int (nI r2))]) ?_ ?_
  · show Wv p l e _ s m _ below meth c G A _ _ _ _ (mw G b (bI false) rg (mix 1024 (fun x => jB 1 (rg r1 x) (rg r2 x)) wk) fi fa) 47 [(5, .int (nI 1024)), (0, .ref (b 0)), (1, .int (nI t)), (2, .int (nI 1)), (3, .int (nI r1)), (4, .int (nI r2))] []
    refine r_iload (pc := 47) h 0 d_M_join_47 rfl ?_
    refine r_sipush (pc := 49) h (v := nI 1024) d_M_join_49 (by decide) ?_
    refine r_icmp_ge_t (pc := 52) h (tgt := 189) d_M_join_52 (by decide) (nI_le (Nat.le_refl _) (by decide)) ?_
    refine r_aload_n (pc := 189) h 1 d_M_join_189 rfl rfl ?_
    refine r_iload_n (pc := 190) h 2 d_M_join_190 rfl rfl ?_
    refine r_invVv (pc := 191) h 0 (st := []) d_M_join_191 (c_keep t ht) (r_cV h wc_M_keep w_399 w_3 w_401 (TT_se (q := (y_M_keep, 5)) 11 rfl) hd_M_keep ⟨(Nat.le_of_ble_eq_true rfl), (Nat.le_of_ble_eq_true rfl)⟩ rfl rfl) mw_0 rfl rfl rfl (Nat.le_of_ble_eq_true rfl) ⟨(Nat.le_of_ble_eq_true rfl), (Nat.le_of_ble_eq_true rfl)⟩ mw_adr ?_
    exact r_vret (pc := 194) h hr d_M_join_194
  · intro i hi ih
    have ih : Wv p l e _ s m _ below meth c G A _ _ _ _ (mw G b (bI false) rg (mix (i + 1) (fun x => jB 1 (rg r1 x) (rg r2 x)) wk) fi fa) 47 [(5, .int (nI (i + 1))), (0, .ref (b 0)), (1, .int (nI t)), (2, .int (nI 1)), (3, .int (nI r1)), (4, .int (nI r2))] [] := ih
    show Wv p l e _ s m _ below meth c G A _ _ _ _ (mw G b (bI false) rg (mix i (fun x => jB 1 (rg r1 x) (rg r2 x)) wk) fi fa) 47 [(5, .int (nI i)), (0, .ref (b 0)), (1, .int (nI t)), (2, .int (nI 1)), (3, .int (nI r1)), (4, .int (nI r2))] []
    refine r_iload (pc := 47) h 0 d_M_join_47 rfl ?_
    refine r_sipush (pc := 49) h (v := nI 1024) d_M_join_49 (by decide) ?_
    refine r_icmp_ge_f (pc := 52) h (tgt := 189) d_M_join_52 (by decide) (nI_ge hi (by decide)) ?_
    refine r_aload_n (pc := 55) h 1 d_M_join_55 rfl rfl ?_
    refine r_get (pc := 56) h 0 1 d_M_join_56 mw_0 rfl (by decide) in_M (List.mem_cons_of_mem _ w_354) rfl ?_
    refine r_iload_n (pc := 59) h 4 d_M_join_59 rfl rfl ?_
    refine r_aaload (pc := 60) h 1 4 r1 d_M_join_60 mw_1 rfl rfl rfl h1 (by decide) (mw_o h1) ?_
    refine r_iload (pc := 61) h 0 d_M_join_61 rfl ?_
    refine r_baload (pc := 63) h (5 + r1) (z := bI (rg r1 i)) i d_M_join_63 (mw_r h1) rfl hi (by decide) rfl ?_
    refine r_istore (pc := 64) h (lv' := [(6, .int (bI (rg r1 i))), (5, .int (nI i)), (0, .ref (b 0)), (1, .int (nI t)), (2, .int (nI 1)), (3, .int (nI r1)), (4, .int (nI r2))]) d_M_join_64 (by decide) rfl ?_
    refine r_aload_n (pc := 66) h 2 d_M_join_66 rfl rfl ?_
    refine r_get (pc := 67) h 0 1 d_M_join_67 mw_0 rfl (by decide) in_M (List.mem_cons_of_mem _ w_354) rfl ?_
    refine r_iload (pc := 70) h 6 d_M_join_70 rfl ?_
    refine r_aaload (pc := 72) h 1 4 r2 d_M_join_72 mw_1 rfl rfl rfl h2 (by decide) (mw_o h2) ?_
    refine r_iload (pc := 73) h 1 d_M_join_73 rfl ?_
    refine r_baload (pc := 75) h (5 + r2) (z := bI (rg r2 i)) i d_M_join_75 (mw_r h2) rfl hi (by decide) rfl ?_
    refine r_istore (pc := 76) h (lv' := [(7, .int (bI (rg r2 i))), (6, .int (bI (rg r1 i))), (5, .int (nI i)), (0, .ref (b 0)), (1, .int (nI t)), (2, .int (nI 1)), (3, .int (nI r1)), (4, .int (nI r2))]) d_M_join_76 (by decide) rfl ?_
    refine r_aload_n (pc := 78) h 3 d_M_join_78 rfl rfl ?_
    refine r_get (pc := 79) h 0 2 d_M_join_79 mw_0 rfl (by decide) in_M (List.mem_cons_of_mem _ w_355) rfl ?_
    refine r_iload (pc := 82) h 2 d_M_join_82 rfl ?_
    refine r_iload_n (pc := 84) h 5 d_M_join_84 rfl rfl ?_
    refine r_if_ne_t (pc := 85) h (tgt := 106) d_M_join_85 (by decide) (by decide) ?_
    refine r_iload_n (pc := 106) h 5 d_M_join_106 rfl rfl ?_
    refine r_iconst (pc := 107) h (v := nI 1) d_M_join_107 (by decide) ?_
    refine r_icmp_ne_f (pc := 108) h (tgt := 129) d_M_join_108 (by decide) rfl ?_
    refine r_iload (pc := 111) h 1 d_M_join_111 rfl ?_
    refine r_if_ne (pc := 113) h (tgt := 121) d_M_join_113 (by decide) (fun q113 => ?_) (fun q113 => ?_)
    · have hb113 := bI_T q113
      refine r_iconst (pc := 121) h (v := bI (jB 1 (rg r1 i) (rg r2 i))) d_M_join_121 (by rw [hb113]; cases rg r2 i <;> decide) ?_
      refine r_goto (pc := 122) h (tgt := 182) d_M_join_122 (by decide) ?_
      refine r_bastore (pc := 182) h 2 (ws' := (mw G b (bI false) rg (mix (i + 1) (fun x => jB 1 (rg r1 x) (rg r2 x)) wk) fi fa)) i d_M_join_182 mw_2 rfl hi (by decide) (bI_nar _) (by rw [upd_b, mix_up i (fun x => jB 1 (rg r1 x) (rg r2 x)) wk]; exact mw_s2) ?_
      refine r_iinc (pc := 183) h (v := nI (i + 1)) (lv' := [(5, .int (nI (i + 1))), (7, .int (bI (rg r2 i))), (6, .int (bI (rg r1 i))), (0, .ref (b 0)), (1, .int (nI t)), (2, .int (nI 1)), (3, .int (nI r1)), (4, .int (nI r2))]) 2 d_M_join_183 rfl (nI_inc i) (by decide) rfl ?_
      refine r_goto (pc := 186) h (tgt := 47) d_M_join_186 (by decide) ?_
      refine Wv.sub [0, 3, 4, 5, 6, 7] rfl ?_
      exact ih
    · have hb113 := bI_F q113
      refine r_iload (pc := 116) h 0 d_M_join_116 rfl ?_
      refine r_if_eq (pc := 118) h (tgt := 125) d_M_join_118 (by decide) (fun q118 => ?_) (fun q118 => ?_)
      · have hb118 := bI_F q118
        refine r_iconst (pc := 125) h (v := bI (jB 1 (rg r1 i) (rg r2 i))) d_M_join_125 (by rw [hb113, hb118]; decide) ?_
        refine r_goto (pc := 126) h (tgt := 182) d_M_join_126 (by decide) ?_
        refine r_bastore (pc := 182) h 2 (ws' := (mw G b (bI false) rg (mix (i + 1) (fun x => jB 1 (rg r1 x) (rg r2 x)) wk) fi fa)) i d_M_join_182 mw_2 rfl hi (by decide) (bI_nar _) (by rw [upd_b, mix_up i (fun x => jB 1 (rg r1 x) (rg r2 x)) wk]; exact mw_s2) ?_
        refine r_iinc (pc := 183) h (v := nI (i + 1)) (lv' := [(5, .int (nI (i + 1))), (7, .int (bI (rg r2 i))), (6, .int (bI (rg r1 i))), (0, .ref (b 0)), (1, .int (nI t)), (2, .int (nI 1)), (3, .int (nI r1)), (4, .int (nI r2))]) 2 d_M_join_183 rfl (nI_inc i) (by decide) rfl ?_
        refine r_goto (pc := 186) h (tgt := 47) d_M_join_186 (by decide) ?_
        refine Wv.sub [0, 3, 4, 5, 6, 7] rfl ?_
        exact ih
      · have hb118 := bI_T q118
        refine r_iconst (pc := 121) h (v := bI (jB 1 (rg r1 i) (rg r2 i))) d_M_join_121 (by rw [hb113, hb118]; decide) ?_
        refine r_goto (pc := 122) h (tgt := 182) d_M_join_122 (by decide) ?_
        refine r_bastore (pc := 182) h 2 (ws' := (mw G b (bI false) rg (mix (i + 1) (fun x => jB 1 (rg r1 x) (rg r2 x)) wk) fi fa)) i d_M_join_182 mw_2 rfl hi (by decide) (bI_nar _) (by rw [upd_b, mix_up i (fun x => jB 1 (rg r1 x) (rg r2 x)) wk]; exact mw_s2) ?_
        refine r_iinc (pc := 183) h (v := nI (i + 1)) (lv' := [(5, .int (nI (i + 1))), (7, .int (bI (rg r2 i))), (6, .int (bI (rg r1 i))), (0, .ref (b 0)), (1, .int (nI t)), (2, .int (nI 1)), (3, .int (nI r1)), (4, .int (nI r2))]) 2 d_M_join_183 rfl (nI_inc i) (by decide) rfl ?_
        refine r_goto (pc := 186) h (tgt := 47) d_M_join_186 (by decide) ?_
        refine Wv.sub [0, 3, 4, 5, 6, 7] rfl ?_
        exact ih
theorem m_join2 (t : Nat) (ht : t < 16) (r1 r2 : Nat) (h1 : r1 < 16) (h2 : r2 < 16) : Ct l y_M_join (.code y_M_join b_M_join 8 none :: TT) (rmF 2 61) G [.ref (b 0), .int (nI t), .int (nI 2), .int (nI r1), .int (nI r2)] (mw G b th rg wk fi fa) none (mw G b (bI false) (va_up rg t (mix 1024 (mix 1024 (fun x => jB 2 (rg r1 x) (rg r2 x)) wk) (rg t))) (mix 1024 (fun x => jB 2 (rg r1 x) (rg r2 x)) wk) fi fa) := by
  refine ct_intro (cc := b_M_join) (nL := 8) (by decide) [(0, .ref (b 0)), (1, .int (nI t)), (2, .int (nI 2)), (3, .int (nI r1)), (4, .int (nI r2))] rfl (Nat.le_of_ble_eq_true rfl) ?_
  intro p e s m below meth c A h hr
  refine r_aload_n (pc := 0) h 0 d_M_join_0 rfl rfl ?_
  refine r_iload_n (pc := 1) h 1 d_M_join_1 rfl rfl ?_
  refine r_invSa (pc := 2) h (st := [.ref (b 0)]) d_M_join_2 (c_none_f t ht) (r_cS h wc_M_none w_378 w_3 w_379 hd_M_none ⟨(Nat.le_of_ble_eq_true rfl), (Nat.le_of_ble_eq_true rfl)⟩ rfl rfl) rfl rfl (Nat.le_of_ble_eq_true rfl) ⟨(Nat.le_of_ble_eq_true rfl), (Nat.le_of_ble_eq_true rfl)⟩ rfl ?_
  refine r_if_ne_f (pc := 5) h (tgt := 32) d_M_join_5 (by decide) rfl ?_
  refine r_iload_n (pc := 8) h 2 d_M_join_8 rfl rfl ?_
  refine r_if_lt_f (pc := 9) h (tgt := 32) d_M_join_9 (by decide) (by decide) ?_
  refine r_iload_n (pc := 12) h 2 d_M_join_12 rfl rfl ?_
  refine r_iconst (pc := 13) h (v := nI 4) d_M_join_13 (by decide) ?_
  refine r_icmp_gt_f (pc := 14) h (tgt := 32) d_M_join_14 (by decide) (by decide) ?_
  refine r_iload_n (pc := 17) h 3 d_M_join_17 rfl rfl ?_
  refine r_invSa (pc := 18) h (st := [.ref (b 0)]) d_M_join_18 (c_none_f r1 h1) (r_cS h wc_M_none w_378 w_3 w_379 hd_M_none ⟨(Nat.le_of_ble_eq_true rfl), (Nat.le_of_ble_eq_true rfl)⟩ rfl rfl) rfl rfl (Nat.le_of_ble_eq_true rfl) ⟨(Nat.le_of_ble_eq_true rfl), (Nat.le_of_ble_eq_true rfl)⟩ rfl ?_
  refine r_if_ne_f (pc := 21) h (tgt := 32) d_M_join_21 (by decide) rfl ?_
  refine r_iload (pc := 24) h 4 d_M_join_24 rfl ?_
  refine r_invSa (pc := 26) h (st := [.ref (b 0)]) d_M_join_26 (c_none_f r2 h2) (r_cS h wc_M_none w_378 w_3 w_379 hd_M_none ⟨(Nat.le_of_ble_eq_true rfl), (Nat.le_of_ble_eq_true rfl)⟩ rfl rfl) rfl rfl (Nat.le_of_ble_eq_true rfl) ⟨(Nat.le_of_ble_eq_true rfl), (Nat.le_of_ble_eq_true rfl)⟩ rfl ?_
  refine r_if_eq_t (pc := 29) h (tgt := 36) d_M_join_29 (by decide) rfl ?_
  refine r_iconst (pc := 36) h (v := bI false) d_M_join_36 (by decide) ?_
  refine r_invVa (pc := 37) h 0 (st := []) d_M_join_37 c_bad_false (r_cV h wc_M_bad w_384 w_3 w_386 (TT_se (q := (y_M_bad, 5)) 10 rfl) hd_M_bad ⟨(Nat.le_of_ble_eq_true rfl), (Nat.le_of_ble_eq_true rfl)⟩ rfl rfl) mw_0 rfl rfl rfl (Nat.le_of_ble_eq_true rfl) ⟨(Nat.le_of_ble_eq_true rfl), (Nat.le_of_ble_eq_true rfl)⟩ mw_adr ?_
  refine r_if_eq_t (pc := 40) h (tgt := 44) d_M_join_40 (by decide) rfl ?_
  refine r_iconst (pc := 44) h (v := nI 0) d_M_join_44 (by decide) ?_
  refine r_istore (pc := 45) h (lv' := [(5, .int (nI 0)), (0, .ref (b 0)), (1, .int (nI t)), (2, .int (nI 2)), (3, .int (nI r1)), (4, .int (nI r2))]) d_M_join_45 (by decide) rfl ?_
  refine Wv.wld (ws' := (mw G b (bI false) rg (mix 0 (fun x => jB 2 (rg r1 x) (rg r2 x)) wk) fi fa)) (by rw [mix_0]) ?_
  refine Wv.loop 1024 (fun i => (mw G b (bI false) rg (mix i (fun x => jB 2 (rg r1 x) (rg r2 x)) wk) fi fa)) (fun i => [(5, .int (nI i)), (0, .ref (b 0)), (1, .int (nI t)), (2, .int (nI 2)), (3, .int (nI r1)), (4, .int (nI r2))]) ?_ ?_
  · show Wv p l e _ s m _ below meth c G A _ _ _ _ (mw G b (bI false) rg (mix 1024 (fun x => jB 2 (rg r1 x) (rg r2 x)) wk) fi fa) 47 [(5, .int (nI 1024)), (0, .ref (b 0)), (1, .int (nI t)), (2, .int (nI 2)), (3, .int (nI r1)), (4, .int (nI r2))] []
    refine r_iload (pc := 47) h 0 d_M_join_47 rfl ?_
    refine r_sipush (pc := 49) h (v := nI 1024) d_M_join_49 (by decide) ?_
    refine r_icmp_ge_t (pc := 52) h (tgt := 189) d_M_join_52 (by decide) (nI_le (Nat.le_refl _) (by decide)) ?_
    refine r_aload_n (pc := 189) h 1 d_M_join_189 rfl rfl ?_
    refine r_iload_n (pc := 190) h 2 d_M_join_190 rfl rfl ?_
    refine r_invVv (pc := 191) h 0 (st := []) d_M_join_191 (c_keep t ht) (r_cV h wc_M_keep w_399 w_3 w_401 (TT_se (q := (y_M_keep, 5)) 11 rfl) hd_M_keep ⟨(Nat.le_of_ble_eq_true rfl), (Nat.le_of_ble_eq_true rfl)⟩ rfl rfl) mw_0 rfl rfl rfl (Nat.le_of_ble_eq_true rfl) ⟨(Nat.le_of_ble_eq_true rfl), (Nat.le_of_ble_eq_true rfl)⟩ mw_adr ?_
    exact r_vret (pc := 194) h hr d_M_join_194
  · intro i hi ih
    have ih : Wv p l e _ s m _ below meth c G A _ _ _ _ (mw G b (bI false) rg (mix (i + 1) (fun x => jB 2 (rg r1 x) (rg r2 x)) wk) fi fa) 47 [(5, .int (nI (i + 1))), (0, .ref (b 0)), (1, .int (nI t)), (2, .int (nI 2)), (3, .int (nI r1)), (4, .int (nI r2))] [] := ih
    show Wv p l e _ s m _ below meth c G A _ _ _ _ (mw G b (bI false) rg (mix i (fun x => jB 2 (rg r1 x) (rg r2 x)) wk) fi fa) 47 [(5, .int (nI i)), (0, .ref (b 0)), (1, .int (nI t)), (2, .int (nI 2)), (3, .int (nI r1)), (4, .int (nI r2))] []
    refine r_iload (pc := 47) h 0 d_M_join_47 rfl ?_
    refine r_sipush (pc := 49) h (v := nI 1024) d_M_join_49 (by decide) ?_
    refine r_icmp_ge_f (pc := 52) h (tgt := 189) d_M_join_52 (by decide) (nI_ge hi (by decide)) ?_
    refine r_aload_n (pc := 55) h 1 d_M_join_55 rfl rfl ?_
    refine r_get (pc := 56) h 0 1 d_M_join_56 mw_0 rfl (by decide) in_M (List.mem_cons_of_mem _ w_354) rfl ?_
    refine r_iload_n (pc := 59) h 4 d_M_join_59 rfl rfl ?_
    refine r_aaload (pc := 60) h 1 4 r1 d_M_join_60 mw_1 rfl rfl rfl h1 (by decide) (mw_o h1) ?_
    refine r_iload (pc := 61) h 0 d_M_join_61 rfl ?_
    refine r_baload (pc := 63) h (5 + r1) (z := bI (rg r1 i)) i d_M_join_63 (mw_r h1) rfl hi (by decide) rfl ?_
    refine r_istore (pc := 64) h (lv' := [(6, .int (bI (rg r1 i))), (5, .int (nI i)), (0, .ref (b 0)), (1, .int (nI t)), (2, .int (nI 2)), (3, .int (nI r1)), (4, .int (nI r2))]) d_M_join_64 (by decide) rfl ?_
    refine r_aload_n (pc := 66) h 2 d_M_join_66 rfl rfl ?_
    refine r_get (pc := 67) h 0 1 d_M_join_67 mw_0 rfl (by decide) in_M (List.mem_cons_of_mem _ w_354) rfl ?_
    refine r_iload (pc := 70) h 6 d_M_join_70 rfl ?_
    refine r_aaload (pc := 72) h 1 4 r2 d_M_join_72 mw_1 rfl rfl rfl h2 (by decide) (mw_o h2) ?_
    refine r_iload (pc := 73) h 1 d_M_join_73 rfl ?_
    refine r_baload (pc := 75) h (5 + r2) (z := bI (rg r2 i)) i d_M_join_75 (mw_r h2) rfl hi (by decide) rfl ?_
    refine r_istore (pc := 76) h (lv' := [(7, .int (bI (rg r2 i))), (6, .int (bI (rg r1 i))), (5, .int (nI i)), (0, .ref (b 0)), (1, .int (nI t)), (2, .int (nI 2)), (3, .int (nI r1)), (4, .int (nI r2))]) d_M_join_76 (by decide) rfl ?_
    refine r_aload_n (pc := 78) h 3 d_M_join_78 rfl rfl ?_
    refine r_get (pc := 79) h 0 2 d_M_join_79 mw_0 rfl (by decide) in_M (List.mem_cons_of_mem _ w_355) rfl ?_
    refine r_iload (pc := 82) h 2 d_M_join_82 rfl ?_
    refine r_iload_n (pc := 84) h 5 d_M_join_84 rfl rfl ?_
    refine r_if_ne_t (pc := 85) h (tgt := 106) d_M_join_85 (by decide) (by decide) ?_
    refine r_iload_n (pc := 106) h 5 d_M_join_106 rfl rfl ?_
    refine r_iconst (pc := 107) h (v := nI 1) d_M_join_107 (by decide) ?_
    refine r_icmp_ne_t (pc := 108) h (tgt := 129) d_M_join_108 (by decide) (by decide) ?_
    refine r_iload_n (pc := 129) h 5 d_M_join_129 rfl rfl ?_
    refine r_iconst (pc := 130) h (v := nI 2) d_M_join_130 (by decide) ?_
    refine r_icmp_ne_f (pc := 131) h (tgt := 149) d_M_join_131 (by decide) rfl ?_
    refine r_iload (pc := 134) h 1 d_M_join_134 rfl ?_
    refine r_iload (pc := 136) h 0 d_M_join_136 rfl ?_
    refine r_icmp_eq (pc := 138) h (tgt := 145) d_M_join_138 (by decide) (fun q138 => ?_) (fun q138 => ?_)
    · refine r_iconst (pc := 145) h (v := bI (jB 2 (rg r1 i) (rg r2 i))) d_M_join_145 (by rw [bI_inj.mp q138]; cases rg r2 i <;> decide) ?_
      refine r_goto (pc := 146) h (tgt := 182) d_M_join_146 (by decide) ?_
      refine r_bastore (pc := 182) h 2 (ws' := (mw G b (bI false) rg (mix (i + 1) (fun x => jB 2 (rg r1 x) (rg r2 x)) wk) fi fa)) i d_M_join_182 mw_2 rfl hi (by decide) (bI_nar _) (by rw [upd_b, mix_up i (fun x => jB 2 (rg r1 x) (rg r2 x)) wk]; exact mw_s2) ?_
      refine r_iinc (pc := 183) h (v := nI (i + 1)) (lv' := [(5, .int (nI (i + 1))), (7, .int (bI (rg r2 i))), (6, .int (bI (rg r1 i))), (0, .ref (b 0)), (1, .int (nI t)), (2, .int (nI 2)), (3, .int (nI r1)), (4, .int (nI r2))]) 2 d_M_join_183 rfl (nI_inc i) (by decide) rfl ?_
      refine r_goto (pc := 186) h (tgt := 47) d_M_join_186 (by decide) ?_
      refine Wv.sub [0, 3, 4, 5, 6, 7] rfl ?_
      exact ih
    · refine r_iconst (pc := 141) h (v := bI (jB 2 (rg r1 i) (rg r2 i))) d_M_join_141 (by revert q138; cases rg r1 i <;> cases rg r2 i <;> decide) ?_
      refine r_goto (pc := 142) h (tgt := 182) d_M_join_142 (by decide) ?_
      refine r_bastore (pc := 182) h 2 (ws' := (mw G b (bI false) rg (mix (i + 1) (fun x => jB 2 (rg r1 x) (rg r2 x)) wk) fi fa)) i d_M_join_182 mw_2 rfl hi (by decide) (bI_nar _) (by rw [upd_b, mix_up i (fun x => jB 2 (rg r1 x) (rg r2 x)) wk]; exact mw_s2) ?_
      refine r_iinc (pc := 183) h (v := nI (i + 1)) (lv' := [(5, .int (nI (i + 1))), (7, .int (bI (rg r2 i))), (6, .int (bI (rg r1 i))), (0, .ref (b 0)), (1, .int (nI t)), (2, .int (nI 2)), (3, .int (nI r1)), (4, .int (nI r2))]) 2 d_M_join_183 rfl (nI_inc i) (by decide) rfl ?_
      refine r_goto (pc := 186) h (tgt := 47) d_M_join_186 (by decide) ?_
      refine Wv.sub [0, 3, 4, 5, 6, 7] rfl ?_
      exact ih
theorem m_join3 (t : Nat) (ht : t < 16) (r1 r2 : Nat) (h1 : r1 < 16) (h2 : r2 < 16) : Ct l y_M_join (.code y_M_join b_M_join 8 none :: TT) (rmF 2 61) G [.ref (b 0), .int (nI t), .int (nI 3), .int (nI r1), .int (nI r2)] (mw G b th rg wk fi fa) none (mw G b (bI false) (va_up rg t (mix 1024 (mix 1024 (fun x => jB 3 (rg r1 x) (rg r2 x)) wk) (rg t))) (mix 1024 (fun x => jB 3 (rg r1 x) (rg r2 x)) wk) fi fa) := by
  refine ct_intro (cc := b_M_join) (nL := 8) (by decide) [(0, .ref (b 0)), (1, .int (nI t)), (2, .int (nI 3)), (3, .int (nI r1)), (4, .int (nI r2))] rfl (Nat.le_of_ble_eq_true rfl) ?_
  intro p e s m below meth c A h hr
  refine r_aload_n (pc := 0) h 0 d_M_join_0 rfl rfl ?_
  refine r_iload_n (pc := 1) h 1 d_M_join_1 rfl rfl ?_
  refine r_invSa (pc := 2) h (st := [.ref (b 0)]) d_M_join_2 (c_none_f t ht) (r_cS h wc_M_none w_378 w_3 w_379 hd_M_none ⟨(Nat.le_of_ble_eq_true rfl), (Nat.le_of_ble_eq_true rfl)⟩ rfl rfl) rfl rfl (Nat.le_of_ble_eq_true rfl) ⟨(Nat.le_of_ble_eq_true rfl), (Nat.le_of_ble_eq_true rfl)⟩ rfl ?_
  refine r_if_ne_f (pc := 5) h (tgt := 32) d_M_join_5 (by decide) rfl ?_
  refine r_iload_n (pc := 8) h 2 d_M_join_8 rfl rfl ?_
  refine r_if_lt_f (pc := 9) h (tgt := 32) d_M_join_9 (by decide) (by decide) ?_
  refine r_iload_n (pc := 12) h 2 d_M_join_12 rfl rfl ?_
  refine r_iconst (pc := 13) h (v := nI 4) d_M_join_13 (by decide) ?_
  refine r_icmp_gt_f (pc := 14) h (tgt := 32) d_M_join_14 (by decide) (by decide) ?_
  refine r_iload_n (pc := 17) h 3 d_M_join_17 rfl rfl ?_
  refine r_invSa (pc := 18) h (st := [.ref (b 0)]) d_M_join_18 (c_none_f r1 h1) (r_cS h wc_M_none w_378 w_3 w_379 hd_M_none ⟨(Nat.le_of_ble_eq_true rfl), (Nat.le_of_ble_eq_true rfl)⟩ rfl rfl) rfl rfl (Nat.le_of_ble_eq_true rfl) ⟨(Nat.le_of_ble_eq_true rfl), (Nat.le_of_ble_eq_true rfl)⟩ rfl ?_
  refine r_if_ne_f (pc := 21) h (tgt := 32) d_M_join_21 (by decide) rfl ?_
  refine r_iload (pc := 24) h 4 d_M_join_24 rfl ?_
  refine r_invSa (pc := 26) h (st := [.ref (b 0)]) d_M_join_26 (c_none_f r2 h2) (r_cS h wc_M_none w_378 w_3 w_379 hd_M_none ⟨(Nat.le_of_ble_eq_true rfl), (Nat.le_of_ble_eq_true rfl)⟩ rfl rfl) rfl rfl (Nat.le_of_ble_eq_true rfl) ⟨(Nat.le_of_ble_eq_true rfl), (Nat.le_of_ble_eq_true rfl)⟩ rfl ?_
  refine r_if_eq_t (pc := 29) h (tgt := 36) d_M_join_29 (by decide) rfl ?_
  refine r_iconst (pc := 36) h (v := bI false) d_M_join_36 (by decide) ?_
  refine r_invVa (pc := 37) h 0 (st := []) d_M_join_37 c_bad_false (r_cV h wc_M_bad w_384 w_3 w_386 (TT_se (q := (y_M_bad, 5)) 10 rfl) hd_M_bad ⟨(Nat.le_of_ble_eq_true rfl), (Nat.le_of_ble_eq_true rfl)⟩ rfl rfl) mw_0 rfl rfl rfl (Nat.le_of_ble_eq_true rfl) ⟨(Nat.le_of_ble_eq_true rfl), (Nat.le_of_ble_eq_true rfl)⟩ mw_adr ?_
  refine r_if_eq_t (pc := 40) h (tgt := 44) d_M_join_40 (by decide) rfl ?_
  refine r_iconst (pc := 44) h (v := nI 0) d_M_join_44 (by decide) ?_
  refine r_istore (pc := 45) h (lv' := [(5, .int (nI 0)), (0, .ref (b 0)), (1, .int (nI t)), (2, .int (nI 3)), (3, .int (nI r1)), (4, .int (nI r2))]) d_M_join_45 (by decide) rfl ?_
  refine Wv.wld (ws' := (mw G b (bI false) rg (mix 0 (fun x => jB 3 (rg r1 x) (rg r2 x)) wk) fi fa)) (by rw [mix_0]) ?_
  refine Wv.loop 1024 (fun i => (mw G b (bI false) rg (mix i (fun x => jB 3 (rg r1 x) (rg r2 x)) wk) fi fa)) (fun i => [(5, .int (nI i)), (0, .ref (b 0)), (1, .int (nI t)), (2, .int (nI 3)), (3, .int (nI r1)), (4, .int (nI r2))]) ?_ ?_
  · show Wv p l e _ s m _ below meth c G A _ _ _ _ (mw G b (bI false) rg (mix 1024 (fun x => jB 3 (rg r1 x) (rg r2 x)) wk) fi fa) 47 [(5, .int (nI 1024)), (0, .ref (b 0)), (1, .int (nI t)), (2, .int (nI 3)), (3, .int (nI r1)), (4, .int (nI r2))] []
    refine r_iload (pc := 47) h 0 d_M_join_47 rfl ?_
    refine r_sipush (pc := 49) h (v := nI 1024) d_M_join_49 (by decide) ?_
    refine r_icmp_ge_t (pc := 52) h (tgt := 189) d_M_join_52 (by decide) (nI_le (Nat.le_refl _) (by decide)) ?_
    refine r_aload_n (pc := 189) h 1 d_M_join_189 rfl rfl ?_
    refine r_iload_n (pc := 190) h 2 d_M_join_190 rfl rfl ?_
    refine r_invVv (pc := 191) h 0 (st := []) d_M_join_191 (c_keep t ht) (r_cV h wc_M_keep w_399 w_3 w_401 (TT_se (q := (y_M_keep, 5)) 11 rfl) hd_M_keep ⟨(Nat.le_of_ble_eq_true rfl), (Nat.le_of_ble_eq_true rfl)⟩ rfl rfl) mw_0 rfl rfl rfl (Nat.le_of_ble_eq_true rfl) ⟨(Nat.le_of_ble_eq_true rfl), (Nat.le_of_ble_eq_true rfl)⟩ mw_adr ?_
    exact r_vret (pc := 194) h hr d_M_join_194
  · intro i hi ih
    have ih : Wv p l e _ s m _ below meth c G A _ _ _ _ (mw G b (bI false) rg (mix (i + 1) (fun x => jB 3 (rg r1 x) (rg r2 x)) wk) fi fa) 47 [(5, .int (nI (i + 1))), (0, .ref (b 0)), (1, .int (nI t)), (2, .int (nI 3)), (3, .int (nI r1)), (4, .int (nI r2))] [] := ih
    show Wv p l e _ s m _ below meth c G A _ _ _ _ (mw G b (bI false) rg (mix i (fun x => jB 3 (rg r1 x) (rg r2 x)) wk) fi fa) 47 [(5, .int (nI i)), (0, .ref (b 0)), (1, .int (nI t)), (2, .int (nI 3)), (3, .int (nI r1)), (4, .int (nI r2))] []
    refine r_iload (pc := 47) h 0 d_M_join_47 rfl ?_
    refine r_sipush (pc := 49) h (v := nI 1024) d_M_join_49 (by decide) ?_
    refine r_icmp_ge_f (pc := 52) h (tgt := 189) d_M_join_52 (by decide) (nI_ge hi (by decide)) ?_
    refine r_aload_n (pc := 55) h 1 d_M_join_55 rfl rfl ?_
    refine r_get (pc := 56) h 0 1 d_M_join_56 mw_0 rfl (by decide) in_M (List.mem_cons_of_mem _ w_354) rfl ?_
    refine r_iload_n (pc := 59) h 4 d_M_join_59 rfl rfl ?_
    refine r_aaload (pc := 60) h 1 4 r1 d_M_join_60 mw_1 rfl rfl rfl h1 (by decide) (mw_o h1) ?_
    refine r_iload (pc := 61) h 0 d_M_join_61 rfl ?_
    refine r_baload (pc := 63) h (5 + r1) (z := bI (rg r1 i)) i d_M_join_63 (mw_r h1) rfl hi (by decide) rfl ?_
    refine r_istore (pc := 64) h (lv' := [(6, .int (bI (rg r1 i))), (5, .int (nI i)), (0, .ref (b 0)), (1, .int (nI t)), (2, .int (nI 3)), (3, .int (nI r1)), (4, .int (nI r2))]) d_M_join_64 (by decide) rfl ?_
    refine r_aload_n (pc := 66) h 2 d_M_join_66 rfl rfl ?_
    refine r_get (pc := 67) h 0 1 d_M_join_67 mw_0 rfl (by decide) in_M (List.mem_cons_of_mem _ w_354) rfl ?_
    refine r_iload (pc := 70) h 6 d_M_join_70 rfl ?_
    refine r_aaload (pc := 72) h 1 4 r2 d_M_join_72 mw_1 rfl rfl rfl h2 (by decide) (mw_o h2) ?_
    refine r_iload (pc := 73) h 1 d_M_join_73 rfl ?_
    refine r_baload (pc := 75) h (5 + r2) (z := bI (rg r2 i)) i d_M_join_75 (mw_r h2) rfl hi (by decide) rfl ?_
    refine r_istore (pc := 76) h (lv' := [(7, .int (bI (rg r2 i))), (6, .int (bI (rg r1 i))), (5, .int (nI i)), (0, .ref (b 0)), (1, .int (nI t)), (2, .int (nI 3)), (3, .int (nI r1)), (4, .int (nI r2))]) d_M_join_76 (by decide) rfl ?_
    refine r_aload_n (pc := 78) h 3 d_M_join_78 rfl rfl ?_
    refine r_get (pc := 79) h 0 2 d_M_join_79 mw_0 rfl (by decide) in_M (List.mem_cons_of_mem _ w_355) rfl ?_
    refine r_iload (pc := 82) h 2 d_M_join_82 rfl ?_
    refine r_iload_n (pc := 84) h 5 d_M_join_84 rfl rfl ?_
    refine r_if_ne_t (pc := 85) h (tgt := 106) d_M_join_85 (by decide) (by decide) ?_
    refine r_iload_n (pc := 106) h 5 d_M_join_106 rfl rfl ?_
    refine r_iconst (pc := 107) h (v := nI 1) d_M_join_107 (by decide) ?_
    refine r_icmp_ne_t (pc := 108) h (tgt := 129) d_M_join_108 (by decide) (by decide) ?_
    refine r_iload_n (pc := 129) h 5 d_M_join_129 rfl rfl ?_
    refine r_iconst (pc := 130) h (v := nI 2) d_M_join_130 (by decide) ?_
    refine r_icmp_ne_t (pc := 131) h (tgt := 149) d_M_join_131 (by decide) (by decide) ?_
    refine r_iload_n (pc := 149) h 5 d_M_join_149 rfl rfl ?_
    refine r_iconst (pc := 150) h (v := nI 3) d_M_join_150 (by decide) ?_
    refine r_icmp_ne_f (pc := 151) h (tgt := 172) d_M_join_151 (by decide) rfl ?_
    refine r_iload (pc := 154) h 1 d_M_join_154 rfl ?_
    refine r_if_eq (pc := 156) h (tgt := 164) d_M_join_156 (by decide) (fun q156 => ?_) (fun q156 => ?_)
    · have hb156 := bI_F q156
      refine r_iconst (pc := 164) h (v := bI (jB 3 (rg r1 i) (rg r2 i))) d_M_join_164 (by rw [hb156]; cases rg r2 i <;> decide) ?_
      refine r_goto (pc := 165) h (tgt := 182) d_M_join_165 (by decide) ?_
      refine r_bastore (pc := 182) h 2 (ws' := (mw G b (bI false) rg (mix (i + 1) (fun x => jB 3 (rg r1 x) (rg r2 x)) wk) fi fa)) i d_M_join_182 mw_2 rfl hi (by decide) (bI_nar _) (by rw [upd_b, mix_up i (fun x => jB 3 (rg r1 x) (rg r2 x)) wk]; exact mw_s2) ?_
      refine r_iinc (pc := 183) h (v := nI (i + 1)) (lv' := [(5, .int (nI (i + 1))), (7, .int (bI (rg r2 i))), (6, .int (bI (rg r1 i))), (0, .ref (b 0)), (1, .int (nI t)), (2, .int (nI 3)), (3, .int (nI r1)), (4, .int (nI r2))]) 2 d_M_join_183 rfl (nI_inc i) (by decide) rfl ?_
      refine r_goto (pc := 186) h (tgt := 47) d_M_join_186 (by decide) ?_
      refine Wv.sub [0, 3, 4, 5, 6, 7] rfl ?_
      exact ih
    · have hb156 := bI_T q156
      refine r_iload (pc := 159) h 0 d_M_join_159 rfl ?_
      refine r_if_eq (pc := 161) h (tgt := 168) d_M_join_161 (by decide) (fun q161 => ?_) (fun q161 => ?_)
      · have hb161 := bI_F q161
        refine r_iconst (pc := 168) h (v := bI (jB 3 (rg r1 i) (rg r2 i))) d_M_join_168 (by rw [hb156, hb161]; decide) ?_
        refine r_goto (pc := 169) h (tgt := 182) d_M_join_169 (by decide) ?_
        refine r_bastore (pc := 182) h 2 (ws' := (mw G b (bI false) rg (mix (i + 1) (fun x => jB 3 (rg r1 x) (rg r2 x)) wk) fi fa)) i d_M_join_182 mw_2 rfl hi (by decide) (bI_nar _) (by rw [upd_b, mix_up i (fun x => jB 3 (rg r1 x) (rg r2 x)) wk]; exact mw_s2) ?_
        refine r_iinc (pc := 183) h (v := nI (i + 1)) (lv' := [(5, .int (nI (i + 1))), (7, .int (bI (rg r2 i))), (6, .int (bI (rg r1 i))), (0, .ref (b 0)), (1, .int (nI t)), (2, .int (nI 3)), (3, .int (nI r1)), (4, .int (nI r2))]) 2 d_M_join_183 rfl (nI_inc i) (by decide) rfl ?_
        refine r_goto (pc := 186) h (tgt := 47) d_M_join_186 (by decide) ?_
        refine Wv.sub [0, 3, 4, 5, 6, 7] rfl ?_
        exact ih
      · have hb161 := bI_T q161
        refine r_iconst (pc := 164) h (v := bI (jB 3 (rg r1 i) (rg r2 i))) d_M_join_164 (by rw [hb156, hb161]; decide) ?_
        refine r_goto (pc := 165) h (tgt := 182) d_M_join_165 (by decide) ?_
        refine r_bastore (pc := 182) h 2 (ws' := (mw G b (bI false) rg (mix (i + 1) (fun x => jB 3 (rg r1 x) (rg r2 x)) wk) fi fa)) i d_M_join_182 mw_2 rfl hi (by decide) (bI_nar _) (by rw [upd_b, mix_up i (fun x => jB 3 (rg r1 x) (rg r2 x)) wk]; exact mw_s2) ?_
        refine r_iinc (pc := 183) h (v := nI (i + 1)) (lv' := [(5, .int (nI (i + 1))), (7, .int (bI (rg r2 i))), (6, .int (bI (rg r1 i))), (0, .ref (b 0)), (1, .int (nI t)), (2, .int (nI 3)), (3, .int (nI r1)), (4, .int (nI r2))]) 2 d_M_join_183 rfl (nI_inc i) (by decide) rfl ?_
        refine r_goto (pc := 186) h (tgt := 47) d_M_join_186 (by decide) ?_
        refine Wv.sub [0, 3, 4, 5, 6, 7] rfl ?_
        exact ih
theorem m_join4 (t : Nat) (ht : t < 16) (r1 r2 : Nat) (h1 : r1 < 16) (h2 : r2 < 16) : Ct l y_M_join (.code y_M_join b_M_join 8 none :: TT) (rmF 2 61) G [.ref (b 0), .int (nI t), .int (nI 4), .int (nI r1), .int (nI r2)] (mw G b th rg wk fi fa) none (mw G b (bI false) (va_up rg t (mix 1024 (mix 1024 (fun x => jB 4 (rg r1 x) (rg r2 x)) wk) (rg t))) (mix 1024 (fun x => jB 4 (rg r1 x) (rg r2 x)) wk) fi fa) := by
  refine ct_intro (cc := b_M_join) (nL := 8) (by decide) [(0, .ref (b 0)), (1, .int (nI t)), (2, .int (nI 4)), (3, .int (nI r1)), (4, .int (nI r2))] rfl (Nat.le_of_ble_eq_true rfl) ?_
  intro p e s m below meth c A h hr
  refine r_aload_n (pc := 0) h 0 d_M_join_0 rfl rfl ?_
  refine r_iload_n (pc := 1) h 1 d_M_join_1 rfl rfl ?_
  refine r_invSa (pc := 2) h (st := [.ref (b 0)]) d_M_join_2 (c_none_f t ht) (r_cS h wc_M_none w_378 w_3 w_379 hd_M_none ⟨(Nat.le_of_ble_eq_true rfl), (Nat.le_of_ble_eq_true rfl)⟩ rfl rfl) rfl rfl (Nat.le_of_ble_eq_true rfl) ⟨(Nat.le_of_ble_eq_true rfl), (Nat.le_of_ble_eq_true rfl)⟩ rfl ?_
  refine r_if_ne_f (pc := 5) h (tgt := 32) d_M_join_5 (by decide) rfl ?_
  refine r_iload_n (pc := 8) h 2 d_M_join_8 rfl rfl ?_
  refine r_if_lt_f (pc := 9) h (tgt := 32) d_M_join_9 (by decide) (by decide) ?_
  refine r_iload_n (pc := 12) h 2 d_M_join_12 rfl rfl ?_
  refine r_iconst (pc := 13) h (v := nI 4) d_M_join_13 (by decide) ?_
  refine r_icmp_gt_f (pc := 14) h (tgt := 32) d_M_join_14 (by decide) (by decide) ?_
  refine r_iload_n (pc := 17) h 3 d_M_join_17 rfl rfl ?_
  refine r_invSa (pc := 18) h (st := [.ref (b 0)]) d_M_join_18 (c_none_f r1 h1) (r_cS h wc_M_none w_378 w_3 w_379 hd_M_none ⟨(Nat.le_of_ble_eq_true rfl), (Nat.le_of_ble_eq_true rfl)⟩ rfl rfl) rfl rfl (Nat.le_of_ble_eq_true rfl) ⟨(Nat.le_of_ble_eq_true rfl), (Nat.le_of_ble_eq_true rfl)⟩ rfl ?_
  refine r_if_ne_f (pc := 21) h (tgt := 32) d_M_join_21 (by decide) rfl ?_
  refine r_iload (pc := 24) h 4 d_M_join_24 rfl ?_
  refine r_invSa (pc := 26) h (st := [.ref (b 0)]) d_M_join_26 (c_none_f r2 h2) (r_cS h wc_M_none w_378 w_3 w_379 hd_M_none ⟨(Nat.le_of_ble_eq_true rfl), (Nat.le_of_ble_eq_true rfl)⟩ rfl rfl) rfl rfl (Nat.le_of_ble_eq_true rfl) ⟨(Nat.le_of_ble_eq_true rfl), (Nat.le_of_ble_eq_true rfl)⟩ rfl ?_
  refine r_if_eq_t (pc := 29) h (tgt := 36) d_M_join_29 (by decide) rfl ?_
  refine r_iconst (pc := 36) h (v := bI false) d_M_join_36 (by decide) ?_
  refine r_invVa (pc := 37) h 0 (st := []) d_M_join_37 c_bad_false (r_cV h wc_M_bad w_384 w_3 w_386 (TT_se (q := (y_M_bad, 5)) 10 rfl) hd_M_bad ⟨(Nat.le_of_ble_eq_true rfl), (Nat.le_of_ble_eq_true rfl)⟩ rfl rfl) mw_0 rfl rfl rfl (Nat.le_of_ble_eq_true rfl) ⟨(Nat.le_of_ble_eq_true rfl), (Nat.le_of_ble_eq_true rfl)⟩ mw_adr ?_
  refine r_if_eq_t (pc := 40) h (tgt := 44) d_M_join_40 (by decide) rfl ?_
  refine r_iconst (pc := 44) h (v := nI 0) d_M_join_44 (by decide) ?_
  refine r_istore (pc := 45) h (lv' := [(5, .int (nI 0)), (0, .ref (b 0)), (1, .int (nI t)), (2, .int (nI 4)), (3, .int (nI r1)), (4, .int (nI r2))]) d_M_join_45 (by decide) rfl ?_
  refine Wv.wld (ws' := (mw G b (bI false) rg (mix 0 (fun x => jB 4 (rg r1 x) (rg r2 x)) wk) fi fa)) (by rw [mix_0]) ?_
  refine Wv.loop 1024 (fun i => (mw G b (bI false) rg (mix i (fun x => jB 4 (rg r1 x) (rg r2 x)) wk) fi fa)) (fun i => [(5, .int (nI i)), (0, .ref (b 0)), (1, .int (nI t)), (2, .int (nI 4)), (3, .int (nI r1)), (4, .int (nI r2))]) ?_ ?_
  · show Wv p l e _ s m _ below meth c G A _ _ _ _ (mw G b (bI false) rg (mix 1024 (fun x => jB 4 (rg r1 x) (rg r2 x)) wk) fi fa) 47 [(5, .int (nI 1024)), (0, .ref (b 0)), (1, .int (nI t)), (2, .int (nI 4)), (3, .int (nI r1)), (4, .int (nI r2))] []
    refine r_iload (pc := 47) h 0 d_M_join_47 rfl ?_
    refine r_sipush (pc := 49) h (v := nI 1024) d_M_join_49 (by decide) ?_
    refine r_icmp_ge_t (pc := 52) h (tgt := 189) d_M_join_52 (by decide) (nI_le (Nat.le_refl _) (by decide)) ?_
    refine r_aload_n (pc := 189) h 1 d_M_join_189 rfl rfl ?_
    refine r_iload_n (pc := 190) h 2 d_M_join_190 rfl rfl ?_
    refine r_invVv (pc := 191) h 0 (st := []) d_M_join_191 (c_keep t ht) (r_cV h wc_M_keep w_399 w_3 w_401 (TT_se (q := (y_M_keep, 5)) 11 rfl) hd_M_keep ⟨(Nat.le_of_ble_eq_true rfl), (Nat.le_of_ble_eq_true rfl)⟩ rfl rfl) mw_0 rfl rfl rfl (Nat.le_of_ble_eq_true rfl) ⟨(Nat.le_of_ble_eq_true rfl), (Nat.le_of_ble_eq_true rfl)⟩ mw_adr ?_
    exact r_vret (pc := 194) h hr d_M_join_194
  · intro i hi ih
    have ih : Wv p l e _ s m _ below meth c G A _ _ _ _ (mw G b (bI false) rg (mix (i + 1) (fun x => jB 4 (rg r1 x) (rg r2 x)) wk) fi fa) 47 [(5, .int (nI (i + 1))), (0, .ref (b 0)), (1, .int (nI t)), (2, .int (nI 4)), (3, .int (nI r1)), (4, .int (nI r2))] [] := ih
    show Wv p l e _ s m _ below meth c G A _ _ _ _ (mw G b (bI false) rg (mix i (fun x => jB 4 (rg r1 x) (rg r2 x)) wk) fi fa) 47 [(5, .int (nI i)), (0, .ref (b 0)), (1, .int (nI t)), (2, .int (nI 4)), (3, .int (nI r1)), (4, .int (nI r2))] []
    refine r_iload (pc := 47) h 0 d_M_join_47 rfl ?_
    refine r_sipush (pc := 49) h (v := nI 1024) d_M_join_49 (by decide) ?_
    refine r_icmp_ge_f (pc := 52) h (tgt := 189) d_M_join_52 (by decide) (nI_ge hi (by decide)) ?_
    refine r_aload_n (pc := 55) h 1 d_M_join_55 rfl rfl ?_
    refine r_get (pc := 56) h 0 1 d_M_join_56 mw_0 rfl (by decide) in_M (List.mem_cons_of_mem _ w_354) rfl ?_
    refine r_iload_n (pc := 59) h 4 d_M_join_59 rfl rfl ?_
    refine r_aaload (pc := 60) h 1 4 r1 d_M_join_60 mw_1 rfl rfl rfl h1 (by decide) (mw_o h1) ?_
    refine r_iload (pc := 61) h 0 d_M_join_61 rfl ?_
    refine r_baload (pc := 63) h (5 + r1) (z := bI (rg r1 i)) i d_M_join_63 (mw_r h1) rfl hi (by decide) rfl ?_
    refine r_istore (pc := 64) h (lv' := [(6, .int (bI (rg r1 i))), (5, .int (nI i)), (0, .ref (b 0)), (1, .int (nI t)), (2, .int (nI 4)), (3, .int (nI r1)), (4, .int (nI r2))]) d_M_join_64 (by decide) rfl ?_
    refine r_aload_n (pc := 66) h 2 d_M_join_66 rfl rfl ?_
    refine r_get (pc := 67) h 0 1 d_M_join_67 mw_0 rfl (by decide) in_M (List.mem_cons_of_mem _ w_354) rfl ?_
    refine r_iload (pc := 70) h 6 d_M_join_70 rfl ?_
    refine r_aaload (pc := 72) h 1 4 r2 d_M_join_72 mw_1 rfl rfl rfl h2 (by decide) (mw_o h2) ?_
    refine r_iload (pc := 73) h 1 d_M_join_73 rfl ?_
    refine r_baload (pc := 75) h (5 + r2) (z := bI (rg r2 i)) i d_M_join_75 (mw_r h2) rfl hi (by decide) rfl ?_
    refine r_istore (pc := 76) h (lv' := [(7, .int (bI (rg r2 i))), (6, .int (bI (rg r1 i))), (5, .int (nI i)), (0, .ref (b 0)), (1, .int (nI t)), (2, .int (nI 4)), (3, .int (nI r1)), (4, .int (nI r2))]) d_M_join_76 (by decide) rfl ?_
    refine r_aload_n (pc := 78) h 3 d_M_join_78 rfl rfl ?_
    refine r_get (pc := 79) h 0 2 d_M_join_79 mw_0 rfl (by decide) in_M (List.mem_cons_of_mem _ w_355) rfl ?_
    refine r_iload (pc := 82) h 2 d_M_join_82 rfl ?_
    refine r_iload_n (pc := 84) h 5 d_M_join_84 rfl rfl ?_
    refine r_if_ne_t (pc := 85) h (tgt := 106) d_M_join_85 (by decide) (by decide) ?_
    refine r_iload_n (pc := 106) h 5 d_M_join_106 rfl rfl ?_
    refine r_iconst (pc := 107) h (v := nI 1) d_M_join_107 (by decide) ?_
    refine r_icmp_ne_t (pc := 108) h (tgt := 129) d_M_join_108 (by decide) (by decide) ?_
    refine r_iload_n (pc := 129) h 5 d_M_join_129 rfl rfl ?_
    refine r_iconst (pc := 130) h (v := nI 2) d_M_join_130 (by decide) ?_
    refine r_icmp_ne_t (pc := 131) h (tgt := 149) d_M_join_131 (by decide) (by decide) ?_
    refine r_iload_n (pc := 149) h 5 d_M_join_149 rfl rfl ?_
    refine r_iconst (pc := 150) h (v := nI 3) d_M_join_150 (by decide) ?_
    refine r_icmp_ne_t (pc := 151) h (tgt := 172) d_M_join_151 (by decide) (by decide) ?_
    refine r_iload (pc := 172) h 1 d_M_join_172 rfl ?_
    refine r_if_ne (pc := 174) h (tgt := 181) d_M_join_174 (by decide) (fun q174 => ?_) (fun q174 => ?_)
    · have hb174 := bI_T q174
      refine r_iconst (pc := 181) h (v := bI (jB 4 (rg r1 i) (rg r2 i))) d_M_join_181 (by rw [hb174]; cases rg r2 i <;> decide) ?_
      refine r_bastore (pc := 182) h 2 (ws' := (mw G b (bI false) rg (mix (i + 1) (fun x => jB 4 (rg r1 x) (rg r2 x)) wk) fi fa)) i d_M_join_182 mw_2 rfl hi (by decide) (bI_nar _) (by rw [upd_b, mix_up i (fun x => jB 4 (rg r1 x) (rg r2 x)) wk]; exact mw_s2) ?_
      refine r_iinc (pc := 183) h (v := nI (i + 1)) (lv' := [(5, .int (nI (i + 1))), (7, .int (bI (rg r2 i))), (6, .int (bI (rg r1 i))), (0, .ref (b 0)), (1, .int (nI t)), (2, .int (nI 4)), (3, .int (nI r1)), (4, .int (nI r2))]) 2 d_M_join_183 rfl (nI_inc i) (by decide) rfl ?_
      refine r_goto (pc := 186) h (tgt := 47) d_M_join_186 (by decide) ?_
      refine Wv.sub [0, 3, 4, 5, 6, 7] rfl ?_
      exact ih
    · have hb174 := bI_F q174
      refine r_iconst (pc := 177) h (v := bI (jB 4 (rg r1 i) (rg r2 i))) d_M_join_177 (by rw [hb174]; cases rg r2 i <;> decide) ?_
      refine r_goto (pc := 178) h (tgt := 182) d_M_join_178 (by decide) ?_
      refine r_bastore (pc := 182) h 2 (ws' := (mw G b (bI false) rg (mix (i + 1) (fun x => jB 4 (rg r1 x) (rg r2 x)) wk) fi fa)) i d_M_join_182 mw_2 rfl hi (by decide) (bI_nar _) (by rw [upd_b, mix_up i (fun x => jB 4 (rg r1 x) (rg r2 x)) wk]; exact mw_s2) ?_
      refine r_iinc (pc := 183) h (v := nI (i + 1)) (lv' := [(5, .int (nI (i + 1))), (7, .int (bI (rg r2 i))), (6, .int (bI (rg r1 i))), (0, .ref (b 0)), (1, .int (nI t)), (2, .int (nI 4)), (3, .int (nI r1)), (4, .int (nI r2))]) 2 d_M_join_183 rfl (nI_inc i) (by decide) rfl ?_
      refine r_goto (pc := 186) h (tgt := 47) d_M_join_186 (by decide) ?_
      refine Wv.sub [0, 3, 4, 5, 6, 7] rfl ?_
      exact ih
theorem x_join (t r1 r2 : Int32) (k : Int32) (hB : ¬ (okR 16 t ∧ okR 5 k ∧ okR 16 r1 ∧ okR 16 r2)) : Ct l y_M_join (.code y_M_join b_M_join 8 none :: TT) (rmF 2 61) G [.ref (b 0), .int t, .int k, .int r1, .int r2] (mw G b th rg wk fi fa) none (mw G b (bI true) rg wk fi fa) := by
  refine ct_intro (cc := b_M_join) (nL := 8) (by decide) [(0, .ref (b 0)), (1, .int t), (2, .int k), (3, .int r1), (4, .int r2)] rfl (Nat.le_of_ble_eq_true rfl) ?_
  intro p e s m below meth c A h hr
  refine r_aload_n (pc := 0) h 0 d_M_join_0 rfl rfl ?_
  refine r_iload_n (pc := 1) h 1 d_M_join_1 rfl rfl ?_
  rcases pk_ix t (n := 16) (by decide) with hN | hN | ⟨j2, hj2, hN2⟩
  · refine r_invSa (pc := 2) h (st := [.ref (b 0)]) d_M_join_2 (c_none_t t (Or.inl hN)) (r_cS h wc_M_none w_378 w_3 w_379 hd_M_none ⟨(Nat.le_of_ble_eq_true rfl), (Nat.le_of_ble_eq_true rfl)⟩ rfl rfl) rfl rfl (Nat.le_of_ble_eq_true rfl) ⟨(Nat.le_of_ble_eq_true rfl), (Nat.le_of_ble_eq_true rfl)⟩ rfl ?_
    refine r_if_ne_t (pc := 5) h (tgt := 32) d_M_join_5 (by decide) (by decide) ?_
    refine r_iconst (pc := 32) h (v := bI true) d_M_join_32 (by decide) ?_
    refine r_goto (pc := 33) h (tgt := 37) d_M_join_33 (by decide) ?_
    refine r_invVa (pc := 37) h 0 (st := []) d_M_join_37 c_bad_true (r_cV h wc_M_bad w_384 w_3 w_386 (TT_se (q := (y_M_bad, 5)) 10 rfl) hd_M_bad ⟨(Nat.le_of_ble_eq_true rfl), (Nat.le_of_ble_eq_true rfl)⟩ rfl rfl) mw_0 rfl rfl rfl (Nat.le_of_ble_eq_true rfl) ⟨(Nat.le_of_ble_eq_true rfl), (Nat.le_of_ble_eq_true rfl)⟩ mw_adr ?_
    refine r_if_eq_f (pc := 40) h (tgt := 44) d_M_join_40 (by decide) (by decide) ?_
    exact r_vret (pc := 43) h hr d_M_join_43
  · refine r_invSa (pc := 2) h (st := [.ref (b 0)]) d_M_join_2 (c_none_t t (Or.inr hN)) (r_cS h wc_M_none w_378 w_3 w_379 hd_M_none ⟨(Nat.le_of_ble_eq_true rfl), (Nat.le_of_ble_eq_true rfl)⟩ rfl rfl) rfl rfl (Nat.le_of_ble_eq_true rfl) ⟨(Nat.le_of_ble_eq_true rfl), (Nat.le_of_ble_eq_true rfl)⟩ rfl ?_
    refine r_if_ne_t (pc := 5) h (tgt := 32) d_M_join_5 (by decide) (by decide) ?_
    refine r_iconst (pc := 32) h (v := bI true) d_M_join_32 (by decide) ?_
    refine r_goto (pc := 33) h (tgt := 37) d_M_join_33 (by decide) ?_
    refine r_invVa (pc := 37) h 0 (st := []) d_M_join_37 c_bad_true (r_cV h wc_M_bad w_384 w_3 w_386 (TT_se (q := (y_M_bad, 5)) 10 rfl) hd_M_bad ⟨(Nat.le_of_ble_eq_true rfl), (Nat.le_of_ble_eq_true rfl)⟩ rfl rfl) mw_0 rfl rfl rfl (Nat.le_of_ble_eq_true rfl) ⟨(Nat.le_of_ble_eq_true rfl), (Nat.le_of_ble_eq_true rfl)⟩ mw_adr ?_
    refine r_if_eq_f (pc := 40) h (tgt := 44) d_M_join_40 (by decide) (by decide) ?_
    exact r_vret (pc := 43) h hr d_M_join_43
  · subst hN2
    refine r_invSa (pc := 2) h (st := [.ref (b 0)]) d_M_join_2 (c_none_f j2 hj2) (r_cS h wc_M_none w_378 w_3 w_379 hd_M_none ⟨(Nat.le_of_ble_eq_true rfl), (Nat.le_of_ble_eq_true rfl)⟩ rfl rfl) rfl rfl (Nat.le_of_ble_eq_true rfl) ⟨(Nat.le_of_ble_eq_true rfl), (Nat.le_of_ble_eq_true rfl)⟩ rfl ?_
    refine r_if_ne_f (pc := 5) h (tgt := 32) d_M_join_5 (by decide) rfl ?_
    rcases pk_ix k (n := 5) (by decide) with hN | hN | ⟨j8, hj8, hN8⟩
    · refine r_iload_n (pc := 8) h 2 d_M_join_8 rfl rfl ?_
      refine r_if_lt_t (pc := 9) h (tgt := 32) d_M_join_9 (by decide) hN ?_
      refine r_iconst (pc := 32) h (v := bI true) d_M_join_32 (by decide) ?_
      refine r_goto (pc := 33) h (tgt := 37) d_M_join_33 (by decide) ?_
      refine r_invVa (pc := 37) h 0 (st := []) d_M_join_37 c_bad_true (r_cV h wc_M_bad w_384 w_3 w_386 (TT_se (q := (y_M_bad, 5)) 10 rfl) hd_M_bad ⟨(Nat.le_of_ble_eq_true rfl), (Nat.le_of_ble_eq_true rfl)⟩ rfl rfl) mw_0 rfl rfl rfl (Nat.le_of_ble_eq_true rfl) ⟨(Nat.le_of_ble_eq_true rfl), (Nat.le_of_ble_eq_true rfl)⟩ mw_adr ?_
      refine r_if_eq_f (pc := 40) h (tgt := 44) d_M_join_40 (by decide) (by decide) ?_
      exact r_vret (pc := 43) h hr d_M_join_43
    · refine r_iload_n (pc := 8) h 2 d_M_join_8 rfl rfl ?_
      refine r_if_lt_f (pc := 9) h (tgt := 32) d_M_join_9 (by decide) (by have h9 := Int32.le_iff_toInt_le.mp hN; rw [nI_toInt (by decide)] at h9; rw [Int32.lt_iff_toInt_lt, Int32.toInt_zero]; omega) ?_
      refine r_iload_n (pc := 12) h 2 d_M_join_12 rfl rfl ?_
      refine r_iconst (pc := 13) h (v := nI 4) d_M_join_13 (by decide) ?_
      refine r_icmp_gt_t (pc := 14) h (tgt := 32) d_M_join_14 (by decide) (by have h9 := Int32.le_iff_toInt_le.mp hN; rw [nI_toInt (by decide)] at h9; rw [Int32.lt_iff_toInt_lt, nI_toInt (by decide)]; omega) ?_
      refine r_iconst (pc := 32) h (v := bI true) d_M_join_32 (by decide) ?_
      refine r_goto (pc := 33) h (tgt := 37) d_M_join_33 (by decide) ?_
      refine r_invVa (pc := 37) h 0 (st := []) d_M_join_37 c_bad_true (r_cV h wc_M_bad w_384 w_3 w_386 (TT_se (q := (y_M_bad, 5)) 10 rfl) hd_M_bad ⟨(Nat.le_of_ble_eq_true rfl), (Nat.le_of_ble_eq_true rfl)⟩ rfl rfl) mw_0 rfl rfl rfl (Nat.le_of_ble_eq_true rfl) ⟨(Nat.le_of_ble_eq_true rfl), (Nat.le_of_ble_eq_true rfl)⟩ mw_adr ?_
      refine r_if_eq_f (pc := 40) h (tgt := 44) d_M_join_40 (by decide) (by decide) ?_
      exact r_vret (pc := 43) h hr d_M_join_43
    · subst hN8
      refine r_iload_n (pc := 8) h 2 d_M_join_8 rfl rfl ?_
      refine r_if_lt_f (pc := 9) h (tgt := 32) d_M_join_9 (by decide) (nI_pos (by omega)) ?_
      refine r_iload_n (pc := 12) h 2 d_M_join_12 rfl rfl ?_
      refine r_iconst (pc := 13) h (v := nI 4) d_M_join_13 (by decide) ?_
      refine r_icmp_gt_f (pc := 14) h (tgt := 32) d_M_join_14 (by decide) (nI_nlt (by omega) (by decide)) ?_
      refine r_iload_n (pc := 17) h 3 d_M_join_17 rfl rfl ?_
      rcases pk_ix r1 (n := 16) (by decide) with hN | hN | ⟨j18, hj18, hN18⟩
      · refine r_invSa (pc := 18) h (st := [.ref (b 0)]) d_M_join_18 (c_none_t r1 (Or.inl hN)) (r_cS h wc_M_none w_378 w_3 w_379 hd_M_none ⟨(Nat.le_of_ble_eq_true rfl), (Nat.le_of_ble_eq_true rfl)⟩ rfl rfl) rfl rfl (Nat.le_of_ble_eq_true rfl) ⟨(Nat.le_of_ble_eq_true rfl), (Nat.le_of_ble_eq_true rfl)⟩ rfl ?_
        refine r_if_ne_t (pc := 21) h (tgt := 32) d_M_join_21 (by decide) (by decide) ?_
        refine r_iconst (pc := 32) h (v := bI true) d_M_join_32 (by decide) ?_
        refine r_goto (pc := 33) h (tgt := 37) d_M_join_33 (by decide) ?_
        refine r_invVa (pc := 37) h 0 (st := []) d_M_join_37 c_bad_true (r_cV h wc_M_bad w_384 w_3 w_386 (TT_se (q := (y_M_bad, 5)) 10 rfl) hd_M_bad ⟨(Nat.le_of_ble_eq_true rfl), (Nat.le_of_ble_eq_true rfl)⟩ rfl rfl) mw_0 rfl rfl rfl (Nat.le_of_ble_eq_true rfl) ⟨(Nat.le_of_ble_eq_true rfl), (Nat.le_of_ble_eq_true rfl)⟩ mw_adr ?_
        refine r_if_eq_f (pc := 40) h (tgt := 44) d_M_join_40 (by decide) (by decide) ?_
        exact r_vret (pc := 43) h hr d_M_join_43
      · refine r_invSa (pc := 18) h (st := [.ref (b 0)]) d_M_join_18 (c_none_t r1 (Or.inr hN)) (r_cS h wc_M_none w_378 w_3 w_379 hd_M_none ⟨(Nat.le_of_ble_eq_true rfl), (Nat.le_of_ble_eq_true rfl)⟩ rfl rfl) rfl rfl (Nat.le_of_ble_eq_true rfl) ⟨(Nat.le_of_ble_eq_true rfl), (Nat.le_of_ble_eq_true rfl)⟩ rfl ?_
        refine r_if_ne_t (pc := 21) h (tgt := 32) d_M_join_21 (by decide) (by decide) ?_
        refine r_iconst (pc := 32) h (v := bI true) d_M_join_32 (by decide) ?_
        refine r_goto (pc := 33) h (tgt := 37) d_M_join_33 (by decide) ?_
        refine r_invVa (pc := 37) h 0 (st := []) d_M_join_37 c_bad_true (r_cV h wc_M_bad w_384 w_3 w_386 (TT_se (q := (y_M_bad, 5)) 10 rfl) hd_M_bad ⟨(Nat.le_of_ble_eq_true rfl), (Nat.le_of_ble_eq_true rfl)⟩ rfl rfl) mw_0 rfl rfl rfl (Nat.le_of_ble_eq_true rfl) ⟨(Nat.le_of_ble_eq_true rfl), (Nat.le_of_ble_eq_true rfl)⟩ mw_adr ?_
        refine r_if_eq_f (pc := 40) h (tgt := 44) d_M_join_40 (by decide) (by decide) ?_
        exact r_vret (pc := 43) h hr d_M_join_43
      · subst hN18
        refine r_invSa (pc := 18) h (st := [.ref (b 0)]) d_M_join_18 (c_none_f j18 hj18) (r_cS h wc_M_none w_378 w_3 w_379 hd_M_none ⟨(Nat.le_of_ble_eq_true rfl), (Nat.le_of_ble_eq_true rfl)⟩ rfl rfl) rfl rfl (Nat.le_of_ble_eq_true rfl) ⟨(Nat.le_of_ble_eq_true rfl), (Nat.le_of_ble_eq_true rfl)⟩ rfl ?_
        refine r_if_ne_f (pc := 21) h (tgt := 32) d_M_join_21 (by decide) rfl ?_
        refine r_iload (pc := 24) h 4 d_M_join_24 rfl ?_
        rcases pk_ix r2 (n := 16) (by decide) with hN | hN | ⟨j26, hj26, hN26⟩
        · refine r_invSa (pc := 26) h (st := [.ref (b 0)]) d_M_join_26 (c_none_t r2 (Or.inl hN)) (r_cS h wc_M_none w_378 w_3 w_379 hd_M_none ⟨(Nat.le_of_ble_eq_true rfl), (Nat.le_of_ble_eq_true rfl)⟩ rfl rfl) rfl rfl (Nat.le_of_ble_eq_true rfl) ⟨(Nat.le_of_ble_eq_true rfl), (Nat.le_of_ble_eq_true rfl)⟩ rfl ?_
          refine r_if_eq_f (pc := 29) h (tgt := 36) d_M_join_29 (by decide) (by decide) ?_
          refine r_iconst (pc := 32) h (v := bI true) d_M_join_32 (by decide) ?_
          refine r_goto (pc := 33) h (tgt := 37) d_M_join_33 (by decide) ?_
          refine r_invVa (pc := 37) h 0 (st := []) d_M_join_37 c_bad_true (r_cV h wc_M_bad w_384 w_3 w_386 (TT_se (q := (y_M_bad, 5)) 10 rfl) hd_M_bad ⟨(Nat.le_of_ble_eq_true rfl), (Nat.le_of_ble_eq_true rfl)⟩ rfl rfl) mw_0 rfl rfl rfl (Nat.le_of_ble_eq_true rfl) ⟨(Nat.le_of_ble_eq_true rfl), (Nat.le_of_ble_eq_true rfl)⟩ mw_adr ?_
          refine r_if_eq_f (pc := 40) h (tgt := 44) d_M_join_40 (by decide) (by decide) ?_
          exact r_vret (pc := 43) h hr d_M_join_43
        · refine r_invSa (pc := 26) h (st := [.ref (b 0)]) d_M_join_26 (c_none_t r2 (Or.inr hN)) (r_cS h wc_M_none w_378 w_3 w_379 hd_M_none ⟨(Nat.le_of_ble_eq_true rfl), (Nat.le_of_ble_eq_true rfl)⟩ rfl rfl) rfl rfl (Nat.le_of_ble_eq_true rfl) ⟨(Nat.le_of_ble_eq_true rfl), (Nat.le_of_ble_eq_true rfl)⟩ rfl ?_
          refine r_if_eq_f (pc := 29) h (tgt := 36) d_M_join_29 (by decide) (by decide) ?_
          refine r_iconst (pc := 32) h (v := bI true) d_M_join_32 (by decide) ?_
          refine r_goto (pc := 33) h (tgt := 37) d_M_join_33 (by decide) ?_
          refine r_invVa (pc := 37) h 0 (st := []) d_M_join_37 c_bad_true (r_cV h wc_M_bad w_384 w_3 w_386 (TT_se (q := (y_M_bad, 5)) 10 rfl) hd_M_bad ⟨(Nat.le_of_ble_eq_true rfl), (Nat.le_of_ble_eq_true rfl)⟩ rfl rfl) mw_0 rfl rfl rfl (Nat.le_of_ble_eq_true rfl) ⟨(Nat.le_of_ble_eq_true rfl), (Nat.le_of_ble_eq_true rfl)⟩ mw_adr ?_
          refine r_if_eq_f (pc := 40) h (tgt := 44) d_M_join_40 (by decide) (by decide) ?_
          exact r_vret (pc := 43) h hr d_M_join_43
        · exfalso
          exact hB ⟨⟨j2, hj2, rfl⟩, ⟨j8, hj8, rfl⟩, ⟨j18, hj18, rfl⟩, ⟨j26, hj26, hN26⟩⟩
theorem m_swap (t : Nat) (ht : t < 16) (r1 v w : Nat) (h1 : r1 < 16) (hv : v < 10) (hw : w < 10) : Ct l y_M_swap (.code y_M_swap b_M_swap 8 none :: TT) (rmF 2 61) G [.ref (b 0), .int (nI t), .int (nI r1), .int (nI v), .int (nI w)] (mw G b th rg wk fi fa) none (mw G b (bI false) (va_up rg t (mix 1024 (mix 1024 (fun x => rg r1 (swp x v w)) wk) (rg t))) (mix 1024 (fun x => rg r1 (swp x v w)) wk) fi fa) := by
  refine ct_intro (cc := b_M_swap) (nL := 8) (by decide) [(0, .ref (b 0)), (1, .int (nI t)), (2, .int (nI r1)), (3, .int (nI v)), (4, .int (nI w))] rfl (Nat.le_of_ble_eq_true rfl) ?_
  intro p e s m below meth c A h hr
  refine r_aload_n (pc := 0) h 0 d_M_swap_0 rfl rfl ?_
  refine r_iload_n (pc := 1) h 1 d_M_swap_1 rfl rfl ?_
  refine r_invSa (pc := 2) h (st := [.ref (b 0)]) d_M_swap_2 (c_none_f t ht) (r_cS h wc_M_none w_378 w_3 w_379 hd_M_none ⟨(Nat.le_of_ble_eq_true rfl), (Nat.le_of_ble_eq_true rfl)⟩ rfl rfl) rfl rfl (Nat.le_of_ble_eq_true rfl) ⟨(Nat.le_of_ble_eq_true rfl), (Nat.le_of_ble_eq_true rfl)⟩ rfl ?_
  refine r_if_ne_f (pc := 5) h (tgt := 30) d_M_swap_5 (by decide) rfl ?_
  refine r_iload_n (pc := 8) h 2 d_M_swap_8 rfl rfl ?_
  refine r_invSa (pc := 9) h (st := [.ref (b 0)]) d_M_swap_9 (c_none_f r1 h1) (r_cS h wc_M_none w_378 w_3 w_379 hd_M_none ⟨(Nat.le_of_ble_eq_true rfl), (Nat.le_of_ble_eq_true rfl)⟩ rfl rfl) rfl rfl (Nat.le_of_ble_eq_true rfl) ⟨(Nat.le_of_ble_eq_true rfl), (Nat.le_of_ble_eq_true rfl)⟩ rfl ?_
  refine r_if_ne_f (pc := 12) h (tgt := 30) d_M_swap_12 (by decide) rfl ?_
  refine r_iload_n (pc := 15) h 3 d_M_swap_15 rfl rfl ?_
  refine r_invSa (pc := 16) h (st := [.ref (b 0)]) d_M_swap_16 (c_outside_f v hv) (r_cS h wc_M_outside w_381 w_3 w_382 hd_M_outside ⟨(Nat.le_of_ble_eq_true rfl), (Nat.le_of_ble_eq_true rfl)⟩ rfl rfl) rfl rfl (Nat.le_of_ble_eq_true rfl) ⟨(Nat.le_of_ble_eq_true rfl), (Nat.le_of_ble_eq_true rfl)⟩ rfl ?_
  refine r_if_ne_f (pc := 19) h (tgt := 30) d_M_swap_19 (by decide) rfl ?_
  refine r_iload (pc := 22) h 4 d_M_swap_22 rfl ?_
  refine r_invSa (pc := 24) h (st := [.ref (b 0)]) d_M_swap_24 (c_outside_f w hw) (r_cS h wc_M_outside w_381 w_3 w_382 hd_M_outside ⟨(Nat.le_of_ble_eq_true rfl), (Nat.le_of_ble_eq_true rfl)⟩ rfl rfl) rfl rfl (Nat.le_of_ble_eq_true rfl) ⟨(Nat.le_of_ble_eq_true rfl), (Nat.le_of_ble_eq_true rfl)⟩ rfl ?_
  refine r_if_eq_t (pc := 27) h (tgt := 34) d_M_swap_27 (by decide) rfl ?_
  refine r_iconst (pc := 34) h (v := bI false) d_M_swap_34 (by decide) ?_
  refine r_invVa (pc := 35) h 0 (st := []) d_M_swap_35 c_bad_false (r_cV h wc_M_bad w_384 w_3 w_386 (TT_se (q := (y_M_bad, 5)) 10 rfl) hd_M_bad ⟨(Nat.le_of_ble_eq_true rfl), (Nat.le_of_ble_eq_true rfl)⟩ rfl rfl) mw_0 rfl rfl rfl (Nat.le_of_ble_eq_true rfl) ⟨(Nat.le_of_ble_eq_true rfl), (Nat.le_of_ble_eq_true rfl)⟩ mw_adr ?_
  refine r_if_eq_t (pc := 38) h (tgt := 42) d_M_swap_38 (by decide) rfl ?_
  refine r_iconst (pc := 42) h (v := nI 0) d_M_swap_42 (by decide) ?_
  refine r_istore (pc := 43) h (lv' := [(5, .int (nI 0)), (0, .ref (b 0)), (1, .int (nI t)), (2, .int (nI r1)), (3, .int (nI v)), (4, .int (nI w))]) d_M_swap_43 (by decide) rfl ?_
  refine Wv.wld (ws' := (mw G b (bI false) rg (mix 0 (fun x => rg r1 (swp x v w)) wk) fi fa)) (by rw [mix_0]) ?_
  refine Wv.loop 1024 (fun i => (mw G b (bI false) rg (mix i (fun x => rg r1 (swp x v w)) wk) fi fa)) (fun i => [(5, .int (nI i)), (0, .ref (b 0)), (1, .int (nI t)), (2, .int (nI r1)), (3, .int (nI v)), (4, .int (nI w))]) ?_ ?_
  · show Wv p l e _ s m _ below meth c G A _ _ _ _ (mw G b (bI false) rg (mix 1024 (fun x => rg r1 (swp x v w)) wk) fi fa) 45 [(5, .int (nI 1024)), (0, .ref (b 0)), (1, .int (nI t)), (2, .int (nI r1)), (3, .int (nI v)), (4, .int (nI w))] []
    refine r_iload (pc := 45) h 0 d_M_swap_45 rfl ?_
    refine r_sipush (pc := 47) h (v := nI 1024) d_M_swap_47 (by decide) ?_
    refine r_icmp_ge_t (pc := 50) h (tgt := 116) d_M_swap_50 (by decide) (nI_le (Nat.le_refl _) (by decide)) ?_
    refine r_aload_n (pc := 116) h 1 d_M_swap_116 rfl rfl ?_
    refine r_iload_n (pc := 117) h 2 d_M_swap_117 rfl rfl ?_
    refine r_invVv (pc := 118) h 0 (st := []) d_M_swap_118 (c_keep t ht) (r_cV h wc_M_keep w_399 w_3 w_401 (TT_se (q := (y_M_keep, 5)) 11 rfl) hd_M_keep ⟨(Nat.le_of_ble_eq_true rfl), (Nat.le_of_ble_eq_true rfl)⟩ rfl rfl) mw_0 rfl rfl rfl (Nat.le_of_ble_eq_true rfl) ⟨(Nat.le_of_ble_eq_true rfl), (Nat.le_of_ble_eq_true rfl)⟩ mw_adr ?_
    exact r_vret (pc := 121) h hr d_M_swap_121
  · intro i hi ih
    have ih : Wv p l e _ s m _ below meth c G A _ _ _ _ (mw G b (bI false) rg (mix (i + 1) (fun x => rg r1 (swp x v w)) wk) fi fa) 45 [(5, .int (nI (i + 1))), (0, .ref (b 0)), (1, .int (nI t)), (2, .int (nI r1)), (3, .int (nI v)), (4, .int (nI w))] [] := ih
    show Wv p l e _ s m _ below meth c G A _ _ _ _ (mw G b (bI false) rg (mix i (fun x => rg r1 (swp x v w)) wk) fi fa) 45 [(5, .int (nI i)), (0, .ref (b 0)), (1, .int (nI t)), (2, .int (nI r1)), (3, .int (nI v)), (4, .int (nI w))] []
    refine r_iload (pc := 45) h 0 d_M_swap_45 rfl ?_
    refine r_sipush (pc := 47) h (v := nI 1024) d_M_swap_47 (by decide) ?_
    refine r_icmp_ge_f (pc := 50) h (tgt := 116) d_M_swap_50 (by decide) (nI_ge hi (by decide)) ?_
    refine r_iload (pc := 53) h 0 d_M_swap_53 rfl ?_
    refine r_iload_n (pc := 55) h 4 d_M_swap_55 rfl rfl ?_
    refine r_ishr (pc := 56) h (z := (nI i) >>> ((nI v) &&& 31)) d_M_swap_56 rfl ?_
    refine r_iconst (pc := 57) h (v := nI 1) d_M_swap_57 (by decide) ?_
    refine r_iand (pc := 58) h (z := bI (i.testBit v)) d_M_swap_58 (nx_bit (by omega) (by omega)) ?_
    refine r_istore (pc := 59) h (lv' := [(6, .int (bI (i.testBit v))), (5, .int (nI i)), (0, .ref (b 0)), (1, .int (nI t)), (2, .int (nI r1)), (3, .int (nI v)), (4, .int (nI w))]) d_M_swap_59 (by decide) rfl ?_
    refine r_iload (pc := 61) h 1 d_M_swap_61 rfl ?_
    refine r_iload (pc := 63) h 6 d_M_swap_63 rfl ?_
    refine r_ishr (pc := 65) h (z := (nI i) >>> ((nI w) &&& 31)) d_M_swap_65 rfl ?_
    refine r_iconst (pc := 66) h (v := nI 1) d_M_swap_66 (by decide) ?_
    refine r_iand (pc := 67) h (z := bI (i.testBit w)) d_M_swap_67 (nx_bit (by omega) (by omega)) ?_
    refine r_istore (pc := 68) h (lv' := [(7, .int (bI (i.testBit w))), (6, .int (bI (i.testBit v))), (5, .int (nI i)), (0, .ref (b 0)), (1, .int (nI t)), (2, .int (nI r1)), (3, .int (nI v)), (4, .int (nI w))]) d_M_swap_68 (by decide) rfl ?_
    refine r_aload_n (pc := 70) h 3 d_M_swap_70 rfl rfl ?_
    refine r_get (pc := 71) h 0 2 d_M_swap_71 mw_0 rfl (by decide) in_M (List.mem_cons_of_mem _ w_355) rfl ?_
    refine r_iload (pc := 74) h 2 d_M_swap_74 rfl ?_
    refine r_aload_n (pc := 76) h 3 d_M_swap_76 rfl rfl ?_
    refine r_get (pc := 77) h 0 1 d_M_swap_77 mw_0 rfl (by decide) in_M (List.mem_cons_of_mem _ w_354) rfl ?_
    refine r_iload_n (pc := 80) h 5 d_M_swap_80 rfl rfl ?_
    refine r_aaload (pc := 81) h 1 4 r1 d_M_swap_81 mw_1 rfl rfl rfl h1 (by decide) (mw_o h1) ?_
    refine r_iload (pc := 82) h 2 d_M_swap_82 rfl ?_
    refine r_iconst (pc := 84) h (v := nI 1) d_M_swap_84 (by decide) ?_
    refine r_iload_n (pc := 85) h 6 d_M_swap_85 rfl rfl ?_
    refine r_ishl (pc := 86) h (z := nI (2 ^ v)) d_M_swap_86 (nx_pw (by omega)) ?_
    refine r_iconst (pc := 87) h (v := (-1)) d_M_swap_87 (by decide) ?_
    refine r_ixor (pc := 88) h (z := nI (2 ^ v ^^^ 4294967295)) d_M_swap_88 (by rw [nx_m1, nx_xor]) ?_
    refine r_iand (pc := 89) h (z := nI (i &&& (2 ^ v ^^^ 4294967295))) d_M_swap_89 (nx_and _ _) ?_
    refine r_iconst (pc := 90) h (v := nI 1) d_M_swap_90 (by decide) ?_
    refine r_iload (pc := 91) h 7 d_M_swap_91 rfl ?_
    refine r_ishl (pc := 93) h (z := nI (2 ^ w)) d_M_swap_93 (nx_pw (by omega)) ?_
    refine r_iconst (pc := 94) h (v := (-1)) d_M_swap_94 (by decide) ?_
    refine r_ixor (pc := 95) h (z := nI (2 ^ w ^^^ 4294967295)) d_M_swap_95 (by rw [nx_m1, nx_xor]) ?_
    refine r_iand (pc := 96) h (z := nI ((i &&& (2 ^ v ^^^ 4294967295)) &&& (2 ^ w ^^^ 4294967295))) d_M_swap_96 (nx_and _ _) ?_
    refine r_iload (pc := 97) h 1 d_M_swap_97 rfl ?_
    refine r_iload (pc := 99) h 7 d_M_swap_99 rfl ?_
    refine r_ishl (pc := 101) h (z := nI (if i.testBit v = true then 2 ^ w else 0)) d_M_swap_101 (bI_shl _ (by omega)) ?_
    refine r_ior (pc := 102) h (z := nI (((i &&& (2 ^ v ^^^ 4294967295)) &&& (2 ^ w ^^^ 4294967295)) ||| (if i.testBit v = true then 2 ^ w else 0))) d_M_swap_102 (nx_or _ _) ?_
    refine r_iload (pc := 103) h 0 d_M_swap_103 rfl ?_
    refine r_iload_n (pc := 105) h 6 d_M_swap_105 rfl rfl ?_
    refine r_ishl (pc := 106) h (z := nI (if i.testBit w = true then 2 ^ v else 0)) d_M_swap_106 (bI_shl _ (by omega)) ?_
    refine r_ior (pc := 107) h (z := nI (swp i v w)) d_M_swap_107 (by rw [nx_or, swp_ref hi hv hw]) ?_
    refine r_baload (pc := 108) h (5 + r1) (z := bI (rg r1 (swp i v w))) (swp i v w) d_M_swap_108 (mw_r h1) rfl (swp_lt hi hv hw) (by decide) rfl ?_
    refine r_bastore (pc := 109) h 2 (ws' := (mw G b (bI false) rg (mix (i + 1) (fun x => rg r1 (swp x v w)) wk) fi fa)) i d_M_swap_109 mw_2 rfl hi (by decide) (bI_nar _) (by rw [upd_b, mix_up i (fun x => rg r1 (swp x v w)) wk]; exact mw_s2) ?_
    refine r_iinc (pc := 110) h (v := nI (i + 1)) (lv' := [(5, .int (nI (i + 1))), (7, .int (bI (i.testBit w))), (6, .int (bI (i.testBit v))), (0, .ref (b 0)), (1, .int (nI t)), (2, .int (nI r1)), (3, .int (nI v)), (4, .int (nI w))]) 2 d_M_swap_110 rfl (nI_inc i) (by decide) rfl ?_
    refine r_goto (pc := 113) h (tgt := 45) d_M_swap_113 (by decide) ?_
    refine Wv.sub [0, 3, 4, 5, 6, 7] rfl ?_
    exact ih
theorem x_swap (t r1 v w : Int32)  (hB : ¬ (okR 16 t ∧ okR 16 r1 ∧ okR 10 v ∧ okR 10 w)) : Ct l y_M_swap (.code y_M_swap b_M_swap 8 none :: TT) (rmF 2 61) G [.ref (b 0), .int t, .int r1, .int v, .int w] (mw G b th rg wk fi fa) none (mw G b (bI true) rg wk fi fa) := by
  refine ct_intro (cc := b_M_swap) (nL := 8) (by decide) [(0, .ref (b 0)), (1, .int t), (2, .int r1), (3, .int v), (4, .int w)] rfl (Nat.le_of_ble_eq_true rfl) ?_
  intro p e s m below meth c A h hr
  refine r_aload_n (pc := 0) h 0 d_M_swap_0 rfl rfl ?_
  refine r_iload_n (pc := 1) h 1 d_M_swap_1 rfl rfl ?_
  rcases pk_ix t (n := 16) (by decide) with hN | hN | ⟨j2, hj2, hN2⟩
  · refine r_invSa (pc := 2) h (st := [.ref (b 0)]) d_M_swap_2 (c_none_t t (Or.inl hN)) (r_cS h wc_M_none w_378 w_3 w_379 hd_M_none ⟨(Nat.le_of_ble_eq_true rfl), (Nat.le_of_ble_eq_true rfl)⟩ rfl rfl) rfl rfl (Nat.le_of_ble_eq_true rfl) ⟨(Nat.le_of_ble_eq_true rfl), (Nat.le_of_ble_eq_true rfl)⟩ rfl ?_
    refine r_if_ne_t (pc := 5) h (tgt := 30) d_M_swap_5 (by decide) (by decide) ?_
    refine r_iconst (pc := 30) h (v := bI true) d_M_swap_30 (by decide) ?_
    refine r_goto (pc := 31) h (tgt := 35) d_M_swap_31 (by decide) ?_
    refine r_invVa (pc := 35) h 0 (st := []) d_M_swap_35 c_bad_true (r_cV h wc_M_bad w_384 w_3 w_386 (TT_se (q := (y_M_bad, 5)) 10 rfl) hd_M_bad ⟨(Nat.le_of_ble_eq_true rfl), (Nat.le_of_ble_eq_true rfl)⟩ rfl rfl) mw_0 rfl rfl rfl (Nat.le_of_ble_eq_true rfl) ⟨(Nat.le_of_ble_eq_true rfl), (Nat.le_of_ble_eq_true rfl)⟩ mw_adr ?_
    refine r_if_eq_f (pc := 38) h (tgt := 42) d_M_swap_38 (by decide) (by decide) ?_
    exact r_vret (pc := 41) h hr d_M_swap_41
  · refine r_invSa (pc := 2) h (st := [.ref (b 0)]) d_M_swap_2 (c_none_t t (Or.inr hN)) (r_cS h wc_M_none w_378 w_3 w_379 hd_M_none ⟨(Nat.le_of_ble_eq_true rfl), (Nat.le_of_ble_eq_true rfl)⟩ rfl rfl) rfl rfl (Nat.le_of_ble_eq_true rfl) ⟨(Nat.le_of_ble_eq_true rfl), (Nat.le_of_ble_eq_true rfl)⟩ rfl ?_
    refine r_if_ne_t (pc := 5) h (tgt := 30) d_M_swap_5 (by decide) (by decide) ?_
    refine r_iconst (pc := 30) h (v := bI true) d_M_swap_30 (by decide) ?_
    refine r_goto (pc := 31) h (tgt := 35) d_M_swap_31 (by decide) ?_
    refine r_invVa (pc := 35) h 0 (st := []) d_M_swap_35 c_bad_true (r_cV h wc_M_bad w_384 w_3 w_386 (TT_se (q := (y_M_bad, 5)) 10 rfl) hd_M_bad ⟨(Nat.le_of_ble_eq_true rfl), (Nat.le_of_ble_eq_true rfl)⟩ rfl rfl) mw_0 rfl rfl rfl (Nat.le_of_ble_eq_true rfl) ⟨(Nat.le_of_ble_eq_true rfl), (Nat.le_of_ble_eq_true rfl)⟩ mw_adr ?_
    refine r_if_eq_f (pc := 38) h (tgt := 42) d_M_swap_38 (by decide) (by decide) ?_
    exact r_vret (pc := 41) h hr d_M_swap_41
  · subst hN2
    refine r_invSa (pc := 2) h (st := [.ref (b 0)]) d_M_swap_2 (c_none_f j2 hj2) (r_cS h wc_M_none w_378 w_3 w_379 hd_M_none ⟨(Nat.le_of_ble_eq_true rfl), (Nat.le_of_ble_eq_true rfl)⟩ rfl rfl) rfl rfl (Nat.le_of_ble_eq_true rfl) ⟨(Nat.le_of_ble_eq_true rfl), (Nat.le_of_ble_eq_true rfl)⟩ rfl ?_
    refine r_if_ne_f (pc := 5) h (tgt := 30) d_M_swap_5 (by decide) rfl ?_
    refine r_iload_n (pc := 8) h 2 d_M_swap_8 rfl rfl ?_
    rcases pk_ix r1 (n := 16) (by decide) with hN | hN | ⟨j9, hj9, hN9⟩
    · refine r_invSa (pc := 9) h (st := [.ref (b 0)]) d_M_swap_9 (c_none_t r1 (Or.inl hN)) (r_cS h wc_M_none w_378 w_3 w_379 hd_M_none ⟨(Nat.le_of_ble_eq_true rfl), (Nat.le_of_ble_eq_true rfl)⟩ rfl rfl) rfl rfl (Nat.le_of_ble_eq_true rfl) ⟨(Nat.le_of_ble_eq_true rfl), (Nat.le_of_ble_eq_true rfl)⟩ rfl ?_
      refine r_if_ne_t (pc := 12) h (tgt := 30) d_M_swap_12 (by decide) (by decide) ?_
      refine r_iconst (pc := 30) h (v := bI true) d_M_swap_30 (by decide) ?_
      refine r_goto (pc := 31) h (tgt := 35) d_M_swap_31 (by decide) ?_
      refine r_invVa (pc := 35) h 0 (st := []) d_M_swap_35 c_bad_true (r_cV h wc_M_bad w_384 w_3 w_386 (TT_se (q := (y_M_bad, 5)) 10 rfl) hd_M_bad ⟨(Nat.le_of_ble_eq_true rfl), (Nat.le_of_ble_eq_true rfl)⟩ rfl rfl) mw_0 rfl rfl rfl (Nat.le_of_ble_eq_true rfl) ⟨(Nat.le_of_ble_eq_true rfl), (Nat.le_of_ble_eq_true rfl)⟩ mw_adr ?_
      refine r_if_eq_f (pc := 38) h (tgt := 42) d_M_swap_38 (by decide) (by decide) ?_
      exact r_vret (pc := 41) h hr d_M_swap_41
    · refine r_invSa (pc := 9) h (st := [.ref (b 0)]) d_M_swap_9 (c_none_t r1 (Or.inr hN)) (r_cS h wc_M_none w_378 w_3 w_379 hd_M_none ⟨(Nat.le_of_ble_eq_true rfl), (Nat.le_of_ble_eq_true rfl)⟩ rfl rfl) rfl rfl (Nat.le_of_ble_eq_true rfl) ⟨(Nat.le_of_ble_eq_true rfl), (Nat.le_of_ble_eq_true rfl)⟩ rfl ?_
      refine r_if_ne_t (pc := 12) h (tgt := 30) d_M_swap_12 (by decide) (by decide) ?_
      refine r_iconst (pc := 30) h (v := bI true) d_M_swap_30 (by decide) ?_
      refine r_goto (pc := 31) h (tgt := 35) d_M_swap_31 (by decide) ?_
      refine r_invVa (pc := 35) h 0 (st := []) d_M_swap_35 c_bad_true (r_cV h wc_M_bad w_384 w_3 w_386 (TT_se (q := (y_M_bad, 5)) 10 rfl) hd_M_bad ⟨(Nat.le_of_ble_eq_true rfl), (Nat.le_of_ble_eq_true rfl)⟩ rfl rfl) mw_0 rfl rfl rfl (Nat.le_of_ble_eq_true rfl) ⟨(Nat.le_of_ble_eq_true rfl), (Nat.le_of_ble_eq_true rfl)⟩ mw_adr ?_
      refine r_if_eq_f (pc := 38) h (tgt := 42) d_M_swap_38 (by decide) (by decide) ?_
      exact r_vret (pc := 41) h hr d_M_swap_41
    · subst hN9
      refine r_invSa (pc := 9) h (st := [.ref (b 0)]) d_M_swap_9 (c_none_f j9 hj9) (r_cS h wc_M_none w_378 w_3 w_379 hd_M_none ⟨(Nat.le_of_ble_eq_true rfl), (Nat.le_of_ble_eq_true rfl)⟩ rfl rfl) rfl rfl (Nat.le_of_ble_eq_true rfl) ⟨(Nat.le_of_ble_eq_true rfl), (Nat.le_of_ble_eq_true rfl)⟩ rfl ?_
      refine r_if_ne_f (pc := 12) h (tgt := 30) d_M_swap_12 (by decide) rfl ?_
      refine r_iload_n (pc := 15) h 3 d_M_swap_15 rfl rfl ?_
      rcases pk_ix v (n := 10) (by decide) with hN | hN | ⟨j16, hj16, hN16⟩
      · refine r_invSa (pc := 16) h (st := [.ref (b 0)]) d_M_swap_16 (c_outside_t v (Or.inl hN)) (r_cS h wc_M_outside w_381 w_3 w_382 hd_M_outside ⟨(Nat.le_of_ble_eq_true rfl), (Nat.le_of_ble_eq_true rfl)⟩ rfl rfl) rfl rfl (Nat.le_of_ble_eq_true rfl) ⟨(Nat.le_of_ble_eq_true rfl), (Nat.le_of_ble_eq_true rfl)⟩ rfl ?_
        refine r_if_ne_t (pc := 19) h (tgt := 30) d_M_swap_19 (by decide) (by decide) ?_
        refine r_iconst (pc := 30) h (v := bI true) d_M_swap_30 (by decide) ?_
        refine r_goto (pc := 31) h (tgt := 35) d_M_swap_31 (by decide) ?_
        refine r_invVa (pc := 35) h 0 (st := []) d_M_swap_35 c_bad_true (r_cV h wc_M_bad w_384 w_3 w_386 (TT_se (q := (y_M_bad, 5)) 10 rfl) hd_M_bad ⟨(Nat.le_of_ble_eq_true rfl), (Nat.le_of_ble_eq_true rfl)⟩ rfl rfl) mw_0 rfl rfl rfl (Nat.le_of_ble_eq_true rfl) ⟨(Nat.le_of_ble_eq_true rfl), (Nat.le_of_ble_eq_true rfl)⟩ mw_adr ?_
        refine r_if_eq_f (pc := 38) h (tgt := 42) d_M_swap_38 (by decide) (by decide) ?_
        exact r_vret (pc := 41) h hr d_M_swap_41
      · refine r_invSa (pc := 16) h (st := [.ref (b 0)]) d_M_swap_16 (c_outside_t v (Or.inr hN)) (r_cS h wc_M_outside w_381 w_3 w_382 hd_M_outside ⟨(Nat.le_of_ble_eq_true rfl), (Nat.le_of_ble_eq_true rfl)⟩ rfl rfl) rfl rfl (Nat.le_of_ble_eq_true rfl) ⟨(Nat.le_of_ble_eq_true rfl), (Nat.le_of_ble_eq_true rfl)⟩ rfl ?_
        refine r_if_ne_t (pc := 19) h (tgt := 30) d_M_swap_19 (by decide) (by decide) ?_
        refine r_iconst (pc := 30) h (v := bI true) d_M_swap_30 (by decide) ?_
        refine r_goto (pc := 31) h (tgt := 35) d_M_swap_31 (by decide) ?_
        refine r_invVa (pc := 35) h 0 (st := []) d_M_swap_35 c_bad_true (r_cV h wc_M_bad w_384 w_3 w_386 (TT_se (q := (y_M_bad, 5)) 10 rfl) hd_M_bad ⟨(Nat.le_of_ble_eq_true rfl), (Nat.le_of_ble_eq_true rfl)⟩ rfl rfl) mw_0 rfl rfl rfl (Nat.le_of_ble_eq_true rfl) ⟨(Nat.le_of_ble_eq_true rfl), (Nat.le_of_ble_eq_true rfl)⟩ mw_adr ?_
        refine r_if_eq_f (pc := 38) h (tgt := 42) d_M_swap_38 (by decide) (by decide) ?_
        exact r_vret (pc := 41) h hr d_M_swap_41
      · subst hN16
        refine r_invSa (pc := 16) h (st := [.ref (b 0)]) d_M_swap_16 (c_outside_f j16 hj16) (r_cS h wc_M_outside w_381 w_3 w_382 hd_M_outside ⟨(Nat.le_of_ble_eq_true rfl), (Nat.le_of_ble_eq_true rfl)⟩ rfl rfl) rfl rfl (Nat.le_of_ble_eq_true rfl) ⟨(Nat.le_of_ble_eq_true rfl), (Nat.le_of_ble_eq_true rfl)⟩ rfl ?_
        refine r_if_ne_f (pc := 19) h (tgt := 30) d_M_swap_19 (by decide) rfl ?_
        refine r_iload (pc := 22) h 4 d_M_swap_22 rfl ?_
        rcases pk_ix w (n := 10) (by decide) with hN | hN | ⟨j24, hj24, hN24⟩
        · refine r_invSa (pc := 24) h (st := [.ref (b 0)]) d_M_swap_24 (c_outside_t w (Or.inl hN)) (r_cS h wc_M_outside w_381 w_3 w_382 hd_M_outside ⟨(Nat.le_of_ble_eq_true rfl), (Nat.le_of_ble_eq_true rfl)⟩ rfl rfl) rfl rfl (Nat.le_of_ble_eq_true rfl) ⟨(Nat.le_of_ble_eq_true rfl), (Nat.le_of_ble_eq_true rfl)⟩ rfl ?_
          refine r_if_eq_f (pc := 27) h (tgt := 34) d_M_swap_27 (by decide) (by decide) ?_
          refine r_iconst (pc := 30) h (v := bI true) d_M_swap_30 (by decide) ?_
          refine r_goto (pc := 31) h (tgt := 35) d_M_swap_31 (by decide) ?_
          refine r_invVa (pc := 35) h 0 (st := []) d_M_swap_35 c_bad_true (r_cV h wc_M_bad w_384 w_3 w_386 (TT_se (q := (y_M_bad, 5)) 10 rfl) hd_M_bad ⟨(Nat.le_of_ble_eq_true rfl), (Nat.le_of_ble_eq_true rfl)⟩ rfl rfl) mw_0 rfl rfl rfl (Nat.le_of_ble_eq_true rfl) ⟨(Nat.le_of_ble_eq_true rfl), (Nat.le_of_ble_eq_true rfl)⟩ mw_adr ?_
          refine r_if_eq_f (pc := 38) h (tgt := 42) d_M_swap_38 (by decide) (by decide) ?_
          exact r_vret (pc := 41) h hr d_M_swap_41
        · refine r_invSa (pc := 24) h (st := [.ref (b 0)]) d_M_swap_24 (c_outside_t w (Or.inr hN)) (r_cS h wc_M_outside w_381 w_3 w_382 hd_M_outside ⟨(Nat.le_of_ble_eq_true rfl), (Nat.le_of_ble_eq_true rfl)⟩ rfl rfl) rfl rfl (Nat.le_of_ble_eq_true rfl) ⟨(Nat.le_of_ble_eq_true rfl), (Nat.le_of_ble_eq_true rfl)⟩ rfl ?_
          refine r_if_eq_f (pc := 27) h (tgt := 34) d_M_swap_27 (by decide) (by decide) ?_
          refine r_iconst (pc := 30) h (v := bI true) d_M_swap_30 (by decide) ?_
          refine r_goto (pc := 31) h (tgt := 35) d_M_swap_31 (by decide) ?_
          refine r_invVa (pc := 35) h 0 (st := []) d_M_swap_35 c_bad_true (r_cV h wc_M_bad w_384 w_3 w_386 (TT_se (q := (y_M_bad, 5)) 10 rfl) hd_M_bad ⟨(Nat.le_of_ble_eq_true rfl), (Nat.le_of_ble_eq_true rfl)⟩ rfl rfl) mw_0 rfl rfl rfl (Nat.le_of_ble_eq_true rfl) ⟨(Nat.le_of_ble_eq_true rfl), (Nat.le_of_ble_eq_true rfl)⟩ mw_adr ?_
          refine r_if_eq_f (pc := 38) h (tgt := 42) d_M_swap_38 (by decide) (by decide) ?_
          exact r_vret (pc := 41) h hr d_M_swap_41
        · exfalso
          exact hB ⟨⟨j2, hj2, rfl⟩, ⟨j9, hj9, rfl⟩, ⟨j16, hj16, rfl⟩, ⟨j24, hj24, hN24⟩⟩
theorem m_is (r1 x : Nat) (h1 : r1 < 16) (hx : x < 1024) : Ct l y_M_is (.code y_M_is b_M_is 3 (some .boolean) :: TT) (rmF 1 21) G [.ref (b 0), .int (nI r1), .int (nI x)] (mw G b th rg wk fi fa) (some (.int (bI (rg r1 x)))) (mw G b (bI false) rg wk fi fa) := by
  refine ct_intro (cc := b_M_is) (nL := 3) (by decide) [(0, .ref (b 0)), (1, .int (nI r1)), (2, .int (nI x))] rfl (Nat.le_of_ble_eq_true rfl) ?_
  intro p e s m below meth c A h hr
  refine r_aload_n (pc := 0) h 0 d_M_is_0 rfl rfl ?_
  refine r_iload_n (pc := 1) h 1 d_M_is_1 rfl rfl ?_
  refine r_invSa (pc := 2) h (st := [.ref (b 0)]) d_M_is_2 (c_none_f r1 h1) (r_cS h wc_M_none w_378 w_3 w_379 hd_M_none ⟨(Nat.le_of_ble_eq_true rfl), (Nat.le_of_ble_eq_true rfl)⟩ rfl rfl) rfl rfl (Nat.le_of_ble_eq_true rfl) ⟨(Nat.le_of_ble_eq_true rfl), (Nat.le_of_ble_eq_true rfl)⟩ rfl ?_
  refine r_if_ne_f (pc := 5) h (tgt := 15) d_M_is_5 (by decide) rfl ?_
  refine r_iload_n (pc := 8) h 2 d_M_is_8 rfl rfl ?_
  refine r_invSa (pc := 9) h (st := [.ref (b 0)]) d_M_is_9 (c_beyond_f x hx) (r_cS h wc_M_beyond w_392 w_3 w_393 hd_M_beyond ⟨(Nat.le_of_ble_eq_true rfl), (Nat.le_of_ble_eq_true rfl)⟩ rfl rfl) rfl rfl (Nat.le_of_ble_eq_true rfl) ⟨(Nat.le_of_ble_eq_true rfl), (Nat.le_of_ble_eq_true rfl)⟩ rfl ?_
  refine r_if_eq_t (pc := 12) h (tgt := 19) d_M_is_12 (by decide) rfl ?_
  refine r_iconst (pc := 19) h (v := bI false) d_M_is_19 (by decide) ?_
  refine r_invVa (pc := 20) h 0 (st := []) d_M_is_20 c_bad_false (r_cV h wc_M_bad w_384 w_3 w_386 (TT_se (q := (y_M_bad, 5)) 10 rfl) hd_M_bad ⟨(Nat.le_of_ble_eq_true rfl), (Nat.le_of_ble_eq_true rfl)⟩ rfl rfl) mw_0 rfl rfl rfl (Nat.le_of_ble_eq_true rfl) ⟨(Nat.le_of_ble_eq_true rfl), (Nat.le_of_ble_eq_true rfl)⟩ mw_adr ?_
  refine r_if_eq_t (pc := 23) h (tgt := 28) d_M_is_23 (by decide) rfl ?_
  refine r_aload_n (pc := 28) h 0 d_M_is_28 rfl rfl ?_
  refine r_get (pc := 29) h 0 1 d_M_is_29 mw_0 rfl (by decide) in_M (List.mem_cons_of_mem _ w_354) rfl ?_
  refine r_iload_n (pc := 32) h 1 d_M_is_32 rfl rfl ?_
  refine r_aaload (pc := 33) h 1 4 r1 d_M_is_33 mw_1 rfl rfl rfl h1 (by decide) (mw_o h1) ?_
  refine r_iload_n (pc := 34) h 2 d_M_is_34 rfl rfl ?_
  refine r_baload (pc := 35) h (5 + r1) (z := bI (rg r1 x)) x d_M_is_35 (mw_r h1) rfl hx (by decide) rfl ?_
  exact r_zret (pc := 36) h hr (bI_nrw _) d_M_is_36
theorem x_is (r1 x : Int32)  (hB : ¬ (okR 16 r1 ∧ okR 1024 x)) : Ct l y_M_is (.code y_M_is b_M_is 3 (some .boolean) :: TT) (rmF 1 21) G [.ref (b 0), .int r1, .int x] (mw G b th rg wk fi fa) (some (.int (bI false))) (mw G b (bI true) rg wk fi fa) := by
  refine ct_intro (cc := b_M_is) (nL := 3) (by decide) [(0, .ref (b 0)), (1, .int r1), (2, .int x)] rfl (Nat.le_of_ble_eq_true rfl) ?_
  intro p e s m below meth c A h hr
  refine r_aload_n (pc := 0) h 0 d_M_is_0 rfl rfl ?_
  refine r_iload_n (pc := 1) h 1 d_M_is_1 rfl rfl ?_
  rcases pk_ix r1 (n := 16) (by decide) with hN | hN | ⟨j2, hj2, hN2⟩
  · refine r_invSa (pc := 2) h (st := [.ref (b 0)]) d_M_is_2 (c_none_t r1 (Or.inl hN)) (r_cS h wc_M_none w_378 w_3 w_379 hd_M_none ⟨(Nat.le_of_ble_eq_true rfl), (Nat.le_of_ble_eq_true rfl)⟩ rfl rfl) rfl rfl (Nat.le_of_ble_eq_true rfl) ⟨(Nat.le_of_ble_eq_true rfl), (Nat.le_of_ble_eq_true rfl)⟩ rfl ?_
    refine r_if_ne_t (pc := 5) h (tgt := 15) d_M_is_5 (by decide) (by decide) ?_
    refine r_iconst (pc := 15) h (v := bI true) d_M_is_15 (by decide) ?_
    refine r_goto (pc := 16) h (tgt := 20) d_M_is_16 (by decide) ?_
    refine r_invVa (pc := 20) h 0 (st := []) d_M_is_20 c_bad_true (r_cV h wc_M_bad w_384 w_3 w_386 (TT_se (q := (y_M_bad, 5)) 10 rfl) hd_M_bad ⟨(Nat.le_of_ble_eq_true rfl), (Nat.le_of_ble_eq_true rfl)⟩ rfl rfl) mw_0 rfl rfl rfl (Nat.le_of_ble_eq_true rfl) ⟨(Nat.le_of_ble_eq_true rfl), (Nat.le_of_ble_eq_true rfl)⟩ mw_adr ?_
    refine r_if_eq_f (pc := 23) h (tgt := 28) d_M_is_23 (by decide) (by decide) ?_
    refine r_iconst (pc := 26) h (v := bI false) d_M_is_26 (by decide) ?_
    exact r_zret (pc := 27) h hr (bI_nrw _) d_M_is_27
  · refine r_invSa (pc := 2) h (st := [.ref (b 0)]) d_M_is_2 (c_none_t r1 (Or.inr hN)) (r_cS h wc_M_none w_378 w_3 w_379 hd_M_none ⟨(Nat.le_of_ble_eq_true rfl), (Nat.le_of_ble_eq_true rfl)⟩ rfl rfl) rfl rfl (Nat.le_of_ble_eq_true rfl) ⟨(Nat.le_of_ble_eq_true rfl), (Nat.le_of_ble_eq_true rfl)⟩ rfl ?_
    refine r_if_ne_t (pc := 5) h (tgt := 15) d_M_is_5 (by decide) (by decide) ?_
    refine r_iconst (pc := 15) h (v := bI true) d_M_is_15 (by decide) ?_
    refine r_goto (pc := 16) h (tgt := 20) d_M_is_16 (by decide) ?_
    refine r_invVa (pc := 20) h 0 (st := []) d_M_is_20 c_bad_true (r_cV h wc_M_bad w_384 w_3 w_386 (TT_se (q := (y_M_bad, 5)) 10 rfl) hd_M_bad ⟨(Nat.le_of_ble_eq_true rfl), (Nat.le_of_ble_eq_true rfl)⟩ rfl rfl) mw_0 rfl rfl rfl (Nat.le_of_ble_eq_true rfl) ⟨(Nat.le_of_ble_eq_true rfl), (Nat.le_of_ble_eq_true rfl)⟩ mw_adr ?_
    refine r_if_eq_f (pc := 23) h (tgt := 28) d_M_is_23 (by decide) (by decide) ?_
    refine r_iconst (pc := 26) h (v := bI false) d_M_is_26 (by decide) ?_
    exact r_zret (pc := 27) h hr (bI_nrw _) d_M_is_27
  · subst hN2
    refine r_invSa (pc := 2) h (st := [.ref (b 0)]) d_M_is_2 (c_none_f j2 hj2) (r_cS h wc_M_none w_378 w_3 w_379 hd_M_none ⟨(Nat.le_of_ble_eq_true rfl), (Nat.le_of_ble_eq_true rfl)⟩ rfl rfl) rfl rfl (Nat.le_of_ble_eq_true rfl) ⟨(Nat.le_of_ble_eq_true rfl), (Nat.le_of_ble_eq_true rfl)⟩ rfl ?_
    refine r_if_ne_f (pc := 5) h (tgt := 15) d_M_is_5 (by decide) rfl ?_
    refine r_iload_n (pc := 8) h 2 d_M_is_8 rfl rfl ?_
    rcases pk_ix x (n := 1024) (by decide) with hN | hN | ⟨j9, hj9, hN9⟩
    · refine r_invSa (pc := 9) h (st := [.ref (b 0)]) d_M_is_9 (c_beyond_t x (Or.inl hN)) (r_cS h wc_M_beyond w_392 w_3 w_393 hd_M_beyond ⟨(Nat.le_of_ble_eq_true rfl), (Nat.le_of_ble_eq_true rfl)⟩ rfl rfl) rfl rfl (Nat.le_of_ble_eq_true rfl) ⟨(Nat.le_of_ble_eq_true rfl), (Nat.le_of_ble_eq_true rfl)⟩ rfl ?_
      refine r_if_eq_f (pc := 12) h (tgt := 19) d_M_is_12 (by decide) (by decide) ?_
      refine r_iconst (pc := 15) h (v := bI true) d_M_is_15 (by decide) ?_
      refine r_goto (pc := 16) h (tgt := 20) d_M_is_16 (by decide) ?_
      refine r_invVa (pc := 20) h 0 (st := []) d_M_is_20 c_bad_true (r_cV h wc_M_bad w_384 w_3 w_386 (TT_se (q := (y_M_bad, 5)) 10 rfl) hd_M_bad ⟨(Nat.le_of_ble_eq_true rfl), (Nat.le_of_ble_eq_true rfl)⟩ rfl rfl) mw_0 rfl rfl rfl (Nat.le_of_ble_eq_true rfl) ⟨(Nat.le_of_ble_eq_true rfl), (Nat.le_of_ble_eq_true rfl)⟩ mw_adr ?_
      refine r_if_eq_f (pc := 23) h (tgt := 28) d_M_is_23 (by decide) (by decide) ?_
      refine r_iconst (pc := 26) h (v := bI false) d_M_is_26 (by decide) ?_
      exact r_zret (pc := 27) h hr (bI_nrw _) d_M_is_27
    · refine r_invSa (pc := 9) h (st := [.ref (b 0)]) d_M_is_9 (c_beyond_t x (Or.inr hN)) (r_cS h wc_M_beyond w_392 w_3 w_393 hd_M_beyond ⟨(Nat.le_of_ble_eq_true rfl), (Nat.le_of_ble_eq_true rfl)⟩ rfl rfl) rfl rfl (Nat.le_of_ble_eq_true rfl) ⟨(Nat.le_of_ble_eq_true rfl), (Nat.le_of_ble_eq_true rfl)⟩ rfl ?_
      refine r_if_eq_f (pc := 12) h (tgt := 19) d_M_is_12 (by decide) (by decide) ?_
      refine r_iconst (pc := 15) h (v := bI true) d_M_is_15 (by decide) ?_
      refine r_goto (pc := 16) h (tgt := 20) d_M_is_16 (by decide) ?_
      refine r_invVa (pc := 20) h 0 (st := []) d_M_is_20 c_bad_true (r_cV h wc_M_bad w_384 w_3 w_386 (TT_se (q := (y_M_bad, 5)) 10 rfl) hd_M_bad ⟨(Nat.le_of_ble_eq_true rfl), (Nat.le_of_ble_eq_true rfl)⟩ rfl rfl) mw_0 rfl rfl rfl (Nat.le_of_ble_eq_true rfl) ⟨(Nat.le_of_ble_eq_true rfl), (Nat.le_of_ble_eq_true rfl)⟩ mw_adr ?_
      refine r_if_eq_f (pc := 23) h (tgt := 28) d_M_is_23 (by decide) (by decide) ?_
      refine r_iconst (pc := 26) h (v := bI false) d_M_is_26 (by decide) ?_
      exact r_zret (pc := 27) h hr (bI_nrw _) d_M_is_27
    · exfalso
      exact hB ⟨⟨j2, hj2, rfl⟩, ⟨j9, hj9, hN9⟩⟩
theorem m_ways (r1 : Nat) (h1 : r1 < 16) : Ct l y_M_ways (.code y_M_ways b_M_ways 4 (some .int) :: TT) (rmF 1 21) G [.ref (b 0), .int (nI r1)] (mw G b th rg wk fi fa) (some (.int (nI (cbN (rg r1) 1024)))) (mw G b (bI false) rg wk fi fa) := by
  refine ct_intro (cc := b_M_ways) (nL := 4) (by decide) [(0, .ref (b 0)), (1, .int (nI r1))] rfl (Nat.le_of_ble_eq_true rfl) ?_
  intro p e s m below meth c A h hr
  refine r_aload_n (pc := 0) h 0 d_M_ways_0 rfl rfl ?_
  refine r_iload_n (pc := 1) h 1 d_M_ways_1 rfl rfl ?_
  refine r_invSa (pc := 2) h (st := [.ref (b 0)]) d_M_ways_2 (c_none_f r1 h1) (r_cS h wc_M_none w_378 w_3 w_379 hd_M_none ⟨(Nat.le_of_ble_eq_true rfl), (Nat.le_of_ble_eq_true rfl)⟩ rfl rfl) rfl rfl (Nat.le_of_ble_eq_true rfl) ⟨(Nat.le_of_ble_eq_true rfl), (Nat.le_of_ble_eq_true rfl)⟩ rfl ?_
  refine r_invVa (pc := 5) h 0 (st := []) d_M_ways_5 c_bad_false (r_cV h wc_M_bad w_384 w_3 w_386 (TT_se (q := (y_M_bad, 5)) 10 rfl) hd_M_bad ⟨(Nat.le_of_ble_eq_true rfl), (Nat.le_of_ble_eq_true rfl)⟩ rfl rfl) mw_0 rfl rfl rfl (Nat.le_of_ble_eq_true rfl) ⟨(Nat.le_of_ble_eq_true rfl), (Nat.le_of_ble_eq_true rfl)⟩ mw_adr ?_
  refine r_if_eq_t (pc := 8) h (tgt := 13) d_M_ways_8 (by decide) rfl ?_
  refine r_iconst (pc := 13) h (v := nI (cbN (rg r1) 0)) d_M_ways_13 rfl ?_
  refine r_istore_n (pc := 14) h (lv' := [(2, .int (nI (cbN (rg r1) 0))), (0, .ref (b 0)), (1, .int (nI r1))]) d_M_ways_14 rfl (by decide) rfl ?_
  refine r_iconst (pc := 15) h (v := nI 0) d_M_ways_15 (by decide) ?_
  refine r_istore_n (pc := 16) h (lv' := [(3, .int (nI 0)), (2, .int (nI (cbN (rg r1) 0))), (0, .ref (b 0)), (1, .int (nI r1))]) d_M_ways_16 rfl (by decide) rfl ?_
  refine Wv.loop 1024 (fun i => (mw G b (bI false) rg wk fi fa)) (fun i => [(3, .int (nI i)), (2, .int (nI (cbN (rg r1) i))), (0, .ref (b 0)), (1, .int (nI r1))]) ?_ ?_
  · show Wv p l e _ s m _ below meth c G A _ _ _ _ (mw G b (bI false) rg wk fi fa) 17 [(3, .int (nI 1024)), (2, .int (nI (cbN (rg r1) 1024))), (0, .ref (b 0)), (1, .int (nI r1))] []
    refine r_iload_n (pc := 17) h 0 d_M_ways_17 rfl rfl ?_
    refine r_sipush (pc := 18) h (v := nI 1024) d_M_ways_18 (by decide) ?_
    refine r_icmp_ge_t (pc := 21) h (tgt := 44) d_M_ways_21 (by decide) (nI_le (Nat.le_refl _) (by decide)) ?_
    refine r_iload_n (pc := 44) h 1 d_M_ways_44 rfl rfl ?_
    exact r_iret (pc := 45) h hr d_M_ways_45
  · intro i hi ih
    have ih : Wv p l e _ s m _ below meth c G A _ _ _ _ (mw G b (bI false) rg wk fi fa) 17 [(3, .int (nI (i + 1))), (2, .int (nI (cbN (rg r1) (i + 1)))), (0, .ref (b 0)), (1, .int (nI r1))] [] := ih
    show Wv p l e _ s m _ below meth c G A _ _ _ _ (mw G b (bI false) rg wk fi fa) 17 [(3, .int (nI i)), (2, .int (nI (cbN (rg r1) i))), (0, .ref (b 0)), (1, .int (nI r1))] []
    refine r_iload_n (pc := 17) h 0 d_M_ways_17 rfl rfl ?_
    refine r_sipush (pc := 18) h (v := nI 1024) d_M_ways_18 (by decide) ?_
    refine r_icmp_ge_f (pc := 21) h (tgt := 44) d_M_ways_21 (by decide) (nI_ge hi (by decide)) ?_
    refine r_aload_n (pc := 24) h 2 d_M_ways_24 rfl rfl ?_
    refine r_get (pc := 25) h 0 1 d_M_ways_25 mw_0 rfl (by decide) in_M (List.mem_cons_of_mem _ w_354) rfl ?_
    refine r_iload_n (pc := 28) h 3 d_M_ways_28 rfl rfl ?_
    refine r_aaload (pc := 29) h 1 4 r1 d_M_ways_29 mw_1 rfl rfl rfl h1 (by decide) (mw_o h1) ?_
    refine r_iload_n (pc := 30) h 0 d_M_ways_30 rfl rfl ?_
    refine r_baload (pc := 31) h (5 + r1) (z := bI (rg r1 i)) i d_M_ways_31 (mw_r h1) rfl hi (by decide) rfl ?_
    refine r_if_eq (pc := 32) h (tgt := 38) d_M_ways_32 (by decide) (fun q32 => ?_) (fun q32 => ?_)
    · have hb32 := bI_F q32
      refine Wv.lcl (lv' := [(3, .int (nI i)), (2, .int (nI (cbN (rg r1) (i + 1)))), (0, .ref (b 0)), (1, .int (nI r1))]) (by rw [cbN_f hb32]) ?_
      refine r_iinc (pc := 38) h (v := nI (i + 1)) (lv' := [(3, .int (nI (i + 1))), (2, .int (nI (cbN (rg r1) (i + 1)))), (0, .ref (b 0)), (1, .int (nI r1))]) 0 d_M_ways_38 rfl (nI_inc i) (by decide) rfl ?_
      refine r_goto (pc := 41) h (tgt := 17) d_M_ways_41 (by decide) ?_
      exact ih
    · have hb32 := bI_T q32
      refine r_iinc (pc := 35) h (v := nI ((cbN (rg r1) i) + 1)) (lv' := [(2, .int (nI ((cbN (rg r1) i) + 1))), (3, .int (nI i)), (0, .ref (b 0)), (1, .int (nI r1))]) 1 d_M_ways_35 rfl (nI_inc (cbN (rg r1) i)) (by decide) rfl ?_
      refine Wv.lcl (lv' := [(2, .int (nI (cbN (rg r1) (i + 1)))), (3, .int (nI i)), (0, .ref (b 0)), (1, .int (nI r1))]) (by rw [cbN_t hb32]) ?_
      refine r_iinc (pc := 38) h (v := nI (i + 1)) (lv' := [(3, .int (nI (i + 1))), (2, .int (nI (cbN (rg r1) (i + 1)))), (0, .ref (b 0)), (1, .int (nI r1))]) 1 d_M_ways_38 rfl (nI_inc i) (by decide) rfl ?_
      refine r_goto (pc := 41) h (tgt := 17) d_M_ways_41 (by decide) ?_
      exact ih
theorem x_ways (r1 : Int32)  (hB : ¬ (okR 16 r1)) : Ct l y_M_ways (.code y_M_ways b_M_ways 4 (some .int) :: TT) (rmF 1 21) G [.ref (b 0), .int r1] (mw G b th rg wk fi fa) (some (.int (nI 0))) (mw G b (bI true) rg wk fi fa) := by
  refine ct_intro (cc := b_M_ways) (nL := 4) (by decide) [(0, .ref (b 0)), (1, .int r1)] rfl (Nat.le_of_ble_eq_true rfl) ?_
  intro p e s m below meth c A h hr
  refine r_aload_n (pc := 0) h 0 d_M_ways_0 rfl rfl ?_
  refine r_iload_n (pc := 1) h 1 d_M_ways_1 rfl rfl ?_
  rcases pk_ix r1 (n := 16) (by decide) with hN | hN | ⟨j2, hj2, hN2⟩
  · refine r_invSa (pc := 2) h (st := [.ref (b 0)]) d_M_ways_2 (c_none_t r1 (Or.inl hN)) (r_cS h wc_M_none w_378 w_3 w_379 hd_M_none ⟨(Nat.le_of_ble_eq_true rfl), (Nat.le_of_ble_eq_true rfl)⟩ rfl rfl) rfl rfl (Nat.le_of_ble_eq_true rfl) ⟨(Nat.le_of_ble_eq_true rfl), (Nat.le_of_ble_eq_true rfl)⟩ rfl ?_
    refine r_invVa (pc := 5) h 0 (st := []) d_M_ways_5 c_bad_true (r_cV h wc_M_bad w_384 w_3 w_386 (TT_se (q := (y_M_bad, 5)) 10 rfl) hd_M_bad ⟨(Nat.le_of_ble_eq_true rfl), (Nat.le_of_ble_eq_true rfl)⟩ rfl rfl) mw_0 rfl rfl rfl (Nat.le_of_ble_eq_true rfl) ⟨(Nat.le_of_ble_eq_true rfl), (Nat.le_of_ble_eq_true rfl)⟩ mw_adr ?_
    refine r_if_eq_f (pc := 8) h (tgt := 13) d_M_ways_8 (by decide) (by decide) ?_
    refine r_iconst (pc := 11) h (v := nI 0) d_M_ways_11 (by decide) ?_
    exact r_iret (pc := 12) h hr d_M_ways_12
  · refine r_invSa (pc := 2) h (st := [.ref (b 0)]) d_M_ways_2 (c_none_t r1 (Or.inr hN)) (r_cS h wc_M_none w_378 w_3 w_379 hd_M_none ⟨(Nat.le_of_ble_eq_true rfl), (Nat.le_of_ble_eq_true rfl)⟩ rfl rfl) rfl rfl (Nat.le_of_ble_eq_true rfl) ⟨(Nat.le_of_ble_eq_true rfl), (Nat.le_of_ble_eq_true rfl)⟩ rfl ?_
    refine r_invVa (pc := 5) h 0 (st := []) d_M_ways_5 c_bad_true (r_cV h wc_M_bad w_384 w_3 w_386 (TT_se (q := (y_M_bad, 5)) 10 rfl) hd_M_bad ⟨(Nat.le_of_ble_eq_true rfl), (Nat.le_of_ble_eq_true rfl)⟩ rfl rfl) mw_0 rfl rfl rfl (Nat.le_of_ble_eq_true rfl) ⟨(Nat.le_of_ble_eq_true rfl), (Nat.le_of_ble_eq_true rfl)⟩ mw_adr ?_
    refine r_if_eq_f (pc := 8) h (tgt := 13) d_M_ways_8 (by decide) (by decide) ?_
    refine r_iconst (pc := 11) h (v := nI 0) d_M_ways_11 (by decide) ?_
    exact r_iret (pc := 12) h hr d_M_ways_12
  · exfalso
    exact hB ⟨j2, hj2, hN2⟩
theorem m_same_t (r1 r2 : Nat) (h1 : r1 < 16) (h2 : r2 < 16) (he : ∀ i, i < 1024 → rg r1 i = rg r2 i) : Ct l y_M_same (.code y_M_same b_M_same 4 (some .boolean) :: TT) (rmF 1 21) G [.ref (b 0), .int (nI r1), .int (nI r2)] (mw G b th rg wk fi fa) (some (.int (bI true))) (mw G b (bI false) rg wk fi fa) := by
  refine ct_intro (cc := b_M_same) (nL := 4) (by decide) [(0, .ref (b 0)), (1, .int (nI r1)), (2, .int (nI r2))] rfl (Nat.le_of_ble_eq_true rfl) ?_
  intro p e s m below meth c A h hr
  refine r_aload_n (pc := 0) h 0 d_M_same_0 rfl rfl ?_
  refine r_iload_n (pc := 1) h 1 d_M_same_1 rfl rfl ?_
  refine r_invSa (pc := 2) h (st := [.ref (b 0)]) d_M_same_2 (c_none_f r1 h1) (r_cS h wc_M_none w_378 w_3 w_379 hd_M_none ⟨(Nat.le_of_ble_eq_true rfl), (Nat.le_of_ble_eq_true rfl)⟩ rfl rfl) rfl rfl (Nat.le_of_ble_eq_true rfl) ⟨(Nat.le_of_ble_eq_true rfl), (Nat.le_of_ble_eq_true rfl)⟩ rfl ?_
  refine r_if_ne_f (pc := 5) h (tgt := 15) d_M_same_5 (by decide) rfl ?_
  refine r_iload_n (pc := 8) h 2 d_M_same_8 rfl rfl ?_
  refine r_invSa (pc := 9) h (st := [.ref (b 0)]) d_M_same_9 (c_none_f r2 h2) (r_cS h wc_M_none w_378 w_3 w_379 hd_M_none ⟨(Nat.le_of_ble_eq_true rfl), (Nat.le_of_ble_eq_true rfl)⟩ rfl rfl) rfl rfl (Nat.le_of_ble_eq_true rfl) ⟨(Nat.le_of_ble_eq_true rfl), (Nat.le_of_ble_eq_true rfl)⟩ rfl ?_
  refine r_if_eq_t (pc := 12) h (tgt := 19) d_M_same_12 (by decide) rfl ?_
  refine r_iconst (pc := 19) h (v := bI false) d_M_same_19 (by decide) ?_
  refine r_invVa (pc := 20) h 0 (st := []) d_M_same_20 c_bad_false (r_cV h wc_M_bad w_384 w_3 w_386 (TT_se (q := (y_M_bad, 5)) 10 rfl) hd_M_bad ⟨(Nat.le_of_ble_eq_true rfl), (Nat.le_of_ble_eq_true rfl)⟩ rfl rfl) mw_0 rfl rfl rfl (Nat.le_of_ble_eq_true rfl) ⟨(Nat.le_of_ble_eq_true rfl), (Nat.le_of_ble_eq_true rfl)⟩ mw_adr ?_
  refine r_if_eq_t (pc := 23) h (tgt := 28) d_M_same_23 (by decide) rfl ?_
  refine r_iconst (pc := 28) h (v := nI 0) d_M_same_28 (by decide) ?_
  refine r_istore_n (pc := 29) h (lv' := [(3, .int (nI 0)), (0, .ref (b 0)), (1, .int (nI r1)), (2, .int (nI r2))]) d_M_same_29 rfl (by decide) rfl ?_
  refine Wv.loop 1024 (fun i => (mw G b (bI false) rg wk fi fa)) (fun i => [(3, .int (nI i)), (0, .ref (b 0)), (1, .int (nI r1)), (2, .int (nI r2))]) ?_ ?_
  · show Wv p l e _ s m _ below meth c G A _ _ _ _ (mw G b (bI false) rg wk fi fa) 30 [(3, .int (nI 1024)), (0, .ref (b 0)), (1, .int (nI r1)), (2, .int (nI r2))] []
    refine r_iload_n (pc := 30) h 0 d_M_same_30 rfl rfl ?_
    refine r_sipush (pc := 31) h (v := nI 1024) d_M_same_31 (by decide) ?_
    refine r_icmp_ge_t (pc := 34) h (tgt := 64) d_M_same_34 (by decide) (nI_le (Nat.le_refl _) (by decide)) ?_
    refine r_iconst (pc := 64) h (v := bI true) d_M_same_64 (by decide) ?_
    exact r_zret (pc := 65) h hr (bI_nrw _) d_M_same_65
  · intro i hi ih
    have ih : Wv p l e _ s m _ below meth c G A _ _ _ _ (mw G b (bI false) rg wk fi fa) 30 [(3, .int (nI (i + 1))), (0, .ref (b 0)), (1, .int (nI r1)), (2, .int (nI r2))] [] := ih
    show Wv p l e _ s m _ below meth c G A _ _ _ _ (mw G b (bI false) rg wk fi fa) 30 [(3, .int (nI i)), (0, .ref (b 0)), (1, .int (nI r1)), (2, .int (nI r2))] []
    refine r_iload_n (pc := 30) h 0 d_M_same_30 rfl rfl ?_
    refine r_sipush (pc := 31) h (v := nI 1024) d_M_same_31 (by decide) ?_
    refine r_icmp_ge_f (pc := 34) h (tgt := 64) d_M_same_34 (by decide) (nI_ge hi (by decide)) ?_
    refine r_aload_n (pc := 37) h 1 d_M_same_37 rfl rfl ?_
    refine r_get (pc := 38) h 0 1 d_M_same_38 mw_0 rfl (by decide) in_M (List.mem_cons_of_mem _ w_354) rfl ?_
    refine r_iload_n (pc := 41) h 2 d_M_same_41 rfl rfl ?_
    refine r_aaload (pc := 42) h 1 4 r1 d_M_same_42 mw_1 rfl rfl rfl h1 (by decide) (mw_o h1) ?_
    refine r_iload_n (pc := 43) h 0 d_M_same_43 rfl rfl ?_
    refine r_baload (pc := 44) h (5 + r1) (z := bI (rg r1 i)) i d_M_same_44 (mw_r h1) rfl hi (by decide) rfl ?_
    refine r_aload_n (pc := 45) h 1 d_M_same_45 rfl rfl ?_
    refine r_get (pc := 46) h 0 1 d_M_same_46 mw_0 rfl (by decide) in_M (List.mem_cons_of_mem _ w_354) rfl ?_
    refine r_iload_n (pc := 49) h 3 d_M_same_49 rfl rfl ?_
    refine r_aaload (pc := 50) h 1 4 r2 d_M_same_50 mw_1 rfl rfl rfl h2 (by decide) (mw_o h2) ?_
    refine r_iload_n (pc := 51) h 0 d_M_same_51 rfl rfl ?_
    refine r_baload (pc := 52) h (5 + r2) (z := bI (rg r2 i)) i d_M_same_52 (mw_r h2) rfl hi (by decide) rfl ?_
    refine r_icmp_eq_t (pc := 53) h (tgt := 58) d_M_same_53 (by decide) (by rw [he i hi]) ?_
    refine r_iinc (pc := 58) h (v := nI (i + 1)) (lv' := [(3, .int (nI (i + 1))), (0, .ref (b 0)), (1, .int (nI r1)), (2, .int (nI r2))]) 0 d_M_same_58 rfl (nI_inc i) (by decide) rfl ?_
    refine r_goto (pc := 61) h (tgt := 30) d_M_same_61 (by decide) ?_
    exact ih
theorem m_same_f (r1 r2 n : Nat) (h1 : r1 < 16) (h2 : r2 < 16) (hn : n < 1024) (he : ∀ i, i < n → rg r1 i = rg r2 i) (hne : rg r1 n ≠ rg r2 n) : Ct l y_M_same (.code y_M_same b_M_same 4 (some .boolean) :: TT) (rmF 1 21) G [.ref (b 0), .int (nI r1), .int (nI r2)] (mw G b th rg wk fi fa) (some (.int (bI false))) (mw G b (bI false) rg wk fi fa) := by
  refine ct_intro (cc := b_M_same) (nL := 4) (by decide) [(0, .ref (b 0)), (1, .int (nI r1)), (2, .int (nI r2))] rfl (Nat.le_of_ble_eq_true rfl) ?_
  intro p e s m below meth c A h hr
  refine r_aload_n (pc := 0) h 0 d_M_same_0 rfl rfl ?_
  refine r_iload_n (pc := 1) h 1 d_M_same_1 rfl rfl ?_
  refine r_invSa (pc := 2) h (st := [.ref (b 0)]) d_M_same_2 (c_none_f r1 h1) (r_cS h wc_M_none w_378 w_3 w_379 hd_M_none ⟨(Nat.le_of_ble_eq_true rfl), (Nat.le_of_ble_eq_true rfl)⟩ rfl rfl) rfl rfl (Nat.le_of_ble_eq_true rfl) ⟨(Nat.le_of_ble_eq_true rfl), (Nat.le_of_ble_eq_true rfl)⟩ rfl ?_
  refine r_if_ne_f (pc := 5) h (tgt := 15) d_M_same_5 (by decide) rfl ?_
  refine r_iload_n (pc := 8) h 2 d_M_same_8 rfl rfl ?_
  refine r_invSa (pc := 9) h (st := [.ref (b 0)]) d_M_same_9 (c_none_f r2 h2) (r_cS h wc_M_none w_378 w_3 w_379 hd_M_none ⟨(Nat.le_of_ble_eq_true rfl), (Nat.le_of_ble_eq_true rfl)⟩ rfl rfl) rfl rfl (Nat.le_of_ble_eq_true rfl) ⟨(Nat.le_of_ble_eq_true rfl), (Nat.le_of_ble_eq_true rfl)⟩ rfl ?_
  refine r_if_eq_t (pc := 12) h (tgt := 19) d_M_same_12 (by decide) rfl ?_
  refine r_iconst (pc := 19) h (v := bI false) d_M_same_19 (by decide) ?_
  refine r_invVa (pc := 20) h 0 (st := []) d_M_same_20 c_bad_false (r_cV h wc_M_bad w_384 w_3 w_386 (TT_se (q := (y_M_bad, 5)) 10 rfl) hd_M_bad ⟨(Nat.le_of_ble_eq_true rfl), (Nat.le_of_ble_eq_true rfl)⟩ rfl rfl) mw_0 rfl rfl rfl (Nat.le_of_ble_eq_true rfl) ⟨(Nat.le_of_ble_eq_true rfl), (Nat.le_of_ble_eq_true rfl)⟩ mw_adr ?_
  refine r_if_eq_t (pc := 23) h (tgt := 28) d_M_same_23 (by decide) rfl ?_
  refine r_iconst (pc := 28) h (v := nI 0) d_M_same_28 (by decide) ?_
  refine r_istore_n (pc := 29) h (lv' := [(3, .int (nI 0)), (0, .ref (b 0)), (1, .int (nI r1)), (2, .int (nI r2))]) d_M_same_29 rfl (by decide) rfl ?_
  refine Wv.loop n (fun i => (mw G b (bI false) rg wk fi fa)) (fun i => [(3, .int (nI i)), (0, .ref (b 0)), (1, .int (nI r1)), (2, .int (nI r2))]) ?_ ?_
  · show Wv p l e _ s m _ below meth c G A _ _ _ _ (mw G b (bI false) rg wk fi fa) 30 [(3, .int (nI n)), (0, .ref (b 0)), (1, .int (nI r1)), (2, .int (nI r2))] []
    refine r_iload_n (pc := 30) h 0 d_M_same_30 rfl rfl ?_
    refine r_sipush (pc := 31) h (v := nI 1024) d_M_same_31 (by decide) ?_
    refine r_icmp_ge_f (pc := 34) h (tgt := 64) d_M_same_34 (by decide) (nI_ge hn (by decide)) ?_
    refine r_aload_n (pc := 37) h 1 d_M_same_37 rfl rfl ?_
    refine r_get (pc := 38) h 0 1 d_M_same_38 mw_0 rfl (by decide) in_M (List.mem_cons_of_mem _ w_354) rfl ?_
    refine r_iload_n (pc := 41) h 2 d_M_same_41 rfl rfl ?_
    refine r_aaload (pc := 42) h 1 4 r1 d_M_same_42 mw_1 rfl rfl rfl h1 (by decide) (mw_o h1) ?_
    refine r_iload_n (pc := 43) h 0 d_M_same_43 rfl rfl ?_
    refine r_baload (pc := 44) h (5 + r1) (z := bI (rg r1 n)) n d_M_same_44 (mw_r h1) rfl hn (by decide) rfl ?_
    refine r_aload_n (pc := 45) h 1 d_M_same_45 rfl rfl ?_
    refine r_get (pc := 46) h 0 1 d_M_same_46 mw_0 rfl (by decide) in_M (List.mem_cons_of_mem _ w_354) rfl ?_
    refine r_iload_n (pc := 49) h 3 d_M_same_49 rfl rfl ?_
    refine r_aaload (pc := 50) h 1 4 r2 d_M_same_50 mw_1 rfl rfl rfl h2 (by decide) (mw_o h2) ?_
    refine r_iload_n (pc := 51) h 0 d_M_same_51 rfl rfl ?_
    refine r_baload (pc := 52) h (5 + r2) (z := bI (rg r2 n)) n d_M_same_52 (mw_r h2) rfl hn (by decide) rfl ?_
    refine r_icmp_eq_f (pc := 53) h (tgt := 58) d_M_same_53 (by decide) (fun z => hne (bI_inj.mp z)) ?_
    refine r_iconst (pc := 56) h (v := bI false) d_M_same_56 (by decide) ?_
    exact r_zret (pc := 57) h hr (bI_nrw _) d_M_same_57
  · intro i hi ih
    have ih : Wv p l e _ s m _ below meth c G A _ _ _ _ (mw G b (bI false) rg wk fi fa) 30 [(3, .int (nI (i + 1))), (0, .ref (b 0)), (1, .int (nI r1)), (2, .int (nI r2))] [] := ih
    show Wv p l e _ s m _ below meth c G A _ _ _ _ (mw G b (bI false) rg wk fi fa) 30 [(3, .int (nI i)), (0, .ref (b 0)), (1, .int (nI r1)), (2, .int (nI r2))] []
    refine r_iload_n (pc := 30) h 0 d_M_same_30 rfl rfl ?_
    refine r_sipush (pc := 31) h (v := nI 1024) d_M_same_31 (by decide) ?_
    refine r_icmp_ge_f (pc := 34) h (tgt := 64) d_M_same_34 (by decide) (nI_ge (Nat.lt_trans hi hn) (by decide)) ?_
    refine r_aload_n (pc := 37) h 1 d_M_same_37 rfl rfl ?_
    refine r_get (pc := 38) h 0 1 d_M_same_38 mw_0 rfl (by decide) in_M (List.mem_cons_of_mem _ w_354) rfl ?_
    refine r_iload_n (pc := 41) h 2 d_M_same_41 rfl rfl ?_
    refine r_aaload (pc := 42) h 1 4 r1 d_M_same_42 mw_1 rfl rfl rfl h1 (by decide) (mw_o h1) ?_
    refine r_iload_n (pc := 43) h 0 d_M_same_43 rfl rfl ?_
    refine r_baload (pc := 44) h (5 + r1) (z := bI (rg r1 i)) i d_M_same_44 (mw_r h1) rfl (Nat.lt_trans hi hn) (by decide) rfl ?_
    refine r_aload_n (pc := 45) h 1 d_M_same_45 rfl rfl ?_
    refine r_get (pc := 46) h 0 1 d_M_same_46 mw_0 rfl (by decide) in_M (List.mem_cons_of_mem _ w_354) rfl ?_
    refine r_iload_n (pc := 49) h 3 d_M_same_49 rfl rfl ?_
    refine r_aaload (pc := 50) h 1 4 r2 d_M_same_50 mw_1 rfl rfl rfl h2 (by decide) (mw_o h2) ?_
    refine r_iload_n (pc := 51) h 0 d_M_same_51 rfl rfl ?_
    refine r_baload (pc := 52) h (5 + r2) (z := bI (rg r2 i)) i d_M_same_52 (mw_r h2) rfl (Nat.lt_trans hi hn) (by decide) rfl ?_
    refine r_icmp_eq_t (pc := 53) h (tgt := 58) d_M_same_53 (by decide) (by rw [he i hi]) ?_
    refine r_iinc (pc := 58) h (v := nI (i + 1)) (lv' := [(3, .int (nI (i + 1))), (0, .ref (b 0)), (1, .int (nI r1)), (2, .int (nI r2))]) 0 d_M_same_58 rfl (nI_inc i) (by decide) rfl ?_
    refine r_goto (pc := 61) h (tgt := 30) d_M_same_61 (by decide) ?_
    exact ih
theorem m_same (r1 r2 : Nat) (h1 : r1 < 16) (h2 : r2 < 16) : Ct l y_M_same (.code y_M_same b_M_same 4 (some .boolean) :: TT) (rmF 1 21) G [.ref (b 0), .int (nI r1), .int (nI r2)] (mw G b th rg wk fi fa) (some (.int (bI (bD (∀ i, i < 1024 → rg r1 i = rg r2 i))))) (mw G b (bI false) rg wk fi fa) := by
  by_cases h : ∀ i, i < 1024 → rg r1 i = rg r2 i
  · rw [bD_t h]
    exact m_same_t r1 r2 h1 h2 h
  · rw [bD_f h]
    have hex : ∃ n, n < 1024 ∧ rg r1 n ≠ rg r2 n := Classical.byContradiction (fun q => h (fun i hi => Classical.byContradiction (fun z => q ⟨i, hi, z⟩)))
    obtain ⟨n, ⟨g1, g2⟩, g3⟩ := pk_least _ hex
    exact m_same_f r1 r2 n h1 h2 g1 (fun i hi => Classical.byContradiction (fun z => g3 i hi ⟨Nat.lt_trans hi g1, z⟩)) g2
theorem x_same (r1 r2 : Int32)  (hB : ¬ (okR 16 r1 ∧ okR 16 r2)) : Ct l y_M_same (.code y_M_same b_M_same 4 (some .boolean) :: TT) (rmF 1 21) G [.ref (b 0), .int r1, .int r2] (mw G b th rg wk fi fa) (some (.int (bI false))) (mw G b (bI true) rg wk fi fa) := by
  refine ct_intro (cc := b_M_same) (nL := 4) (by decide) [(0, .ref (b 0)), (1, .int r1), (2, .int r2)] rfl (Nat.le_of_ble_eq_true rfl) ?_
  intro p e s m below meth c A h hr
  refine r_aload_n (pc := 0) h 0 d_M_same_0 rfl rfl ?_
  refine r_iload_n (pc := 1) h 1 d_M_same_1 rfl rfl ?_
  rcases pk_ix r1 (n := 16) (by decide) with hN | hN | ⟨j2, hj2, hN2⟩
  · refine r_invSa (pc := 2) h (st := [.ref (b 0)]) d_M_same_2 (c_none_t r1 (Or.inl hN)) (r_cS h wc_M_none w_378 w_3 w_379 hd_M_none ⟨(Nat.le_of_ble_eq_true rfl), (Nat.le_of_ble_eq_true rfl)⟩ rfl rfl) rfl rfl (Nat.le_of_ble_eq_true rfl) ⟨(Nat.le_of_ble_eq_true rfl), (Nat.le_of_ble_eq_true rfl)⟩ rfl ?_
    refine r_if_ne_t (pc := 5) h (tgt := 15) d_M_same_5 (by decide) (by decide) ?_
    refine r_iconst (pc := 15) h (v := bI true) d_M_same_15 (by decide) ?_
    refine r_goto (pc := 16) h (tgt := 20) d_M_same_16 (by decide) ?_
    refine r_invVa (pc := 20) h 0 (st := []) d_M_same_20 c_bad_true (r_cV h wc_M_bad w_384 w_3 w_386 (TT_se (q := (y_M_bad, 5)) 10 rfl) hd_M_bad ⟨(Nat.le_of_ble_eq_true rfl), (Nat.le_of_ble_eq_true rfl)⟩ rfl rfl) mw_0 rfl rfl rfl (Nat.le_of_ble_eq_true rfl) ⟨(Nat.le_of_ble_eq_true rfl), (Nat.le_of_ble_eq_true rfl)⟩ mw_adr ?_
    refine r_if_eq_f (pc := 23) h (tgt := 28) d_M_same_23 (by decide) (by decide) ?_
    refine r_iconst (pc := 26) h (v := bI false) d_M_same_26 (by decide) ?_
    exact r_zret (pc := 27) h hr (bI_nrw _) d_M_same_27
  · refine r_invSa (pc := 2) h (st := [.ref (b 0)]) d_M_same_2 (c_none_t r1 (Or.inr hN)) (r_cS h wc_M_none w_378 w_3 w_379 hd_M_none ⟨(Nat.le_of_ble_eq_true rfl), (Nat.le_of_ble_eq_true rfl)⟩ rfl rfl) rfl rfl (Nat.le_of_ble_eq_true rfl) ⟨(Nat.le_of_ble_eq_true rfl), (Nat.le_of_ble_eq_true rfl)⟩ rfl ?_
    refine r_if_ne_t (pc := 5) h (tgt := 15) d_M_same_5 (by decide) (by decide) ?_
    refine r_iconst (pc := 15) h (v := bI true) d_M_same_15 (by decide) ?_
    refine r_goto (pc := 16) h (tgt := 20) d_M_same_16 (by decide) ?_
    refine r_invVa (pc := 20) h 0 (st := []) d_M_same_20 c_bad_true (r_cV h wc_M_bad w_384 w_3 w_386 (TT_se (q := (y_M_bad, 5)) 10 rfl) hd_M_bad ⟨(Nat.le_of_ble_eq_true rfl), (Nat.le_of_ble_eq_true rfl)⟩ rfl rfl) mw_0 rfl rfl rfl (Nat.le_of_ble_eq_true rfl) ⟨(Nat.le_of_ble_eq_true rfl), (Nat.le_of_ble_eq_true rfl)⟩ mw_adr ?_
    refine r_if_eq_f (pc := 23) h (tgt := 28) d_M_same_23 (by decide) (by decide) ?_
    refine r_iconst (pc := 26) h (v := bI false) d_M_same_26 (by decide) ?_
    exact r_zret (pc := 27) h hr (bI_nrw _) d_M_same_27
  · subst hN2
    refine r_invSa (pc := 2) h (st := [.ref (b 0)]) d_M_same_2 (c_none_f j2 hj2) (r_cS h wc_M_none w_378 w_3 w_379 hd_M_none ⟨(Nat.le_of_ble_eq_true rfl), (Nat.le_of_ble_eq_true rfl)⟩ rfl rfl) rfl rfl (Nat.le_of_ble_eq_true rfl) ⟨(Nat.le_of_ble_eq_true rfl), (Nat.le_of_ble_eq_true rfl)⟩ rfl ?_
    refine r_if_ne_f (pc := 5) h (tgt := 15) d_M_same_5 (by decide) rfl ?_
    refine r_iload_n (pc := 8) h 2 d_M_same_8 rfl rfl ?_
    rcases pk_ix r2 (n := 16) (by decide) with hN | hN | ⟨j9, hj9, hN9⟩
    · refine r_invSa (pc := 9) h (st := [.ref (b 0)]) d_M_same_9 (c_none_t r2 (Or.inl hN)) (r_cS h wc_M_none w_378 w_3 w_379 hd_M_none ⟨(Nat.le_of_ble_eq_true rfl), (Nat.le_of_ble_eq_true rfl)⟩ rfl rfl) rfl rfl (Nat.le_of_ble_eq_true rfl) ⟨(Nat.le_of_ble_eq_true rfl), (Nat.le_of_ble_eq_true rfl)⟩ rfl ?_
      refine r_if_eq_f (pc := 12) h (tgt := 19) d_M_same_12 (by decide) (by decide) ?_
      refine r_iconst (pc := 15) h (v := bI true) d_M_same_15 (by decide) ?_
      refine r_goto (pc := 16) h (tgt := 20) d_M_same_16 (by decide) ?_
      refine r_invVa (pc := 20) h 0 (st := []) d_M_same_20 c_bad_true (r_cV h wc_M_bad w_384 w_3 w_386 (TT_se (q := (y_M_bad, 5)) 10 rfl) hd_M_bad ⟨(Nat.le_of_ble_eq_true rfl), (Nat.le_of_ble_eq_true rfl)⟩ rfl rfl) mw_0 rfl rfl rfl (Nat.le_of_ble_eq_true rfl) ⟨(Nat.le_of_ble_eq_true rfl), (Nat.le_of_ble_eq_true rfl)⟩ mw_adr ?_
      refine r_if_eq_f (pc := 23) h (tgt := 28) d_M_same_23 (by decide) (by decide) ?_
      refine r_iconst (pc := 26) h (v := bI false) d_M_same_26 (by decide) ?_
      exact r_zret (pc := 27) h hr (bI_nrw _) d_M_same_27
    · refine r_invSa (pc := 9) h (st := [.ref (b 0)]) d_M_same_9 (c_none_t r2 (Or.inr hN)) (r_cS h wc_M_none w_378 w_3 w_379 hd_M_none ⟨(Nat.le_of_ble_eq_true rfl), (Nat.le_of_ble_eq_true rfl)⟩ rfl rfl) rfl rfl (Nat.le_of_ble_eq_true rfl) ⟨(Nat.le_of_ble_eq_true rfl), (Nat.le_of_ble_eq_true rfl)⟩ rfl ?_
      refine r_if_eq_f (pc := 12) h (tgt := 19) d_M_same_12 (by decide) (by decide) ?_
      refine r_iconst (pc := 15) h (v := bI true) d_M_same_15 (by decide) ?_
      refine r_goto (pc := 16) h (tgt := 20) d_M_same_16 (by decide) ?_
      refine r_invVa (pc := 20) h 0 (st := []) d_M_same_20 c_bad_true (r_cV h wc_M_bad w_384 w_3 w_386 (TT_se (q := (y_M_bad, 5)) 10 rfl) hd_M_bad ⟨(Nat.le_of_ble_eq_true rfl), (Nat.le_of_ble_eq_true rfl)⟩ rfl rfl) mw_0 rfl rfl rfl (Nat.le_of_ble_eq_true rfl) ⟨(Nat.le_of_ble_eq_true rfl), (Nat.le_of_ble_eq_true rfl)⟩ mw_adr ?_
      refine r_if_eq_f (pc := 23) h (tgt := 28) d_M_same_23 (by decide) (by decide) ?_
      refine r_iconst (pc := 26) h (v := bI false) d_M_same_26 (by decide) ?_
      exact r_zret (pc := 27) h hr (bI_nrw _) d_M_same_27
    · exfalso
      exact hB ⟨⟨j2, hj2, rfl⟩, ⟨j9, hj9, hN9⟩⟩
theorem m_turned {ws : va_W} (x : Nat) (hx : x < 1024) : Ct l y_M_turned (.code y_M_turned b_M_turned 3 (some .int) :: TT) (rmF 0 0) G [.int (nI x)] ws (some (.int (nI (tn 10 x)))) ws := by
  refine ct_intro (cc := b_M_turned) (nL := 3) (by decide) [(0, .int (nI x))] rfl (Nat.le_of_ble_eq_true rfl) ?_
  intro p e s m below meth c A h hr
  refine r_iconst (pc := 0) h (v := nI (tn 0 x)) d_M_turned_0 rfl ?_
  refine r_istore_n (pc := 1) h (lv' := [(1, .int (nI (tn 0 x))), (0, .int (nI x))]) d_M_turned_1 rfl (by decide) rfl ?_
  refine r_iconst (pc := 2) h (v := nI 0) d_M_turned_2 (by decide) ?_
  refine r_istore_n (pc := 3) h (lv' := [(2, .int (nI 0)), (1, .int (nI (tn 0 x))), (0, .int (nI x))]) d_M_turned_3 rfl (by decide) rfl ?_
  refine Wv.loop 10 (fun i => ws) (fun i => [(2, .int (nI i)), (1, .int (nI (tn i x))), (0, .int (nI x))]) ?_ ?_
  · show Wv p l e _ s m _ below meth c G A _ _ _ _ ws 4 [(2, .int (nI 10)), (1, .int (nI (tn 10 x))), (0, .int (nI x))] []
    refine r_iload_n (pc := 4) h 0 d_M_turned_4 rfl rfl ?_
    refine r_bipush (pc := 5) h (v := nI 10) d_M_turned_5 (by decide) ?_
    refine r_icmp_ge_t (pc := 7) h (tgt := 26) d_M_turned_7 (by decide) (nI_le (Nat.le_refl _) (by decide)) ?_
    refine r_iload_n (pc := 26) h 1 d_M_turned_26 rfl rfl ?_
    exact r_iret (pc := 27) h hr d_M_turned_27
  · intro i hi ih
    have ih : Wv p l e _ s m _ below meth c G A _ _ _ _ ws 4 [(2, .int (nI (i + 1))), (1, .int (nI (tn (i + 1) x))), (0, .int (nI x))] [] := ih
    show Wv p l e _ s m _ below meth c G A _ _ _ _ ws 4 [(2, .int (nI i)), (1, .int (nI (tn i x))), (0, .int (nI x))] []
    refine r_iload_n (pc := 4) h 0 d_M_turned_4 rfl rfl ?_
    refine r_bipush (pc := 5) h (v := nI 10) d_M_turned_5 (by decide) ?_
    refine r_icmp_ge_f (pc := 7) h (tgt := 26) d_M_turned_7 (by decide) (nI_ge hi (by decide)) ?_
    refine r_iconst (pc := 10) h (v := nI 2) d_M_turned_10 (by decide) ?_
    refine r_iload_n (pc := 11) h 1 d_M_turned_11 rfl rfl ?_
    refine r_imul (pc := 12) h (z := nI (2 * tn i x)) d_M_turned_12 (pk_mul _ _) ?_
    refine r_iload_n (pc := 13) h 2 d_M_turned_13 rfl rfl ?_
    refine r_iload_n (pc := 14) h 0 d_M_turned_14 rfl rfl ?_
    refine r_ishr (pc := 15) h (z := (nI x) >>> ((nI i) &&& 31)) d_M_turned_15 rfl ?_
    refine r_iconst (pc := 16) h (v := nI 1) d_M_turned_16 (by decide) ?_
    refine r_iand (pc := 17) h (z := bI (x.testBit i)) d_M_turned_17 (nx_bit (by omega) (by omega)) ?_
    refine r_iadd (pc := 18) h (z := nI (tn (i + 1) x)) d_M_turned_18 (by rw [bI_nI, nI_add]; rfl) ?_
    refine r_istore_n (pc := 19) h (lv' := [(1, .int (nI (tn (i + 1) x))), (2, .int (nI i)), (0, .int (nI x))]) d_M_turned_19 rfl (by decide) rfl ?_
    refine r_iinc (pc := 20) h (v := nI (i + 1)) (lv' := [(2, .int (nI (i + 1))), (1, .int (nI (tn (i + 1) x))), (0, .int (nI x))]) 1 d_M_turned_20 rfl (nI_inc i) (by decide) rfl ?_
    refine r_goto (pc := 23) h (tgt := 4) d_M_turned_23 (by decide) ?_
    exact ih
end MQ2
section RM
variable {p : Program} {l : Launch} {e : Env} {R : Room} {s : State} {m : MethodId} {args : Array Value} {below : List Frame} {meth : Method} {c : Code} {cells slots : Nat} {Q : State → Prop} {G : gG} {A : Nat → Prop} {nL : Nat} {cc : ByteArray} {own : String} {Ts : List Cond} {ws : va_W} {pc : Nat} {lv : List (Nat × Value)} {st : List Value}
theorem r_max (h : Fx p m c s args meth own cc nL Ts G A) {idx : Nat} {x y z : Int32} (d : decode cc pc = .ok (.invokestatic idx, 3)) (hlink : Cond.methodLink own idx Lib.Math.max.name ∈ Ts) (hstat : Cond.static Lib.Math.max.name ∈ Ts) (hini : Cond.initialized "java/lang/Math" ∈ Ts) (hcode : Cond.code Lib.Math.max.name Lib.Math.max.code 2 (some .int) ∈ Ts) (hframes : 1 ≤ R.frames) (hlocals : (st.map fun v => v.category).sum + 13 ≤ R.locals) (hc : cells ≤ R.cells) (hs : slots ≤ R.slots) (hz : (if x < y then y else x) = z) (k : Wv p l e R s m args below meth c G A nL cells slots Q ws (pc + 3) lv (.int z :: st)) : Wv p l e R s m args below meth c G A nL cells slots Q ws pc lv (.int y :: .int x :: st) := by
  intro H locs ls hP hD hS hl
  refine va_mmax h.1.1 h.1.2.1 (h.1.2.2.1.trans hl.1.symm) h.1.2.2.2.1 (h.1.2.2.2.2 _ hlink) (h.1.2.2.2.2 _ hstat) (h.1.2.2.2.2 _ hini) (h.1.2.2.2.2 _ hcode) hframes hlocals hc hs d ?_
  rw [hz]
  exact k H locs ls hP hD hS hl
end RM
section MQ3
variable {l : Launch} {G : gG} {b : Nat → Nat} {th : Int32} {rg : Nat → Nat → Bool} {wk : Nat → Bool} {fi fa : Nat → Int32}
theorem m_first (r1 x0 : Nat) (h1 : r1 < 16) (hF : isF (rg r1) x0) : Ct l y_M_first (.code y_M_first b_M_first 4 (some .int) :: TT) (rmF 1 24) G [.ref (b 0), .int (nI r1)] (mw G b th rg wk fi fa) (some (.int (nI x0))) (mw G b (bI false) rg wk fi fa) := by
  refine ct_intro (cc := b_M_first) (nL := 4) (by decide) [(0, .ref (b 0)), (1, .int (nI r1))] rfl (Nat.le_of_ble_eq_true rfl) ?_
  intro p e s m below meth c A h hr
  refine r_aload_n (pc := 0) h 0 d_M_first_0 rfl rfl ?_
  refine r_iload_n (pc := 1) h 1 d_M_first_1 rfl rfl ?_
  refine r_invSa (pc := 2) h (st := [.ref (b 0)]) d_M_first_2 (c_none_f r1 h1) (r_cS h wc_M_none w_378 w_3 w_379 hd_M_none ⟨(Nat.le_of_ble_eq_true rfl), (Nat.le_of_ble_eq_true rfl)⟩ rfl rfl) rfl rfl (Nat.le_of_ble_eq_true rfl) ⟨(Nat.le_of_ble_eq_true rfl), (Nat.le_of_ble_eq_true rfl)⟩ rfl ?_
  refine r_invVa (pc := 5) h 0 (st := []) d_M_first_5 c_bad_false (r_cV h wc_M_bad w_384 w_3 w_386 (TT_se (q := (y_M_bad, 5)) 10 rfl) hd_M_bad ⟨(Nat.le_of_ble_eq_true rfl), (Nat.le_of_ble_eq_true rfl)⟩ rfl rfl) mw_0 rfl rfl rfl (Nat.le_of_ble_eq_true rfl) ⟨(Nat.le_of_ble_eq_true rfl), (Nat.le_of_ble_eq_true rfl)⟩ mw_adr ?_
  refine r_if_eq_t (pc := 8) h (tgt := 13) d_M_first_8 (by decide) rfl ?_
  refine r_iconst (pc := 13) h (v := oI (bst (rg r1) 0)) d_M_first_13 rfl ?_
  refine r_istore_n (pc := 14) h (lv' := [(2, .int (oI (bst (rg r1) 0))), (0, .ref (b 0)), (1, .int (nI r1))]) d_M_first_14 rfl (by decide) rfl ?_
  refine r_iconst (pc := 15) h (v := nI 0) d_M_first_15 (by decide) ?_
  refine r_istore_n (pc := 16) h (lv' := [(3, .int (nI 0)), (2, .int (oI (bst (rg r1) 0))), (0, .ref (b 0)), (1, .int (nI r1))]) d_M_first_16 rfl (by decide) rfl ?_
  refine Wv.loop 1024 (fun i => (mw G b (bI false) rg wk fi fa)) (fun i => [(3, .int (nI i)), (2, .int (oI (bst (rg r1) i))), (0, .ref (b 0)), (1, .int (nI r1))]) ?_ ?_
  · show Wv p l e _ s m _ below meth c G A _ _ _ _ (mw G b (bI false) rg wk fi fa) 17 [(3, .int (nI 1024)), (2, .int (oI (bst (rg r1) 1024))), (0, .ref (b 0)), (1, .int (nI r1))] []
    rw [bst_isF hF]
    refine r_iload_n (pc := 17) h 0 d_M_first_17 rfl rfl ?_
    refine r_sipush (pc := 18) h (v := nI 1024) d_M_first_18 (by decide) ?_
    refine r_icmp_ge_t (pc := 21) h (tgt := 58) d_M_first_21 (by decide) (nI_le (Nat.le_refl _) (by decide)) ?_
    refine r_iload_n (pc := 58) h 1 d_M_first_58 rfl rfl ?_
    refine r_if_ge_t (pc := 59) h (tgt := 67) d_M_first_59 (by decide) (nI_pos' (Nat.lt_trans hF.1 (by decide))) ?_
    refine r_iconst (pc := 67) h (v := nI 0) d_M_first_67 (by decide) ?_
    refine r_iload_n (pc := 68) h 1 d_M_first_68 rfl rfl ?_
    refine r_max (pc := 69) h (z := nI x0) d_M_first_69 (List.mem_cons_of_mem _ w_439) (List.mem_cons_of_mem _ w_440) (List.mem_cons_of_mem _ w_12) (List.mem_cons_of_mem _ w_441) (Nat.le_of_ble_eq_true rfl) (Nat.le_of_ble_eq_true rfl) (Nat.le_of_ble_eq_true rfl) (Nat.le_of_ble_eq_true rfl) (by show (if nI 0 < nI x0 then nI x0 else nI 0) = nI x0; by_cases h9 : nI 0 < nI x0; rw [if_pos h9]; rw [if_neg h9]; have h8 : x0 = 0 := Classical.byContradiction (fun z => h9 (nI_lt (by omega) (Nat.lt_trans hF.1 (by decide)))); rw [h8]) ?_
    exact r_iret (pc := 72) h hr d_M_first_72
  · intro i hi ih
    have ih : Wv p l e _ s m _ below meth c G A _ _ _ _ (mw G b (bI false) rg wk fi fa) 17 [(3, .int (nI (i + 1))), (2, .int (oI (bst (rg r1) (i + 1)))), (0, .ref (b 0)), (1, .int (nI r1))] [] := ih
    show Wv p l e _ s m _ below meth c G A _ _ _ _ (mw G b (bI false) rg wk fi fa) 17 [(3, .int (nI i)), (2, .int (oI (bst (rg r1) i))), (0, .ref (b 0)), (1, .int (nI r1))] []
    refine r_iload_n (pc := 17) h 0 d_M_first_17 rfl rfl ?_
    refine r_sipush (pc := 18) h (v := nI 1024) d_M_first_18 (by decide) ?_
    refine r_icmp_ge_f (pc := 21) h (tgt := 58) d_M_first_21 (by decide) (nI_ge hi (by decide)) ?_
    refine r_aload_n (pc := 24) h 2 d_M_first_24 rfl rfl ?_
    refine r_get (pc := 25) h 0 1 d_M_first_25 mw_0 rfl (by decide) in_M (List.mem_cons_of_mem _ w_354) rfl ?_
    refine r_iload_n (pc := 28) h 3 d_M_first_28 rfl rfl ?_
    refine r_aaload (pc := 29) h 1 4 r1 d_M_first_29 mw_1 rfl rfl rfl h1 (by decide) (mw_o h1) ?_
    refine r_iload_n (pc := 30) h 0 d_M_first_30 rfl rfl ?_
    refine r_baload (pc := 31) h (5 + r1) (z := bI (rg r1 i)) i d_M_first_31 (mw_r h1) rfl hi (by decide) rfl ?_
    refine r_if_eq (pc := 32) h (tgt := 52) d_M_first_32 (by decide) (fun q32 => ?_) (fun q32 => ?_)
    · have hb32 := bI_F q32
      refine Wv.lcl (lv' := [(3, .int (nI i)), (2, .int (oI (bst (rg r1) (i + 1)))), (0, .ref (b 0)), (1, .int (nI r1))]) (by rw [bst_f hb32]) ?_
      refine r_iinc (pc := 52) h (v := nI (i + 1)) (lv' := [(3, .int (nI (i + 1))), (2, .int (oI (bst (rg r1) (i + 1)))), (0, .ref (b 0)), (1, .int (nI r1))]) 0 d_M_first_52 rfl (nI_inc i) (by decide) rfl ?_
      refine r_goto (pc := 55) h (tgt := 17) d_M_first_55 (by decide) ?_
      exact ih
    · have hb32 := bI_T q32
      cases hbs : bst (rg r1) i with
      | none =>
        refine Wv.lcl (lv' := [(3, .int (nI i)), (2, .int (-1)), (0, .ref (b 0)), (1, .int (nI r1))]) rfl ?_
        refine r_iload_n (pc := 35) h 1 d_M_first_35 rfl rfl ?_
        refine r_if_lt_t (pc := 36) h (tgt := 50) d_M_first_36 (by decide) (by decide) ?_
        refine r_iload_n (pc := 50) h 0 d_M_first_50 rfl rfl ?_
        refine r_istore_n (pc := 51) h (lv' := [(2, .int (nI i)), (3, .int (nI i)), (0, .ref (b 0)), (1, .int (nI r1))]) d_M_first_51 rfl (by decide) rfl ?_
        refine Wv.lcl (lv' := [(2, .int (oI (bst (rg r1) (i + 1)))), (3, .int (nI i)), (0, .ref (b 0)), (1, .int (nI r1))]) (by rw [bst_n hb32 hbs]; rfl) ?_
        refine r_iinc (pc := 52) h (v := nI (i + 1)) (lv' := [(3, .int (nI (i + 1))), (2, .int (oI (bst (rg r1) (i + 1)))), (0, .ref (b 0)), (1, .int (nI r1))]) 1 d_M_first_52 rfl (nI_inc i) (by decide) rfl ?_
        refine r_goto (pc := 55) h (tgt := 17) d_M_first_55 (by decide) ?_
        exact ih
      | some bb =>
        refine Wv.lcl (lv' := [(3, .int (nI i)), (2, .int (nI bb)), (0, .ref (b 0)), (1, .int (nI r1))]) rfl ?_
        have hbb : bb < 1024 := Nat.lt_trans ((bst_inv (rg r1) i).2 bb hbs).1 hi
        refine r_iload_n (pc := 35) h 1 d_M_first_35 rfl rfl ?_
        refine r_if_lt_f (pc := 36) h (tgt := 50) d_M_first_36 (by decide) (nI_pos (by omega)) ?_
        refine r_iload_n (pc := 39) h 0 d_M_first_39 rfl rfl ?_
        refine r_invSa (pc := 40) h (st := []) d_M_first_40 (m_turned i hi) (r_cS h wc_M_turned w_436 w_3 w_437 hd_M_turned ⟨(Nat.le_of_ble_eq_true rfl), (Nat.le_of_ble_eq_true rfl)⟩ rfl rfl) rfl rfl (Nat.le_of_ble_eq_true rfl) ⟨(Nat.le_of_ble_eq_true rfl), (Nat.le_of_ble_eq_true rfl)⟩ rfl ?_
        refine r_iload_n (pc := 43) h 1 d_M_first_43 rfl rfl ?_
        refine r_invSa (pc := 44) h (st := [.int (nI (tn 10 i))]) d_M_first_44 (m_turned bb hbb) (r_cS h wc_M_turned w_436 w_3 w_437 hd_M_turned ⟨(Nat.le_of_ble_eq_true rfl), (Nat.le_of_ble_eq_true rfl)⟩ rfl rfl) rfl rfl (Nat.le_of_ble_eq_true rfl) ⟨(Nat.le_of_ble_eq_true rfl), (Nat.le_of_ble_eq_true rfl)⟩ rfl ?_
        refine r_icmp_ge (pc := 47) h (tgt := 52) d_M_first_47 (by decide) (fun q47 => ?_) (fun q47 => ?_)
        · refine Wv.lcl (lv' := [(3, .int (nI i)), (2, .int (oI (bst (rg r1) (i + 1)))), (0, .ref (b 0)), (1, .int (nI r1))]) (by rw [bst_s hb32 hbs, if_neg (fun z => nI_ge z (by have h9 := tn_bd bb 10; omega) q47)]; rfl) ?_
          refine r_iinc (pc := 52) h (v := nI (i + 1)) (lv' := [(3, .int (nI (i + 1))), (2, .int (oI (bst (rg r1) (i + 1)))), (0, .ref (b 0)), (1, .int (nI r1))]) 0 d_M_first_52 rfl (nI_inc i) (by decide) rfl ?_
          refine r_goto (pc := 55) h (tgt := 17) d_M_first_55 (by decide) ?_
          exact ih
        · refine r_iload_n (pc := 50) h 0 d_M_first_50 rfl rfl ?_
          refine r_istore_n (pc := 51) h (lv' := [(2, .int (nI i)), (3, .int (nI i)), (0, .ref (b 0)), (1, .int (nI r1))]) d_M_first_51 rfl (by decide) rfl ?_
          refine Wv.lcl (lv' := [(2, .int (oI (bst (rg r1) (i + 1)))), (3, .int (nI i)), (0, .ref (b 0)), (1, .int (nI r1))]) (by rw [bst_s hb32 hbs, if_pos (Classical.byContradiction (fun z => q47 (nI_le (Nat.le_of_not_lt z) (by have h9 := tn_bd i 10; omega))))]; rfl) ?_
          refine r_iinc (pc := 52) h (v := nI (i + 1)) (lv' := [(3, .int (nI (i + 1))), (2, .int (oI (bst (rg r1) (i + 1)))), (0, .ref (b 0)), (1, .int (nI r1))]) 1 d_M_first_52 rfl (nI_inc i) (by decide) rfl ?_
          refine r_goto (pc := 55) h (tgt := 17) d_M_first_55 (by decide) ?_
          exact ih
theorem m_first_n (r1 : Nat) (h1 : r1 < 16) (hn : ∀ y, y < 1024 → rg r1 y = false) : Ct l y_M_first (.code y_M_first b_M_first 4 (some .int) :: TT) (rmF 1 24) G [.ref (b 0), .int (nI r1)] (mw G b th rg wk fi fa) (some (.int (nI 0))) (mw G b (nI 2) rg wk fi fa) := by
  refine ct_intro (cc := b_M_first) (nL := 4) (by decide) [(0, .ref (b 0)), (1, .int (nI r1))] rfl (Nat.le_of_ble_eq_true rfl) ?_
  intro p e s m below meth c A h hr
  refine r_aload_n (pc := 0) h 0 d_M_first_0 rfl rfl ?_
  refine r_iload_n (pc := 1) h 1 d_M_first_1 rfl rfl ?_
  refine r_invSa (pc := 2) h (st := [.ref (b 0)]) d_M_first_2 (c_none_f r1 h1) (r_cS h wc_M_none w_378 w_3 w_379 hd_M_none ⟨(Nat.le_of_ble_eq_true rfl), (Nat.le_of_ble_eq_true rfl)⟩ rfl rfl) rfl rfl (Nat.le_of_ble_eq_true rfl) ⟨(Nat.le_of_ble_eq_true rfl), (Nat.le_of_ble_eq_true rfl)⟩ rfl ?_
  refine r_invVa (pc := 5) h 0 (st := []) d_M_first_5 c_bad_false (r_cV h wc_M_bad w_384 w_3 w_386 (TT_se (q := (y_M_bad, 5)) 10 rfl) hd_M_bad ⟨(Nat.le_of_ble_eq_true rfl), (Nat.le_of_ble_eq_true rfl)⟩ rfl rfl) mw_0 rfl rfl rfl (Nat.le_of_ble_eq_true rfl) ⟨(Nat.le_of_ble_eq_true rfl), (Nat.le_of_ble_eq_true rfl)⟩ mw_adr ?_
  refine r_if_eq_t (pc := 8) h (tgt := 13) d_M_first_8 (by decide) rfl ?_
  refine r_iconst (pc := 13) h (v := oI (bst (rg r1) 0)) d_M_first_13 rfl ?_
  refine r_istore_n (pc := 14) h (lv' := [(2, .int (oI (bst (rg r1) 0))), (0, .ref (b 0)), (1, .int (nI r1))]) d_M_first_14 rfl (by decide) rfl ?_
  refine r_iconst (pc := 15) h (v := nI 0) d_M_first_15 (by decide) ?_
  refine r_istore_n (pc := 16) h (lv' := [(3, .int (nI 0)), (2, .int (oI (bst (rg r1) 0))), (0, .ref (b 0)), (1, .int (nI r1))]) d_M_first_16 rfl (by decide) rfl ?_
  refine Wv.loop 1024 (fun i => (mw G b (bI false) rg wk fi fa)) (fun i => [(3, .int (nI i)), (2, .int (oI (bst (rg r1) i))), (0, .ref (b 0)), (1, .int (nI r1))]) ?_ ?_
  · show Wv p l e _ s m _ below meth c G A _ _ _ _ (mw G b (bI false) rg wk fi fa) 17 [(3, .int (nI 1024)), (2, .int (oI (bst (rg r1) 1024))), (0, .ref (b 0)), (1, .int (nI r1))] []
    rw [bst_none hn]
    refine r_iload_n (pc := 17) h 0 d_M_first_17 rfl rfl ?_
    refine r_sipush (pc := 18) h (v := nI 1024) d_M_first_18 (by decide) ?_
    refine r_icmp_ge_t (pc := 21) h (tgt := 58) d_M_first_21 (by decide) (nI_le (Nat.le_refl _) (by decide)) ?_
    refine r_iload_n (pc := 58) h 1 d_M_first_58 rfl rfl ?_
    refine r_if_ge_f (pc := 59) h (tgt := 67) d_M_first_59 (by decide) (by decide) ?_
    refine r_aload_n (pc := 62) h 2 d_M_first_62 rfl rfl ?_
    refine r_iconst (pc := 63) h (v := nI 2) d_M_first_63 (by decide) ?_
    refine r_put (pc := 64) h 0 0 (ty := .int) (ws' := (mw G b (nI 2) rg wk fi fa)) t_M t_M_ok n_M d_M_first_64 mw_0 rfl (by decide) in_M (List.mem_cons_of_mem _ w_353) rfl (by decide +kernel) rfl rfl (Nat.le_of_ble_eq_true rfl) mw_s0 ?_
    refine r_iconst (pc := 67) h (v := nI 0) d_M_first_67 (by decide) ?_
    refine r_iload_n (pc := 68) h 1 d_M_first_68 rfl rfl ?_
    refine r_max (pc := 69) h (z := nI 0) d_M_first_69 (List.mem_cons_of_mem _ w_439) (List.mem_cons_of_mem _ w_440) (List.mem_cons_of_mem _ w_12) (List.mem_cons_of_mem _ w_441) (Nat.le_of_ble_eq_true rfl) (Nat.le_of_ble_eq_true rfl) (Nat.le_of_ble_eq_true rfl) (Nat.le_of_ble_eq_true rfl) (by decide) ?_
    exact r_iret (pc := 72) h hr d_M_first_72
  · intro i hi ih
    have ih : Wv p l e _ s m _ below meth c G A _ _ _ _ (mw G b (bI false) rg wk fi fa) 17 [(3, .int (nI (i + 1))), (2, .int (oI (bst (rg r1) (i + 1)))), (0, .ref (b 0)), (1, .int (nI r1))] [] := ih
    show Wv p l e _ s m _ below meth c G A _ _ _ _ (mw G b (bI false) rg wk fi fa) 17 [(3, .int (nI i)), (2, .int (oI (bst (rg r1) i))), (0, .ref (b 0)), (1, .int (nI r1))] []
    refine r_iload_n (pc := 17) h 0 d_M_first_17 rfl rfl ?_
    refine r_sipush (pc := 18) h (v := nI 1024) d_M_first_18 (by decide) ?_
    refine r_icmp_ge_f (pc := 21) h (tgt := 58) d_M_first_21 (by decide) (nI_ge hi (by decide)) ?_
    refine r_aload_n (pc := 24) h 2 d_M_first_24 rfl rfl ?_
    refine r_get (pc := 25) h 0 1 d_M_first_25 mw_0 rfl (by decide) in_M (List.mem_cons_of_mem _ w_354) rfl ?_
    refine r_iload_n (pc := 28) h 3 d_M_first_28 rfl rfl ?_
    refine r_aaload (pc := 29) h 1 4 r1 d_M_first_29 mw_1 rfl rfl rfl h1 (by decide) (mw_o h1) ?_
    refine r_iload_n (pc := 30) h 0 d_M_first_30 rfl rfl ?_
    refine r_baload (pc := 31) h (5 + r1) (z := bI (rg r1 i)) i d_M_first_31 (mw_r h1) rfl hi (by decide) rfl ?_
    refine r_if_eq (pc := 32) h (tgt := 52) d_M_first_32 (by decide) (fun q32 => ?_) (fun q32 => ?_)
    · have hb32 := bI_F q32
      refine Wv.lcl (lv' := [(3, .int (nI i)), (2, .int (oI (bst (rg r1) (i + 1)))), (0, .ref (b 0)), (1, .int (nI r1))]) (by rw [bst_f hb32]) ?_
      refine r_iinc (pc := 52) h (v := nI (i + 1)) (lv' := [(3, .int (nI (i + 1))), (2, .int (oI (bst (rg r1) (i + 1)))), (0, .ref (b 0)), (1, .int (nI r1))]) 0 d_M_first_52 rfl (nI_inc i) (by decide) rfl ?_
      refine r_goto (pc := 55) h (tgt := 17) d_M_first_55 (by decide) ?_
      exact ih
    · have hb32 := bI_T q32
      cases hbs : bst (rg r1) i with
      | none =>
        refine Wv.lcl (lv' := [(3, .int (nI i)), (2, .int (-1)), (0, .ref (b 0)), (1, .int (nI r1))]) rfl ?_
        refine r_iload_n (pc := 35) h 1 d_M_first_35 rfl rfl ?_
        refine r_if_lt_t (pc := 36) h (tgt := 50) d_M_first_36 (by decide) (by decide) ?_
        refine r_iload_n (pc := 50) h 0 d_M_first_50 rfl rfl ?_
        refine r_istore_n (pc := 51) h (lv' := [(2, .int (nI i)), (3, .int (nI i)), (0, .ref (b 0)), (1, .int (nI r1))]) d_M_first_51 rfl (by decide) rfl ?_
        refine Wv.lcl (lv' := [(2, .int (oI (bst (rg r1) (i + 1)))), (3, .int (nI i)), (0, .ref (b 0)), (1, .int (nI r1))]) (by rw [bst_n hb32 hbs]; rfl) ?_
        refine r_iinc (pc := 52) h (v := nI (i + 1)) (lv' := [(3, .int (nI (i + 1))), (2, .int (oI (bst (rg r1) (i + 1)))), (0, .ref (b 0)), (1, .int (nI r1))]) 1 d_M_first_52 rfl (nI_inc i) (by decide) rfl ?_
        refine r_goto (pc := 55) h (tgt := 17) d_M_first_55 (by decide) ?_
        exact ih
      | some bb =>
        refine Wv.lcl (lv' := [(3, .int (nI i)), (2, .int (nI bb)), (0, .ref (b 0)), (1, .int (nI r1))]) rfl ?_
        have hbb : bb < 1024 := Nat.lt_trans ((bst_inv (rg r1) i).2 bb hbs).1 hi
        refine r_iload_n (pc := 35) h 1 d_M_first_35 rfl rfl ?_
        refine r_if_lt_f (pc := 36) h (tgt := 50) d_M_first_36 (by decide) (nI_pos (by omega)) ?_
        refine r_iload_n (pc := 39) h 0 d_M_first_39 rfl rfl ?_
        refine r_invSa (pc := 40) h (st := []) d_M_first_40 (m_turned i hi) (r_cS h wc_M_turned w_436 w_3 w_437 hd_M_turned ⟨(Nat.le_of_ble_eq_true rfl), (Nat.le_of_ble_eq_true rfl)⟩ rfl rfl) rfl rfl (Nat.le_of_ble_eq_true rfl) ⟨(Nat.le_of_ble_eq_true rfl), (Nat.le_of_ble_eq_true rfl)⟩ rfl ?_
        refine r_iload_n (pc := 43) h 1 d_M_first_43 rfl rfl ?_
        refine r_invSa (pc := 44) h (st := [.int (nI (tn 10 i))]) d_M_first_44 (m_turned bb hbb) (r_cS h wc_M_turned w_436 w_3 w_437 hd_M_turned ⟨(Nat.le_of_ble_eq_true rfl), (Nat.le_of_ble_eq_true rfl)⟩ rfl rfl) rfl rfl (Nat.le_of_ble_eq_true rfl) ⟨(Nat.le_of_ble_eq_true rfl), (Nat.le_of_ble_eq_true rfl)⟩ rfl ?_
        refine r_icmp_ge (pc := 47) h (tgt := 52) d_M_first_47 (by decide) (fun q47 => ?_) (fun q47 => ?_)
        · refine Wv.lcl (lv' := [(3, .int (nI i)), (2, .int (oI (bst (rg r1) (i + 1)))), (0, .ref (b 0)), (1, .int (nI r1))]) (by rw [bst_s hb32 hbs, if_neg (fun z => nI_ge z (by have h9 := tn_bd bb 10; omega) q47)]; rfl) ?_
          refine r_iinc (pc := 52) h (v := nI (i + 1)) (lv' := [(3, .int (nI (i + 1))), (2, .int (oI (bst (rg r1) (i + 1)))), (0, .ref (b 0)), (1, .int (nI r1))]) 0 d_M_first_52 rfl (nI_inc i) (by decide) rfl ?_
          refine r_goto (pc := 55) h (tgt := 17) d_M_first_55 (by decide) ?_
          exact ih
        · refine r_iload_n (pc := 50) h 0 d_M_first_50 rfl rfl ?_
          refine r_istore_n (pc := 51) h (lv' := [(2, .int (nI i)), (3, .int (nI i)), (0, .ref (b 0)), (1, .int (nI r1))]) d_M_first_51 rfl (by decide) rfl ?_
          refine Wv.lcl (lv' := [(2, .int (oI (bst (rg r1) (i + 1)))), (3, .int (nI i)), (0, .ref (b 0)), (1, .int (nI r1))]) (by rw [bst_s hb32 hbs, if_pos (Classical.byContradiction (fun z => q47 (nI_le (Nat.le_of_not_lt z) (by have h9 := tn_bd i 10; omega))))]; rfl) ?_
          refine r_iinc (pc := 52) h (v := nI (i + 1)) (lv' := [(3, .int (nI (i + 1))), (2, .int (oI (bst (rg r1) (i + 1)))), (0, .ref (b 0)), (1, .int (nI r1))]) 1 d_M_first_52 rfl (nI_inc i) (by decide) rfl ?_
          refine r_goto (pc := 55) h (tgt := 17) d_M_first_55 (by decide) ?_
          exact ih
theorem x_first (r1 : Int32)  (hB : ¬ (okR 16 r1)) : Ct l y_M_first (.code y_M_first b_M_first 4 (some .int) :: TT) (rmF 1 24) G [.ref (b 0), .int r1] (mw G b th rg wk fi fa) (some (.int (nI 0))) (mw G b (bI true) rg wk fi fa) := by
  refine ct_intro (cc := b_M_first) (nL := 4) (by decide) [(0, .ref (b 0)), (1, .int r1)] rfl (Nat.le_of_ble_eq_true rfl) ?_
  intro p e s m below meth c A h hr
  refine r_aload_n (pc := 0) h 0 d_M_first_0 rfl rfl ?_
  refine r_iload_n (pc := 1) h 1 d_M_first_1 rfl rfl ?_
  rcases pk_ix r1 (n := 16) (by decide) with hN | hN | ⟨j2, hj2, hN2⟩
  · refine r_invSa (pc := 2) h (st := [.ref (b 0)]) d_M_first_2 (c_none_t r1 (Or.inl hN)) (r_cS h wc_M_none w_378 w_3 w_379 hd_M_none ⟨(Nat.le_of_ble_eq_true rfl), (Nat.le_of_ble_eq_true rfl)⟩ rfl rfl) rfl rfl (Nat.le_of_ble_eq_true rfl) ⟨(Nat.le_of_ble_eq_true rfl), (Nat.le_of_ble_eq_true rfl)⟩ rfl ?_
    refine r_invVa (pc := 5) h 0 (st := []) d_M_first_5 c_bad_true (r_cV h wc_M_bad w_384 w_3 w_386 (TT_se (q := (y_M_bad, 5)) 10 rfl) hd_M_bad ⟨(Nat.le_of_ble_eq_true rfl), (Nat.le_of_ble_eq_true rfl)⟩ rfl rfl) mw_0 rfl rfl rfl (Nat.le_of_ble_eq_true rfl) ⟨(Nat.le_of_ble_eq_true rfl), (Nat.le_of_ble_eq_true rfl)⟩ mw_adr ?_
    refine r_if_eq_f (pc := 8) h (tgt := 13) d_M_first_8 (by decide) (by decide) ?_
    refine r_iconst (pc := 11) h (v := nI 0) d_M_first_11 (by decide) ?_
    exact r_iret (pc := 12) h hr d_M_first_12
  · refine r_invSa (pc := 2) h (st := [.ref (b 0)]) d_M_first_2 (c_none_t r1 (Or.inr hN)) (r_cS h wc_M_none w_378 w_3 w_379 hd_M_none ⟨(Nat.le_of_ble_eq_true rfl), (Nat.le_of_ble_eq_true rfl)⟩ rfl rfl) rfl rfl (Nat.le_of_ble_eq_true rfl) ⟨(Nat.le_of_ble_eq_true rfl), (Nat.le_of_ble_eq_true rfl)⟩ rfl ?_
    refine r_invVa (pc := 5) h 0 (st := []) d_M_first_5 c_bad_true (r_cV h wc_M_bad w_384 w_3 w_386 (TT_se (q := (y_M_bad, 5)) 10 rfl) hd_M_bad ⟨(Nat.le_of_ble_eq_true rfl), (Nat.le_of_ble_eq_true rfl)⟩ rfl rfl) mw_0 rfl rfl rfl (Nat.le_of_ble_eq_true rfl) ⟨(Nat.le_of_ble_eq_true rfl), (Nat.le_of_ble_eq_true rfl)⟩ mw_adr ?_
    refine r_if_eq_f (pc := 8) h (tgt := 13) d_M_first_8 (by decide) (by decide) ?_
    refine r_iconst (pc := 11) h (v := nI 0) d_M_first_11 (by decide) ?_
    exact r_iret (pc := 12) h hr d_M_first_12
  · exfalso
    exact hB ⟨j2, hj2, hN2⟩
theorem m_hangs (r1 : Nat) (h1 : r1 < 16) : Ct l y_M_hangs (.code y_M_hangs b_M_hangs 5 (some .int) :: TT) (rmF 1 21) G [.ref (b 0), .int (nI r1)] (mw G b th rg wk fi fa) (some (.int (nI (hrN (rg r1) 10)))) (mw G b (bI false) rg wk fi fa) := by
  refine ct_intro (cc := b_M_hangs) (nL := 5) (by decide) [(0, .ref (b 0)), (1, .int (nI r1))] rfl (Nat.le_of_ble_eq_true rfl) ?_
  intro p e s m below meth c A h hr
  refine r_aload_n (pc := 0) h 0 d_M_hangs_0 rfl rfl ?_
  refine r_iload_n (pc := 1) h 1 d_M_hangs_1 rfl rfl ?_
  refine r_invSa (pc := 2) h (st := [.ref (b 0)]) d_M_hangs_2 (c_none_f r1 h1) (r_cS h wc_M_none w_378 w_3 w_379 hd_M_none ⟨(Nat.le_of_ble_eq_true rfl), (Nat.le_of_ble_eq_true rfl)⟩ rfl rfl) rfl rfl (Nat.le_of_ble_eq_true rfl) ⟨(Nat.le_of_ble_eq_true rfl), (Nat.le_of_ble_eq_true rfl)⟩ rfl ?_
  refine r_invVa (pc := 5) h 0 (st := []) d_M_hangs_5 c_bad_false (r_cV h wc_M_bad w_384 w_3 w_386 (TT_se (q := (y_M_bad, 5)) 10 rfl) hd_M_bad ⟨(Nat.le_of_ble_eq_true rfl), (Nat.le_of_ble_eq_true rfl)⟩ rfl rfl) mw_0 rfl rfl rfl (Nat.le_of_ble_eq_true rfl) ⟨(Nat.le_of_ble_eq_true rfl), (Nat.le_of_ble_eq_true rfl)⟩ mw_adr ?_
  refine r_if_eq_t (pc := 8) h (tgt := 13) d_M_hangs_8 (by decide) rfl ?_
  refine r_iconst (pc := 13) h (v := nI (hrN (rg r1) 0)) d_M_hangs_13 rfl ?_
  refine r_istore_n (pc := 14) h (lv' := [(2, .int (nI (hrN (rg r1) 0))), (0, .ref (b 0)), (1, .int (nI r1))]) d_M_hangs_14 rfl (by decide) rfl ?_
  refine r_iconst (pc := 15) h (v := nI 0) d_M_hangs_15 (by decide) ?_
  refine r_istore_n (pc := 16) h (lv' := [(3, .int (nI 0)), (2, .int (nI (hrN (rg r1) 0))), (0, .ref (b 0)), (1, .int (nI r1))]) d_M_hangs_16 rfl (by decide) rfl ?_
  refine Wv.loop 10 (fun i => (mw G b (bI false) rg wk fi fa)) (fun i => [(3, .int (nI i)), (2, .int (nI (hrN (rg r1) i))), (0, .ref (b 0)), (1, .int (nI r1))]) ?_ ?_
  · show Wv p l e _ s m _ below meth c G A _ _ _ _ (mw G b (bI false) rg wk fi fa) 17 [(3, .int (nI 10)), (2, .int (nI (hrN (rg r1) 10))), (0, .ref (b 0)), (1, .int (nI r1))] []
    refine r_iload_n (pc := 17) h 0 d_M_hangs_17 rfl rfl ?_
    refine r_bipush (pc := 18) h (v := nI 10) d_M_hangs_18 (by decide) ?_
    refine r_icmp_ge_t (pc := 20) h (tgt := 77) d_M_hangs_20 (by decide) (nI_le (Nat.le_refl _) (by decide)) ?_
    refine r_iload_n (pc := 77) h 1 d_M_hangs_77 rfl rfl ?_
    exact r_iret (pc := 78) h hr d_M_hangs_78
  · intro i hi ih
    have ih : Wv p l e _ s m _ below meth c G A _ _ _ _ (mw G b (bI false) rg wk fi fa) 17 [(3, .int (nI (i + 1))), (2, .int (nI (hrN (rg r1) (i + 1)))), (0, .ref (b 0)), (1, .int (nI r1))] [] := ih
    show Wv p l e _ s m _ below meth c G A _ _ _ _ (mw G b (bI false) rg wk fi fa) 17 [(3, .int (nI i)), (2, .int (nI (hrN (rg r1) i))), (0, .ref (b 0)), (1, .int (nI r1))] []
    refine r_iload_n (pc := 17) h 0 d_M_hangs_17 rfl rfl ?_
    refine r_bipush (pc := 18) h (v := nI 10) d_M_hangs_18 (by decide) ?_
    refine r_icmp_ge_f (pc := 20) h (tgt := 77) d_M_hangs_20 (by decide) (nI_ge hi (by decide)) ?_
    refine r_iconst (pc := 23) h (v := nI 0) d_M_hangs_23 (by decide) ?_
    refine r_istore (pc := 24) h (lv' := [(4, .int (nI 0)), (3, .int (nI i)), (2, .int (nI (hrN (rg r1) i))), (0, .ref (b 0)), (1, .int (nI r1))]) d_M_hangs_24 (by decide) rfl ?_
    refine Wv.lcl (lv' := [(4, .int (nI 0)), (3, .int (nI i)), (2, .int (nI (hrI (rg r1) i (hrN (rg r1) i) 0))), (0, .ref (b 0)), (1, .int (nI r1))]) (by rw [hrI_0]) ?_
    refine Wv.sub [0, 2, 1, 3, 4] rfl ?_
    refine Wv.loop 1024 (fun x => (mw G b (bI false) rg wk fi fa)) (fun x => [(4, .int (nI x)), (2, .int (nI (hrI (rg r1) i (hrN (rg r1) i) x))), (3, .int (nI i)), (0, .ref (b 0)), (1, .int (nI r1))]) ?_ ?_
    · show Wv p l e _ s m _ below meth c G A _ _ _ _ (mw G b (bI false) rg wk fi fa) 26 [(4, .int (nI 1024)), (2, .int (nI (hrI (rg r1) i (hrN (rg r1) i) 1024))), (3, .int (nI i)), (0, .ref (b 0)), (1, .int (nI r1))] []
      refine r_iload (pc := 26) h 0 d_M_hangs_26 rfl ?_
      refine r_sipush (pc := 28) h (v := nI 1024) d_M_hangs_28 (by decide) ?_
      refine r_icmp_ge_t (pc := 31) h (tgt := 71) d_M_hangs_31 (by decide) (nI_le (Nat.le_refl _) (by decide)) ?_
      refine Wv.lcl (lv' := [(4, .int (nI 1024)), (2, .int (nI (hrN (rg r1) (i + 1)))), (3, .int (nI i)), (0, .ref (b 0)), (1, .int (nI r1))]) (by rw [hrI_n]) ?_
      refine r_iinc (pc := 71) h (v := nI (i + 1)) (lv' := [(3, .int (nI (i + 1))), (4, .int (nI 1024)), (2, .int (nI (hrN (rg r1) (i + 1)))), (0, .ref (b 0)), (1, .int (nI r1))]) 2 d_M_hangs_71 rfl (nI_inc i) (by decide) rfl ?_
      refine r_goto (pc := 74) h (tgt := 17) d_M_hangs_74 (by decide) ?_
      refine Wv.sub [0, 2, 3, 4] rfl ?_
      exact ih
    · intro x hx ihx
      have ihx : Wv p l e _ s m _ below meth c G A _ _ _ _ (mw G b (bI false) rg wk fi fa) 26 [(4, .int (nI (x + 1))), (2, .int (nI (hrI (rg r1) i (hrN (rg r1) i) (x + 1)))), (3, .int (nI i)), (0, .ref (b 0)), (1, .int (nI r1))] [] := ihx
      show Wv p l e _ s m _ below meth c G A _ _ _ _ (mw G b (bI false) rg wk fi fa) 26 [(4, .int (nI x)), (2, .int (nI (hrI (rg r1) i (hrN (rg r1) i) x))), (3, .int (nI i)), (0, .ref (b 0)), (1, .int (nI r1))] []
      refine r_iload (pc := 26) h 0 d_M_hangs_26 rfl ?_
      refine r_sipush (pc := 28) h (v := nI 1024) d_M_hangs_28 (by decide) ?_
      refine r_icmp_ge_f (pc := 31) h (tgt := 71) d_M_hangs_31 (by decide) (nI_ge hx (by decide)) ?_
      refine r_aload_n (pc := 34) h 3 d_M_hangs_34 rfl rfl ?_
      refine r_get (pc := 35) h 0 1 d_M_hangs_35 mw_0 rfl (by decide) in_M (List.mem_cons_of_mem _ w_354) rfl ?_
      refine r_iload_n (pc := 38) h 4 d_M_hangs_38 rfl rfl ?_
      refine r_aaload (pc := 39) h 1 4 r1 d_M_hangs_39 mw_1 rfl rfl rfl h1 (by decide) (mw_o h1) ?_
      refine r_iload (pc := 40) h 0 d_M_hangs_40 rfl ?_
      refine r_baload (pc := 42) h (5 + r1) (z := bI (rg r1 x)) x d_M_hangs_42 (mw_r h1) rfl hx (by decide) rfl ?_
      refine r_aload_n (pc := 43) h 3 d_M_hangs_43 rfl rfl ?_
      refine r_get (pc := 44) h 0 1 d_M_hangs_44 mw_0 rfl (by decide) in_M (List.mem_cons_of_mem _ w_354) rfl ?_
      refine r_iload_n (pc := 47) h 4 d_M_hangs_47 rfl rfl ?_
      refine r_aaload (pc := 48) h 1 4 r1 d_M_hangs_48 mw_1 rfl rfl rfl h1 (by decide) (mw_o h1) ?_
      refine r_iload (pc := 49) h 0 d_M_hangs_49 rfl ?_
      refine r_iconst (pc := 51) h (v := nI 1) d_M_hangs_51 (by decide) ?_
      refine r_iload_n (pc := 52) h 2 d_M_hangs_52 rfl rfl ?_
      refine r_ishl (pc := 53) h (z := nI (2 ^ i)) d_M_hangs_53 (nx_pw (by omega)) ?_
      refine r_ixor (pc := 54) h (z := nI (x ^^^ 2 ^ i)) d_M_hangs_54 (nx_xor _ _) ?_
      refine r_baload (pc := 55) h (5 + r1) (z := bI (rg r1 (x ^^^ 2 ^ i))) (x ^^^ 2 ^ i) d_M_hangs_55 (mw_r h1) rfl (Nat.xor_lt_two_pow (n := 10) hx (pw10 i hi)) (by decide) rfl ?_
      refine r_icmp_eq (pc := 56) h (tgt := 65) d_M_hangs_56 (by decide) (fun q56 => ?_) (fun q56 => ?_)
      · have he := bI_inj.mp q56
        refine Wv.lcl (lv' := [(4, .int (nI x)), (2, .int (nI (hrI (rg r1) i (hrN (rg r1) i) (x + 1)))), (3, .int (nI i)), (0, .ref (b 0)), (1, .int (nI r1))]) (by rw [hrI_e he]) ?_
        refine r_iinc (pc := 65) h (v := nI (x + 1)) (lv' := [(4, .int (nI (x + 1))), (2, .int (nI (hrI (rg r1) i (hrN (rg r1) i) (x + 1)))), (3, .int (nI i)), (0, .ref (b 0)), (1, .int (nI r1))]) 0 d_M_hangs_65 rfl (nI_inc x) (by decide) rfl ?_
        refine r_goto (pc := 68) h (tgt := 26) d_M_hangs_68 (by decide) ?_
        exact ihx
      · have he := fun z => q56 (bI_inj.mpr z)
        refine r_iload_n (pc := 59) h 1 d_M_hangs_59 rfl rfl ?_
        refine r_iconst (pc := 60) h (v := nI 1) d_M_hangs_60 (by decide) ?_
        refine r_iload_n (pc := 61) h 2 d_M_hangs_61 rfl rfl ?_
        refine r_ishl (pc := 62) h (z := nI (2 ^ i)) d_M_hangs_62 (nx_pw (by omega)) ?_
        refine r_ior (pc := 63) h (z := nI (hrI (rg r1) i (hrN (rg r1) i) x ||| 2 ^ i)) d_M_hangs_63 (nx_or _ _) ?_
        refine r_istore_n (pc := 64) h (lv' := [(2, .int (nI (hrI (rg r1) i (hrN (rg r1) i) x ||| 2 ^ i))), (4, .int (nI x)), (3, .int (nI i)), (0, .ref (b 0)), (1, .int (nI r1))]) d_M_hangs_64 rfl (by decide) rfl ?_
        refine Wv.lcl (lv' := [(2, .int (nI (hrI (rg r1) i (hrN (rg r1) i) (x + 1)))), (4, .int (nI x)), (3, .int (nI i)), (0, .ref (b 0)), (1, .int (nI r1))]) (by rw [hrI_d he]) ?_
        refine r_iinc (pc := 65) h (v := nI (x + 1)) (lv' := [(4, .int (nI (x + 1))), (2, .int (nI (hrI (rg r1) i (hrN (rg r1) i) (x + 1)))), (3, .int (nI i)), (0, .ref (b 0)), (1, .int (nI r1))]) 1 d_M_hangs_65 rfl (nI_inc x) (by decide) rfl ?_
        refine r_goto (pc := 68) h (tgt := 26) d_M_hangs_68 (by decide) ?_
        exact ihx
theorem x_hangs (r1 : Int32)  (hB : ¬ (okR 16 r1)) : Ct l y_M_hangs (.code y_M_hangs b_M_hangs 5 (some .int) :: TT) (rmF 1 21) G [.ref (b 0), .int r1] (mw G b th rg wk fi fa) (some (.int (nI 0))) (mw G b (bI true) rg wk fi fa) := by
  refine ct_intro (cc := b_M_hangs) (nL := 5) (by decide) [(0, .ref (b 0)), (1, .int r1)] rfl (Nat.le_of_ble_eq_true rfl) ?_
  intro p e s m below meth c A h hr
  refine r_aload_n (pc := 0) h 0 d_M_hangs_0 rfl rfl ?_
  refine r_iload_n (pc := 1) h 1 d_M_hangs_1 rfl rfl ?_
  rcases pk_ix r1 (n := 16) (by decide) with hN | hN | ⟨j2, hj2, hN2⟩
  · refine r_invSa (pc := 2) h (st := [.ref (b 0)]) d_M_hangs_2 (c_none_t r1 (Or.inl hN)) (r_cS h wc_M_none w_378 w_3 w_379 hd_M_none ⟨(Nat.le_of_ble_eq_true rfl), (Nat.le_of_ble_eq_true rfl)⟩ rfl rfl) rfl rfl (Nat.le_of_ble_eq_true rfl) ⟨(Nat.le_of_ble_eq_true rfl), (Nat.le_of_ble_eq_true rfl)⟩ rfl ?_
    refine r_invVa (pc := 5) h 0 (st := []) d_M_hangs_5 c_bad_true (r_cV h wc_M_bad w_384 w_3 w_386 (TT_se (q := (y_M_bad, 5)) 10 rfl) hd_M_bad ⟨(Nat.le_of_ble_eq_true rfl), (Nat.le_of_ble_eq_true rfl)⟩ rfl rfl) mw_0 rfl rfl rfl (Nat.le_of_ble_eq_true rfl) ⟨(Nat.le_of_ble_eq_true rfl), (Nat.le_of_ble_eq_true rfl)⟩ mw_adr ?_
    refine r_if_eq_f (pc := 8) h (tgt := 13) d_M_hangs_8 (by decide) (by decide) ?_
    refine r_iconst (pc := 11) h (v := nI 0) d_M_hangs_11 (by decide) ?_
    exact r_iret (pc := 12) h hr d_M_hangs_12
  · refine r_invSa (pc := 2) h (st := [.ref (b 0)]) d_M_hangs_2 (c_none_t r1 (Or.inr hN)) (r_cS h wc_M_none w_378 w_3 w_379 hd_M_none ⟨(Nat.le_of_ble_eq_true rfl), (Nat.le_of_ble_eq_true rfl)⟩ rfl rfl) rfl rfl (Nat.le_of_ble_eq_true rfl) ⟨(Nat.le_of_ble_eq_true rfl), (Nat.le_of_ble_eq_true rfl)⟩ rfl ?_
    refine r_invVa (pc := 5) h 0 (st := []) d_M_hangs_5 c_bad_true (r_cV h wc_M_bad w_384 w_3 w_386 (TT_se (q := (y_M_bad, 5)) 10 rfl) hd_M_bad ⟨(Nat.le_of_ble_eq_true rfl), (Nat.le_of_ble_eq_true rfl)⟩ rfl rfl) mw_0 rfl rfl rfl (Nat.le_of_ble_eq_true rfl) ⟨(Nat.le_of_ble_eq_true rfl), (Nat.le_of_ble_eq_true rfl)⟩ mw_adr ?_
    refine r_if_eq_f (pc := 8) h (tgt := 13) d_M_hangs_8 (by decide) (by decide) ?_
    refine r_iconst (pc := 11) h (v := nI 0) d_M_hangs_11 (by decide) ?_
    exact r_iret (pc := 12) h hr d_M_hangs_12
  · exfalso
    exact hB ⟨j2, hj2, hN2⟩
theorem m_bound_true (t : Nat) (ht : t < 16) (r1 S : Nat) (h1 : r1 < 16) (hS : S < 1024) : Ct l y_M_bound (.code y_M_bound b_M_bound 8 none :: TT) (rmF 2 61) G [.ref (b 0), .int (nI t), .int (nI r1), .int (nI S), .int (bI true)] (mw G b th rg wk fi fa) none (mw G b (bI false) (va_up rg t (mix 1024 (mix 1024 (fun x => bsI (rg r1) S true x 1024) wk) (rg t))) (mix 1024 (fun x => bsI (rg r1) S true x 1024) wk) fi fa) := by
  refine ct_intro (cc := b_M_bound) (nL := 8) (by decide) [(0, .ref (b 0)), (1, .int (nI t)), (2, .int (nI r1)), (3, .int (nI S)), (4, .int (bI true))] rfl (Nat.le_of_ble_eq_true rfl) ?_
  intro p e s m below meth c A h hr
  refine r_aload_n (pc := 0) h 0 d_M_bound_0 rfl rfl ?_
  refine r_iload_n (pc := 1) h 1 d_M_bound_1 rfl rfl ?_
  refine r_invSa (pc := 2) h (st := [.ref (b 0)]) d_M_bound_2 (c_none_f t ht) (r_cS h wc_M_none w_378 w_3 w_379 hd_M_none ⟨(Nat.le_of_ble_eq_true rfl), (Nat.le_of_ble_eq_true rfl)⟩ rfl rfl) rfl rfl (Nat.le_of_ble_eq_true rfl) ⟨(Nat.le_of_ble_eq_true rfl), (Nat.le_of_ble_eq_true rfl)⟩ rfl ?_
  refine r_if_ne_f (pc := 5) h (tgt := 22) d_M_bound_5 (by decide) rfl ?_
  refine r_iload_n (pc := 8) h 2 d_M_bound_8 rfl rfl ?_
  refine r_invSa (pc := 9) h (st := [.ref (b 0)]) d_M_bound_9 (c_none_f r1 h1) (r_cS h wc_M_none w_378 w_3 w_379 hd_M_none ⟨(Nat.le_of_ble_eq_true rfl), (Nat.le_of_ble_eq_true rfl)⟩ rfl rfl) rfl rfl (Nat.le_of_ble_eq_true rfl) ⟨(Nat.le_of_ble_eq_true rfl), (Nat.le_of_ble_eq_true rfl)⟩ rfl ?_
  refine r_if_ne_f (pc := 12) h (tgt := 22) d_M_bound_12 (by decide) rfl ?_
  refine r_iload_n (pc := 15) h 3 d_M_bound_15 rfl rfl ?_
  refine r_invSa (pc := 16) h (st := [.ref (b 0)]) d_M_bound_16 (c_beyond_f S hS) (r_cS h wc_M_beyond w_392 w_3 w_393 hd_M_beyond ⟨(Nat.le_of_ble_eq_true rfl), (Nat.le_of_ble_eq_true rfl)⟩ rfl rfl) rfl rfl (Nat.le_of_ble_eq_true rfl) ⟨(Nat.le_of_ble_eq_true rfl), (Nat.le_of_ble_eq_true rfl)⟩ rfl ?_
  refine r_if_eq_t (pc := 19) h (tgt := 26) d_M_bound_19 (by decide) rfl ?_
  refine r_iconst (pc := 26) h (v := bI false) d_M_bound_26 (by decide) ?_
  refine r_invVa (pc := 27) h 0 (st := []) d_M_bound_27 c_bad_false (r_cV h wc_M_bad w_384 w_3 w_386 (TT_se (q := (y_M_bad, 5)) 10 rfl) hd_M_bad ⟨(Nat.le_of_ble_eq_true rfl), (Nat.le_of_ble_eq_true rfl)⟩ rfl rfl) mw_0 rfl rfl rfl (Nat.le_of_ble_eq_true rfl) ⟨(Nat.le_of_ble_eq_true rfl), (Nat.le_of_ble_eq_true rfl)⟩ mw_adr ?_
  refine r_if_eq_t (pc := 30) h (tgt := 34) d_M_bound_30 (by decide) rfl ?_
  refine r_iconst (pc := 34) h (v := nI 0) d_M_bound_34 (by decide) ?_
  refine r_istore (pc := 35) h (lv' := [(5, .int (nI 0)), (0, .ref (b 0)), (1, .int (nI t)), (2, .int (nI r1)), (3, .int (nI S)), (4, .int (bI true))]) d_M_bound_35 (by decide) rfl ?_
  refine Wv.wld (ws' := (mw G b (bI false) rg (mix 0 (fun x => bsI (rg r1) S true x 1024) wk) fi fa)) (by rw [mix_0]) ?_
  refine Wv.loop 1024 (fun i => (mw G b (bI false) rg (mix i (fun x => bsI (rg r1) S true x 1024) wk) fi fa)) (fun i => [(5, .int (nI i)), (0, .ref (b 0)), (1, .int (nI t)), (2, .int (nI r1)), (3, .int (nI S)), (4, .int (bI true))]) ?_ ?_
  · show Wv p l e _ s m _ below meth c G A _ _ _ _ (mw G b (bI false) rg (mix 1024 (fun x => bsI (rg r1) S true x 1024) wk) fi fa) 37 [(5, .int (nI 1024)), (0, .ref (b 0)), (1, .int (nI t)), (2, .int (nI r1)), (3, .int (nI S)), (4, .int (bI true))] []
    refine r_iload (pc := 37) h 0 d_M_bound_37 rfl ?_
    refine r_sipush (pc := 39) h (v := nI 1024) d_M_bound_39 (by decide) ?_
    refine r_icmp_ge_t (pc := 42) h (tgt := 150) d_M_bound_42 (by decide) (nI_le (Nat.le_refl _) (by decide)) ?_
    refine r_aload_n (pc := 150) h 1 d_M_bound_150 rfl rfl ?_
    refine r_iload_n (pc := 151) h 2 d_M_bound_151 rfl rfl ?_
    refine r_invVv (pc := 152) h 0 (st := []) d_M_bound_152 (c_keep t ht) (r_cV h wc_M_keep w_399 w_3 w_401 (TT_se (q := (y_M_keep, 5)) 11 rfl) hd_M_keep ⟨(Nat.le_of_ble_eq_true rfl), (Nat.le_of_ble_eq_true rfl)⟩ rfl rfl) mw_0 rfl rfl rfl (Nat.le_of_ble_eq_true rfl) ⟨(Nat.le_of_ble_eq_true rfl), (Nat.le_of_ble_eq_true rfl)⟩ mw_adr ?_
    exact r_vret (pc := 155) h hr d_M_bound_155
  · intro i hi ih
    have ih : Wv p l e _ s m _ below meth c G A _ _ _ _ (mw G b (bI false) rg (mix (i + 1) (fun x => bsI (rg r1) S true x 1024) wk) fi fa) 37 [(5, .int (nI (i + 1))), (0, .ref (b 0)), (1, .int (nI t)), (2, .int (nI r1)), (3, .int (nI S)), (4, .int (bI true))] [] := ih
    show Wv p l e _ s m _ below meth c G A _ _ _ _ (mw G b (bI false) rg (mix i (fun x => bsI (rg r1) S true x 1024) wk) fi fa) 37 [(5, .int (nI i)), (0, .ref (b 0)), (1, .int (nI t)), (2, .int (nI r1)), (3, .int (nI S)), (4, .int (bI true))] []
    refine r_iload (pc := 37) h 0 d_M_bound_37 rfl ?_
    refine r_sipush (pc := 39) h (v := nI 1024) d_M_bound_39 (by decide) ?_
    refine r_icmp_ge_f (pc := 42) h (tgt := 150) d_M_bound_42 (by decide) (nI_ge hi (by decide)) ?_
    refine r_iload (pc := 45) h 5 d_M_bound_45 rfl ?_
    refine r_istore (pc := 47) h (lv' := [(6, .int (bI true)), (5, .int (nI i)), (0, .ref (b 0)), (1, .int (nI t)), (2, .int (nI r1)), (3, .int (nI S)), (4, .int (bI true))]) d_M_bound_47 (by decide) rfl ?_
    refine r_iconst (pc := 49) h (v := nI 0) d_M_bound_49 (by decide) ?_
    refine r_istore (pc := 50) h (lv' := [(7, .int (nI 0)), (6, .int (bI true)), (5, .int (nI i)), (0, .ref (b 0)), (1, .int (nI t)), (2, .int (nI r1)), (3, .int (nI S)), (4, .int (bI true))]) d_M_bound_50 (by decide) rfl ?_
    refine Wv.lcl (lv' := [(7, .int (nI 0)), (6, .int (bI (bsI (rg r1) S true i 0))), (5, .int (nI i)), (0, .ref (b 0)), (1, .int (nI t)), (2, .int (nI r1)), (3, .int (nI S)), (4, .int (bI true))]) rfl ?_
    refine Wv.loop 1024 (fun y => (mw G b (bI false) rg (mix i (fun x => bsI (rg r1) S true x 1024) wk) fi fa)) (fun y => [(7, .int (nI y)), (6, .int (bI (bsI (rg r1) S true i y))), (5, .int (nI i)), (0, .ref (b 0)), (1, .int (nI t)), (2, .int (nI r1)), (3, .int (nI S)), (4, .int (bI true))]) ?_ ?_
    · show Wv p l e _ s m _ below meth c G A _ _ _ _ (mw G b (bI false) rg (mix i (fun x => bsI (rg r1) S true x 1024) wk) fi fa) 52 [(7, .int (nI 1024)), (6, .int (bI (bsI (rg r1) S true i 1024))), (5, .int (nI i)), (0, .ref (b 0)), (1, .int (nI t)), (2, .int (nI r1)), (3, .int (nI S)), (4, .int (bI true))] []
      refine r_iload (pc := 52) h 0 d_M_bound_52 rfl ?_
      refine r_sipush (pc := 54) h (v := nI 1024) d_M_bound_54 (by decide) ?_
      refine r_icmp_ge_t (pc := 57) h (tgt := 135) d_M_bound_57 (by decide) (nI_le (Nat.le_refl _) (by decide)) ?_
      refine r_aload_n (pc := 135) h 3 d_M_bound_135 rfl rfl ?_
      refine r_get (pc := 136) h 0 2 d_M_bound_136 mw_0 rfl (by decide) in_M (List.mem_cons_of_mem _ w_355) rfl ?_
      refine r_iload (pc := 139) h 2 d_M_bound_139 rfl ?_
      refine r_iload (pc := 141) h 1 d_M_bound_141 rfl ?_
      refine r_bastore (pc := 143) h 2 (ws' := (mw G b (bI false) rg (mix (i + 1) (fun x => bsI (rg r1) S true x 1024) wk) fi fa)) i d_M_bound_143 mw_2 rfl hi (by decide) (bI_nar _) (by rw [upd_b, mix_up i (fun x => bsI (rg r1) S true x 1024) wk]; exact mw_s2) ?_
      refine r_iinc (pc := 144) h (v := nI (i + 1)) (lv' := [(5, .int (nI (i + 1))), (7, .int (nI 1024)), (6, .int (bI (bsI (rg r1) S true i 1024))), (0, .ref (b 0)), (1, .int (nI t)), (2, .int (nI r1)), (3, .int (nI S)), (4, .int (bI true))]) 2 d_M_bound_144 rfl (nI_inc i) (by decide) rfl ?_
      refine r_goto (pc := 147) h (tgt := 37) d_M_bound_147 (by decide) ?_
      refine Wv.sub [0, 3, 4, 5, 6, 7] rfl ?_
      exact ih
    · intro y hy ihy
      have ihy : Wv p l e _ s m _ below meth c G A _ _ _ _ (mw G b (bI false) rg (mix i (fun x => bsI (rg r1) S true x 1024) wk) fi fa) 52 [(7, .int (nI (y + 1))), (6, .int (bI (bsI (rg r1) S true i (y + 1)))), (5, .int (nI i)), (0, .ref (b 0)), (1, .int (nI t)), (2, .int (nI r1)), (3, .int (nI S)), (4, .int (bI true))] [] := ihy
      show Wv p l e _ s m _ below meth c G A _ _ _ _ (mw G b (bI false) rg (mix i (fun x => bsI (rg r1) S true x 1024) wk) fi fa) 52 [(7, .int (nI y)), (6, .int (bI (bsI (rg r1) S true i y))), (5, .int (nI i)), (0, .ref (b 0)), (1, .int (nI t)), (2, .int (nI r1)), (3, .int (nI S)), (4, .int (bI true))] []
      refine r_iload (pc := 52) h 0 d_M_bound_52 rfl ?_
      refine r_sipush (pc := 54) h (v := nI 1024) d_M_bound_54 (by decide) ?_
      refine r_icmp_ge_f (pc := 57) h (tgt := 135) d_M_bound_57 (by decide) (nI_ge hy (by decide)) ?_
      refine r_iload (pc := 60) h 2 d_M_bound_60 rfl ?_
      refine r_iload (pc := 62) h 0 d_M_bound_62 rfl ?_
      refine r_ixor (pc := 64) h (z := nI (i ^^^ y)) d_M_bound_64 (nx_xor _ _) ?_
      refine r_iload_n (pc := 65) h 6 d_M_bound_65 rfl rfl ?_
      refine r_iconst (pc := 66) h (v := (-1)) d_M_bound_66 (by decide) ?_
      refine r_ixor (pc := 67) h (z := nI (S ^^^ 4294967295)) d_M_bound_67 (by rw [nx_m1, nx_xor]) ?_
      refine r_iand (pc := 68) h (z := nI ((i ^^^ y) &&& (S ^^^ 4294967295))) d_M_bound_68 (nx_and _ _) ?_
      have hlt9 : (i ^^^ y) &&& (S ^^^ 4294967295) < 2 ^ 31 := Nat.lt_of_le_of_lt Nat.and_le_left (Nat.lt_trans (Nat.xor_lt_two_pow (n := 10) hi hy) (by decide))
      refine r_if_eq (pc := 69) h (tgt := 75) d_M_bound_69 (by decide) (fun q69 => ?_) (fun q69 => ?_)
      · have hc : (i ^^^ y) &&& (S ^^^ 4294967295) = 0 := (nI_eq hlt9 (by decide)).mp q69
        refine r_iload (pc := 75) h 7 d_M_bound_75 rfl ?_
        refine r_if_eq_f (pc := 77) h (tgt := 105) d_M_bound_77 (by decide) (by decide) ?_
        refine r_iload (pc := 80) h 1 d_M_bound_80 rfl ?_
        refine r_if_eq (pc := 82) h (tgt := 101) d_M_bound_82 (by decide) (fun q82 => ?_) (fun q82 => ?_)
        · have hb82 := bI_F q82
          refine r_iconst (pc := 101) h (v := bI (bsI (rg r1) S true i (y + 1))) d_M_bound_101 (by rw [bsI_t hc, hb82]; cases rg r1 y <;> decide) ?_
          refine r_goto (pc := 102) h (tgt := 127) d_M_bound_102 (by decide) ?_
          refine r_istore (pc := 127) h (lv' := [(6, .int (bI (bsI (rg r1) S true i (y + 1)))), (7, .int (nI y)), (5, .int (nI i)), (0, .ref (b 0)), (1, .int (nI t)), (2, .int (nI r1)), (3, .int (nI S)), (4, .int (bI true))]) d_M_bound_127 (by decide) rfl ?_
          refine r_iinc (pc := 129) h (v := nI (y + 1)) (lv' := [(7, .int (nI (y + 1))), (6, .int (bI (bsI (rg r1) S true i (y + 1)))), (5, .int (nI i)), (0, .ref (b 0)), (1, .int (nI t)), (2, .int (nI r1)), (3, .int (nI S)), (4, .int (bI true))]) 1 d_M_bound_129 rfl (nI_inc y) (by decide) rfl ?_
          refine r_goto (pc := 132) h (tgt := 52) d_M_bound_132 (by decide) ?_
          exact ihy
        · have hb82 := bI_T q82
          refine r_aload_n (pc := 85) h 3 d_M_bound_85 rfl rfl ?_
          refine r_get (pc := 86) h 0 1 d_M_bound_86 mw_0 rfl (by decide) in_M (List.mem_cons_of_mem _ w_354) rfl ?_
          refine r_iload_n (pc := 89) h 5 d_M_bound_89 rfl rfl ?_
          refine r_aaload (pc := 90) h 1 4 r1 d_M_bound_90 mw_1 rfl rfl rfl h1 (by decide) (mw_o h1) ?_
          refine r_iload (pc := 91) h 0 d_M_bound_91 rfl ?_
          refine r_baload (pc := 93) h (5 + r1) (z := bI (rg r1 y)) y d_M_bound_93 (mw_r h1) rfl hy (by decide) rfl ?_
          refine r_if_eq (pc := 94) h (tgt := 101) d_M_bound_94 (by decide) (fun q94 => ?_) (fun q94 => ?_)
          · have hb94 := bI_F q94
            refine r_iconst (pc := 101) h (v := bI (bsI (rg r1) S true i (y + 1))) d_M_bound_101 (by rw [bsI_t hc, hb82, hb94]; decide) ?_
            refine r_goto (pc := 102) h (tgt := 127) d_M_bound_102 (by decide) ?_
            refine r_istore (pc := 127) h (lv' := [(6, .int (bI (bsI (rg r1) S true i (y + 1)))), (7, .int (nI y)), (5, .int (nI i)), (0, .ref (b 0)), (1, .int (nI t)), (2, .int (nI r1)), (3, .int (nI S)), (4, .int (bI true))]) d_M_bound_127 (by decide) rfl ?_
            refine r_iinc (pc := 129) h (v := nI (y + 1)) (lv' := [(7, .int (nI (y + 1))), (6, .int (bI (bsI (rg r1) S true i (y + 1)))), (5, .int (nI i)), (0, .ref (b 0)), (1, .int (nI t)), (2, .int (nI r1)), (3, .int (nI S)), (4, .int (bI true))]) 1 d_M_bound_129 rfl (nI_inc y) (by decide) rfl ?_
            refine r_goto (pc := 132) h (tgt := 52) d_M_bound_132 (by decide) ?_
            exact ihy
          · have hb94 := bI_T q94
            refine r_iconst (pc := 97) h (v := bI (bsI (rg r1) S true i (y + 1))) d_M_bound_97 (by rw [bsI_t hc, hb82, hb94]; decide) ?_
            refine r_goto (pc := 98) h (tgt := 127) d_M_bound_98 (by decide) ?_
            refine r_istore (pc := 127) h (lv' := [(6, .int (bI (bsI (rg r1) S true i (y + 1)))), (7, .int (nI y)), (5, .int (nI i)), (0, .ref (b 0)), (1, .int (nI t)), (2, .int (nI r1)), (3, .int (nI S)), (4, .int (bI true))]) d_M_bound_127 (by decide) rfl ?_
            refine r_iinc (pc := 129) h (v := nI (y + 1)) (lv' := [(7, .int (nI (y + 1))), (6, .int (bI (bsI (rg r1) S true i (y + 1)))), (5, .int (nI i)), (0, .ref (b 0)), (1, .int (nI t)), (2, .int (nI r1)), (3, .int (nI S)), (4, .int (bI true))]) 1 d_M_bound_129 rfl (nI_inc y) (by decide) rfl ?_
            refine r_goto (pc := 132) h (tgt := 52) d_M_bound_132 (by decide) ?_
            exact ihy
      · have hc : ¬ (i ^^^ y) &&& (S ^^^ 4294967295) = 0 := fun z => q69 (by rw [z]; rfl)
        refine r_goto (pc := 72) h (tgt := 129) d_M_bound_72 (by decide) ?_
        refine Wv.lcl (lv' := [(7, .int (nI y)), (6, .int (bI (bsI (rg r1) S true i (y + 1)))), (5, .int (nI i)), (0, .ref (b 0)), (1, .int (nI t)), (2, .int (nI r1)), (3, .int (nI S)), (4, .int (bI true))]) (by rw [bsI_0 hc]) ?_
        refine r_iinc (pc := 129) h (v := nI (y + 1)) (lv' := [(7, .int (nI (y + 1))), (6, .int (bI (bsI (rg r1) S true i (y + 1)))), (5, .int (nI i)), (0, .ref (b 0)), (1, .int (nI t)), (2, .int (nI r1)), (3, .int (nI S)), (4, .int (bI true))]) 0 d_M_bound_129 rfl (nI_inc y) (by decide) rfl ?_
        refine r_goto (pc := 132) h (tgt := 52) d_M_bound_132 (by decide) ?_
        exact ihy
theorem m_bound_false (t : Nat) (ht : t < 16) (r1 S : Nat) (h1 : r1 < 16) (hS : S < 1024) : Ct l y_M_bound (.code y_M_bound b_M_bound 8 none :: TT) (rmF 2 61) G [.ref (b 0), .int (nI t), .int (nI r1), .int (nI S), .int (bI false)] (mw G b th rg wk fi fa) none (mw G b (bI false) (va_up rg t (mix 1024 (mix 1024 (fun x => bsI (rg r1) S false x 1024) wk) (rg t))) (mix 1024 (fun x => bsI (rg r1) S false x 1024) wk) fi fa) := by
  refine ct_intro (cc := b_M_bound) (nL := 8) (by decide) [(0, .ref (b 0)), (1, .int (nI t)), (2, .int (nI r1)), (3, .int (nI S)), (4, .int (bI false))] rfl (Nat.le_of_ble_eq_true rfl) ?_
  intro p e s m below meth c A h hr
  refine r_aload_n (pc := 0) h 0 d_M_bound_0 rfl rfl ?_
  refine r_iload_n (pc := 1) h 1 d_M_bound_1 rfl rfl ?_
  refine r_invSa (pc := 2) h (st := [.ref (b 0)]) d_M_bound_2 (c_none_f t ht) (r_cS h wc_M_none w_378 w_3 w_379 hd_M_none ⟨(Nat.le_of_ble_eq_true rfl), (Nat.le_of_ble_eq_true rfl)⟩ rfl rfl) rfl rfl (Nat.le_of_ble_eq_true rfl) ⟨(Nat.le_of_ble_eq_true rfl), (Nat.le_of_ble_eq_true rfl)⟩ rfl ?_
  refine r_if_ne_f (pc := 5) h (tgt := 22) d_M_bound_5 (by decide) rfl ?_
  refine r_iload_n (pc := 8) h 2 d_M_bound_8 rfl rfl ?_
  refine r_invSa (pc := 9) h (st := [.ref (b 0)]) d_M_bound_9 (c_none_f r1 h1) (r_cS h wc_M_none w_378 w_3 w_379 hd_M_none ⟨(Nat.le_of_ble_eq_true rfl), (Nat.le_of_ble_eq_true rfl)⟩ rfl rfl) rfl rfl (Nat.le_of_ble_eq_true rfl) ⟨(Nat.le_of_ble_eq_true rfl), (Nat.le_of_ble_eq_true rfl)⟩ rfl ?_
  refine r_if_ne_f (pc := 12) h (tgt := 22) d_M_bound_12 (by decide) rfl ?_
  refine r_iload_n (pc := 15) h 3 d_M_bound_15 rfl rfl ?_
  refine r_invSa (pc := 16) h (st := [.ref (b 0)]) d_M_bound_16 (c_beyond_f S hS) (r_cS h wc_M_beyond w_392 w_3 w_393 hd_M_beyond ⟨(Nat.le_of_ble_eq_true rfl), (Nat.le_of_ble_eq_true rfl)⟩ rfl rfl) rfl rfl (Nat.le_of_ble_eq_true rfl) ⟨(Nat.le_of_ble_eq_true rfl), (Nat.le_of_ble_eq_true rfl)⟩ rfl ?_
  refine r_if_eq_t (pc := 19) h (tgt := 26) d_M_bound_19 (by decide) rfl ?_
  refine r_iconst (pc := 26) h (v := bI false) d_M_bound_26 (by decide) ?_
  refine r_invVa (pc := 27) h 0 (st := []) d_M_bound_27 c_bad_false (r_cV h wc_M_bad w_384 w_3 w_386 (TT_se (q := (y_M_bad, 5)) 10 rfl) hd_M_bad ⟨(Nat.le_of_ble_eq_true rfl), (Nat.le_of_ble_eq_true rfl)⟩ rfl rfl) mw_0 rfl rfl rfl (Nat.le_of_ble_eq_true rfl) ⟨(Nat.le_of_ble_eq_true rfl), (Nat.le_of_ble_eq_true rfl)⟩ mw_adr ?_
  refine r_if_eq_t (pc := 30) h (tgt := 34) d_M_bound_30 (by decide) rfl ?_
  refine r_iconst (pc := 34) h (v := nI 0) d_M_bound_34 (by decide) ?_
  refine r_istore (pc := 35) h (lv' := [(5, .int (nI 0)), (0, .ref (b 0)), (1, .int (nI t)), (2, .int (nI r1)), (3, .int (nI S)), (4, .int (bI false))]) d_M_bound_35 (by decide) rfl ?_
  refine Wv.wld (ws' := (mw G b (bI false) rg (mix 0 (fun x => bsI (rg r1) S false x 1024) wk) fi fa)) (by rw [mix_0]) ?_
  refine Wv.loop 1024 (fun i => (mw G b (bI false) rg (mix i (fun x => bsI (rg r1) S false x 1024) wk) fi fa)) (fun i => [(5, .int (nI i)), (0, .ref (b 0)), (1, .int (nI t)), (2, .int (nI r1)), (3, .int (nI S)), (4, .int (bI false))]) ?_ ?_
  · show Wv p l e _ s m _ below meth c G A _ _ _ _ (mw G b (bI false) rg (mix 1024 (fun x => bsI (rg r1) S false x 1024) wk) fi fa) 37 [(5, .int (nI 1024)), (0, .ref (b 0)), (1, .int (nI t)), (2, .int (nI r1)), (3, .int (nI S)), (4, .int (bI false))] []
    refine r_iload (pc := 37) h 0 d_M_bound_37 rfl ?_
    refine r_sipush (pc := 39) h (v := nI 1024) d_M_bound_39 (by decide) ?_
    refine r_icmp_ge_t (pc := 42) h (tgt := 150) d_M_bound_42 (by decide) (nI_le (Nat.le_refl _) (by decide)) ?_
    refine r_aload_n (pc := 150) h 1 d_M_bound_150 rfl rfl ?_
    refine r_iload_n (pc := 151) h 2 d_M_bound_151 rfl rfl ?_
    refine r_invVv (pc := 152) h 0 (st := []) d_M_bound_152 (c_keep t ht) (r_cV h wc_M_keep w_399 w_3 w_401 (TT_se (q := (y_M_keep, 5)) 11 rfl) hd_M_keep ⟨(Nat.le_of_ble_eq_true rfl), (Nat.le_of_ble_eq_true rfl)⟩ rfl rfl) mw_0 rfl rfl rfl (Nat.le_of_ble_eq_true rfl) ⟨(Nat.le_of_ble_eq_true rfl), (Nat.le_of_ble_eq_true rfl)⟩ mw_adr ?_
    exact r_vret (pc := 155) h hr d_M_bound_155
  · intro i hi ih
    have ih : Wv p l e _ s m _ below meth c G A _ _ _ _ (mw G b (bI false) rg (mix (i + 1) (fun x => bsI (rg r1) S false x 1024) wk) fi fa) 37 [(5, .int (nI (i + 1))), (0, .ref (b 0)), (1, .int (nI t)), (2, .int (nI r1)), (3, .int (nI S)), (4, .int (bI false))] [] := ih
    show Wv p l e _ s m _ below meth c G A _ _ _ _ (mw G b (bI false) rg (mix i (fun x => bsI (rg r1) S false x 1024) wk) fi fa) 37 [(5, .int (nI i)), (0, .ref (b 0)), (1, .int (nI t)), (2, .int (nI r1)), (3, .int (nI S)), (4, .int (bI false))] []
    refine r_iload (pc := 37) h 0 d_M_bound_37 rfl ?_
    refine r_sipush (pc := 39) h (v := nI 1024) d_M_bound_39 (by decide) ?_
    refine r_icmp_ge_f (pc := 42) h (tgt := 150) d_M_bound_42 (by decide) (nI_ge hi (by decide)) ?_
    refine r_iload (pc := 45) h 5 d_M_bound_45 rfl ?_
    refine r_istore (pc := 47) h (lv' := [(6, .int (bI false)), (5, .int (nI i)), (0, .ref (b 0)), (1, .int (nI t)), (2, .int (nI r1)), (3, .int (nI S)), (4, .int (bI false))]) d_M_bound_47 (by decide) rfl ?_
    refine r_iconst (pc := 49) h (v := nI 0) d_M_bound_49 (by decide) ?_
    refine r_istore (pc := 50) h (lv' := [(7, .int (nI 0)), (6, .int (bI false)), (5, .int (nI i)), (0, .ref (b 0)), (1, .int (nI t)), (2, .int (nI r1)), (3, .int (nI S)), (4, .int (bI false))]) d_M_bound_50 (by decide) rfl ?_
    refine Wv.lcl (lv' := [(7, .int (nI 0)), (6, .int (bI (bsI (rg r1) S false i 0))), (5, .int (nI i)), (0, .ref (b 0)), (1, .int (nI t)), (2, .int (nI r1)), (3, .int (nI S)), (4, .int (bI false))]) rfl ?_
    refine Wv.loop 1024 (fun y => (mw G b (bI false) rg (mix i (fun x => bsI (rg r1) S false x 1024) wk) fi fa)) (fun y => [(7, .int (nI y)), (6, .int (bI (bsI (rg r1) S false i y))), (5, .int (nI i)), (0, .ref (b 0)), (1, .int (nI t)), (2, .int (nI r1)), (3, .int (nI S)), (4, .int (bI false))]) ?_ ?_
    · show Wv p l e _ s m _ below meth c G A _ _ _ _ (mw G b (bI false) rg (mix i (fun x => bsI (rg r1) S false x 1024) wk) fi fa) 52 [(7, .int (nI 1024)), (6, .int (bI (bsI (rg r1) S false i 1024))), (5, .int (nI i)), (0, .ref (b 0)), (1, .int (nI t)), (2, .int (nI r1)), (3, .int (nI S)), (4, .int (bI false))] []
      refine r_iload (pc := 52) h 0 d_M_bound_52 rfl ?_
      refine r_sipush (pc := 54) h (v := nI 1024) d_M_bound_54 (by decide) ?_
      refine r_icmp_ge_t (pc := 57) h (tgt := 135) d_M_bound_57 (by decide) (nI_le (Nat.le_refl _) (by decide)) ?_
      refine r_aload_n (pc := 135) h 3 d_M_bound_135 rfl rfl ?_
      refine r_get (pc := 136) h 0 2 d_M_bound_136 mw_0 rfl (by decide) in_M (List.mem_cons_of_mem _ w_355) rfl ?_
      refine r_iload (pc := 139) h 2 d_M_bound_139 rfl ?_
      refine r_iload (pc := 141) h 1 d_M_bound_141 rfl ?_
      refine r_bastore (pc := 143) h 2 (ws' := (mw G b (bI false) rg (mix (i + 1) (fun x => bsI (rg r1) S false x 1024) wk) fi fa)) i d_M_bound_143 mw_2 rfl hi (by decide) (bI_nar _) (by rw [upd_b, mix_up i (fun x => bsI (rg r1) S false x 1024) wk]; exact mw_s2) ?_
      refine r_iinc (pc := 144) h (v := nI (i + 1)) (lv' := [(5, .int (nI (i + 1))), (7, .int (nI 1024)), (6, .int (bI (bsI (rg r1) S false i 1024))), (0, .ref (b 0)), (1, .int (nI t)), (2, .int (nI r1)), (3, .int (nI S)), (4, .int (bI false))]) 2 d_M_bound_144 rfl (nI_inc i) (by decide) rfl ?_
      refine r_goto (pc := 147) h (tgt := 37) d_M_bound_147 (by decide) ?_
      refine Wv.sub [0, 3, 4, 5, 6, 7] rfl ?_
      exact ih
    · intro y hy ihy
      have ihy : Wv p l e _ s m _ below meth c G A _ _ _ _ (mw G b (bI false) rg (mix i (fun x => bsI (rg r1) S false x 1024) wk) fi fa) 52 [(7, .int (nI (y + 1))), (6, .int (bI (bsI (rg r1) S false i (y + 1)))), (5, .int (nI i)), (0, .ref (b 0)), (1, .int (nI t)), (2, .int (nI r1)), (3, .int (nI S)), (4, .int (bI false))] [] := ihy
      show Wv p l e _ s m _ below meth c G A _ _ _ _ (mw G b (bI false) rg (mix i (fun x => bsI (rg r1) S false x 1024) wk) fi fa) 52 [(7, .int (nI y)), (6, .int (bI (bsI (rg r1) S false i y))), (5, .int (nI i)), (0, .ref (b 0)), (1, .int (nI t)), (2, .int (nI r1)), (3, .int (nI S)), (4, .int (bI false))] []
      refine r_iload (pc := 52) h 0 d_M_bound_52 rfl ?_
      refine r_sipush (pc := 54) h (v := nI 1024) d_M_bound_54 (by decide) ?_
      refine r_icmp_ge_f (pc := 57) h (tgt := 135) d_M_bound_57 (by decide) (nI_ge hy (by decide)) ?_
      refine r_iload (pc := 60) h 2 d_M_bound_60 rfl ?_
      refine r_iload (pc := 62) h 0 d_M_bound_62 rfl ?_
      refine r_ixor (pc := 64) h (z := nI (i ^^^ y)) d_M_bound_64 (nx_xor _ _) ?_
      refine r_iload_n (pc := 65) h 6 d_M_bound_65 rfl rfl ?_
      refine r_iconst (pc := 66) h (v := (-1)) d_M_bound_66 (by decide) ?_
      refine r_ixor (pc := 67) h (z := nI (S ^^^ 4294967295)) d_M_bound_67 (by rw [nx_m1, nx_xor]) ?_
      refine r_iand (pc := 68) h (z := nI ((i ^^^ y) &&& (S ^^^ 4294967295))) d_M_bound_68 (nx_and _ _) ?_
      have hlt9 : (i ^^^ y) &&& (S ^^^ 4294967295) < 2 ^ 31 := Nat.lt_of_le_of_lt Nat.and_le_left (Nat.lt_trans (Nat.xor_lt_two_pow (n := 10) hi hy) (by decide))
      refine r_if_eq (pc := 69) h (tgt := 75) d_M_bound_69 (by decide) (fun q69 => ?_) (fun q69 => ?_)
      · have hc : (i ^^^ y) &&& (S ^^^ 4294967295) = 0 := (nI_eq hlt9 (by decide)).mp q69
        refine r_iload (pc := 75) h 7 d_M_bound_75 rfl ?_
        refine r_if_eq_t (pc := 77) h (tgt := 105) d_M_bound_77 (by decide) rfl ?_
        refine r_iload (pc := 105) h 1 d_M_bound_105 rfl ?_
        refine r_if_ne (pc := 107) h (tgt := 122) d_M_bound_107 (by decide) (fun q107 => ?_) (fun q107 => ?_)
        · have hb107 := bI_T q107
          refine r_iconst (pc := 122) h (v := bI (bsI (rg r1) S false i (y + 1))) d_M_bound_122 (by rw [bsI_f hc, hb107]; cases rg r1 y <;> decide) ?_
          refine r_goto (pc := 123) h (tgt := 127) d_M_bound_123 (by decide) ?_
          refine r_istore (pc := 127) h (lv' := [(6, .int (bI (bsI (rg r1) S false i (y + 1)))), (7, .int (nI y)), (5, .int (nI i)), (0, .ref (b 0)), (1, .int (nI t)), (2, .int (nI r1)), (3, .int (nI S)), (4, .int (bI false))]) d_M_bound_127 (by decide) rfl ?_
          refine r_iinc (pc := 129) h (v := nI (y + 1)) (lv' := [(7, .int (nI (y + 1))), (6, .int (bI (bsI (rg r1) S false i (y + 1)))), (5, .int (nI i)), (0, .ref (b 0)), (1, .int (nI t)), (2, .int (nI r1)), (3, .int (nI S)), (4, .int (bI false))]) 1 d_M_bound_129 rfl (nI_inc y) (by decide) rfl ?_
          refine r_goto (pc := 132) h (tgt := 52) d_M_bound_132 (by decide) ?_
          exact ihy
        · have hb107 := bI_F q107
          refine r_aload_n (pc := 110) h 3 d_M_bound_110 rfl rfl ?_
          refine r_get (pc := 111) h 0 1 d_M_bound_111 mw_0 rfl (by decide) in_M (List.mem_cons_of_mem _ w_354) rfl ?_
          refine r_iload_n (pc := 114) h 5 d_M_bound_114 rfl rfl ?_
          refine r_aaload (pc := 115) h 1 4 r1 d_M_bound_115 mw_1 rfl rfl rfl h1 (by decide) (mw_o h1) ?_
          refine r_iload (pc := 116) h 0 d_M_bound_116 rfl ?_
          refine r_baload (pc := 118) h (5 + r1) (z := bI (rg r1 y)) y d_M_bound_118 (mw_r h1) rfl hy (by decide) rfl ?_
          refine r_if_eq (pc := 119) h (tgt := 126) d_M_bound_119 (by decide) (fun q119 => ?_) (fun q119 => ?_)
          · have hb119 := bI_F q119
            refine r_iconst (pc := 126) h (v := bI (bsI (rg r1) S false i (y + 1))) d_M_bound_126 (by rw [bsI_f hc, hb107, hb119]; decide) ?_
            refine r_istore (pc := 127) h (lv' := [(6, .int (bI (bsI (rg r1) S false i (y + 1)))), (7, .int (nI y)), (5, .int (nI i)), (0, .ref (b 0)), (1, .int (nI t)), (2, .int (nI r1)), (3, .int (nI S)), (4, .int (bI false))]) d_M_bound_127 (by decide) rfl ?_
            refine r_iinc (pc := 129) h (v := nI (y + 1)) (lv' := [(7, .int (nI (y + 1))), (6, .int (bI (bsI (rg r1) S false i (y + 1)))), (5, .int (nI i)), (0, .ref (b 0)), (1, .int (nI t)), (2, .int (nI r1)), (3, .int (nI S)), (4, .int (bI false))]) 1 d_M_bound_129 rfl (nI_inc y) (by decide) rfl ?_
            refine r_goto (pc := 132) h (tgt := 52) d_M_bound_132 (by decide) ?_
            exact ihy
          · have hb119 := bI_T q119
            refine r_iconst (pc := 122) h (v := bI (bsI (rg r1) S false i (y + 1))) d_M_bound_122 (by rw [bsI_f hc, hb107, hb119]; decide) ?_
            refine r_goto (pc := 123) h (tgt := 127) d_M_bound_123 (by decide) ?_
            refine r_istore (pc := 127) h (lv' := [(6, .int (bI (bsI (rg r1) S false i (y + 1)))), (7, .int (nI y)), (5, .int (nI i)), (0, .ref (b 0)), (1, .int (nI t)), (2, .int (nI r1)), (3, .int (nI S)), (4, .int (bI false))]) d_M_bound_127 (by decide) rfl ?_
            refine r_iinc (pc := 129) h (v := nI (y + 1)) (lv' := [(7, .int (nI (y + 1))), (6, .int (bI (bsI (rg r1) S false i (y + 1)))), (5, .int (nI i)), (0, .ref (b 0)), (1, .int (nI t)), (2, .int (nI r1)), (3, .int (nI S)), (4, .int (bI false))]) 1 d_M_bound_129 rfl (nI_inc y) (by decide) rfl ?_
            refine r_goto (pc := 132) h (tgt := 52) d_M_bound_132 (by decide) ?_
            exact ihy
      · have hc : ¬ (i ^^^ y) &&& (S ^^^ 4294967295) = 0 := fun z => q69 (by rw [z]; rfl)
        refine r_goto (pc := 72) h (tgt := 129) d_M_bound_72 (by decide) ?_
        refine Wv.lcl (lv' := [(7, .int (nI y)), (6, .int (bI (bsI (rg r1) S false i (y + 1)))), (5, .int (nI i)), (0, .ref (b 0)), (1, .int (nI t)), (2, .int (nI r1)), (3, .int (nI S)), (4, .int (bI false))]) (by rw [bsI_0 hc]) ?_
        refine r_iinc (pc := 129) h (v := nI (y + 1)) (lv' := [(7, .int (nI (y + 1))), (6, .int (bI (bsI (rg r1) S false i (y + 1)))), (5, .int (nI i)), (0, .ref (b 0)), (1, .int (nI t)), (2, .int (nI r1)), (3, .int (nI S)), (4, .int (bI false))]) 0 d_M_bound_129 rfl (nI_inc y) (by decide) rfl ?_
        refine r_goto (pc := 132) h (tgt := 52) d_M_bound_132 (by decide) ?_
        exact ihy
theorem x_bound (t r1 S : Int32) (z : Int32) (hB : ¬ (okR 16 t ∧ okR 16 r1 ∧ okR 1024 S)) : Ct l y_M_bound (.code y_M_bound b_M_bound 8 none :: TT) (rmF 2 61) G [.ref (b 0), .int t, .int r1, .int S, .int z] (mw G b th rg wk fi fa) none (mw G b (bI true) rg wk fi fa) := by
  refine ct_intro (cc := b_M_bound) (nL := 8) (by decide) [(0, .ref (b 0)), (1, .int t), (2, .int r1), (3, .int S), (4, .int z)] rfl (Nat.le_of_ble_eq_true rfl) ?_
  intro p e s m below meth c A h hr
  refine r_aload_n (pc := 0) h 0 d_M_bound_0 rfl rfl ?_
  refine r_iload_n (pc := 1) h 1 d_M_bound_1 rfl rfl ?_
  rcases pk_ix t (n := 16) (by decide) with hN | hN | ⟨j2, hj2, hN2⟩
  · refine r_invSa (pc := 2) h (st := [.ref (b 0)]) d_M_bound_2 (c_none_t t (Or.inl hN)) (r_cS h wc_M_none w_378 w_3 w_379 hd_M_none ⟨(Nat.le_of_ble_eq_true rfl), (Nat.le_of_ble_eq_true rfl)⟩ rfl rfl) rfl rfl (Nat.le_of_ble_eq_true rfl) ⟨(Nat.le_of_ble_eq_true rfl), (Nat.le_of_ble_eq_true rfl)⟩ rfl ?_
    refine r_if_ne_t (pc := 5) h (tgt := 22) d_M_bound_5 (by decide) (by decide) ?_
    refine r_iconst (pc := 22) h (v := bI true) d_M_bound_22 (by decide) ?_
    refine r_goto (pc := 23) h (tgt := 27) d_M_bound_23 (by decide) ?_
    refine r_invVa (pc := 27) h 0 (st := []) d_M_bound_27 c_bad_true (r_cV h wc_M_bad w_384 w_3 w_386 (TT_se (q := (y_M_bad, 5)) 10 rfl) hd_M_bad ⟨(Nat.le_of_ble_eq_true rfl), (Nat.le_of_ble_eq_true rfl)⟩ rfl rfl) mw_0 rfl rfl rfl (Nat.le_of_ble_eq_true rfl) ⟨(Nat.le_of_ble_eq_true rfl), (Nat.le_of_ble_eq_true rfl)⟩ mw_adr ?_
    refine r_if_eq_f (pc := 30) h (tgt := 34) d_M_bound_30 (by decide) (by decide) ?_
    exact r_vret (pc := 33) h hr d_M_bound_33
  · refine r_invSa (pc := 2) h (st := [.ref (b 0)]) d_M_bound_2 (c_none_t t (Or.inr hN)) (r_cS h wc_M_none w_378 w_3 w_379 hd_M_none ⟨(Nat.le_of_ble_eq_true rfl), (Nat.le_of_ble_eq_true rfl)⟩ rfl rfl) rfl rfl (Nat.le_of_ble_eq_true rfl) ⟨(Nat.le_of_ble_eq_true rfl), (Nat.le_of_ble_eq_true rfl)⟩ rfl ?_
    refine r_if_ne_t (pc := 5) h (tgt := 22) d_M_bound_5 (by decide) (by decide) ?_
    refine r_iconst (pc := 22) h (v := bI true) d_M_bound_22 (by decide) ?_
    refine r_goto (pc := 23) h (tgt := 27) d_M_bound_23 (by decide) ?_
    refine r_invVa (pc := 27) h 0 (st := []) d_M_bound_27 c_bad_true (r_cV h wc_M_bad w_384 w_3 w_386 (TT_se (q := (y_M_bad, 5)) 10 rfl) hd_M_bad ⟨(Nat.le_of_ble_eq_true rfl), (Nat.le_of_ble_eq_true rfl)⟩ rfl rfl) mw_0 rfl rfl rfl (Nat.le_of_ble_eq_true rfl) ⟨(Nat.le_of_ble_eq_true rfl), (Nat.le_of_ble_eq_true rfl)⟩ mw_adr ?_
    refine r_if_eq_f (pc := 30) h (tgt := 34) d_M_bound_30 (by decide) (by decide) ?_
    exact r_vret (pc := 33) h hr d_M_bound_33
  · subst hN2
    refine r_invSa (pc := 2) h (st := [.ref (b 0)]) d_M_bound_2 (c_none_f j2 hj2) (r_cS h wc_M_none w_378 w_3 w_379 hd_M_none ⟨(Nat.le_of_ble_eq_true rfl), (Nat.le_of_ble_eq_true rfl)⟩ rfl rfl) rfl rfl (Nat.le_of_ble_eq_true rfl) ⟨(Nat.le_of_ble_eq_true rfl), (Nat.le_of_ble_eq_true rfl)⟩ rfl ?_
    refine r_if_ne_f (pc := 5) h (tgt := 22) d_M_bound_5 (by decide) rfl ?_
    refine r_iload_n (pc := 8) h 2 d_M_bound_8 rfl rfl ?_
    rcases pk_ix r1 (n := 16) (by decide) with hN | hN | ⟨j9, hj9, hN9⟩
    · refine r_invSa (pc := 9) h (st := [.ref (b 0)]) d_M_bound_9 (c_none_t r1 (Or.inl hN)) (r_cS h wc_M_none w_378 w_3 w_379 hd_M_none ⟨(Nat.le_of_ble_eq_true rfl), (Nat.le_of_ble_eq_true rfl)⟩ rfl rfl) rfl rfl (Nat.le_of_ble_eq_true rfl) ⟨(Nat.le_of_ble_eq_true rfl), (Nat.le_of_ble_eq_true rfl)⟩ rfl ?_
      refine r_if_ne_t (pc := 12) h (tgt := 22) d_M_bound_12 (by decide) (by decide) ?_
      refine r_iconst (pc := 22) h (v := bI true) d_M_bound_22 (by decide) ?_
      refine r_goto (pc := 23) h (tgt := 27) d_M_bound_23 (by decide) ?_
      refine r_invVa (pc := 27) h 0 (st := []) d_M_bound_27 c_bad_true (r_cV h wc_M_bad w_384 w_3 w_386 (TT_se (q := (y_M_bad, 5)) 10 rfl) hd_M_bad ⟨(Nat.le_of_ble_eq_true rfl), (Nat.le_of_ble_eq_true rfl)⟩ rfl rfl) mw_0 rfl rfl rfl (Nat.le_of_ble_eq_true rfl) ⟨(Nat.le_of_ble_eq_true rfl), (Nat.le_of_ble_eq_true rfl)⟩ mw_adr ?_
      refine r_if_eq_f (pc := 30) h (tgt := 34) d_M_bound_30 (by decide) (by decide) ?_
      exact r_vret (pc := 33) h hr d_M_bound_33
    · refine r_invSa (pc := 9) h (st := [.ref (b 0)]) d_M_bound_9 (c_none_t r1 (Or.inr hN)) (r_cS h wc_M_none w_378 w_3 w_379 hd_M_none ⟨(Nat.le_of_ble_eq_true rfl), (Nat.le_of_ble_eq_true rfl)⟩ rfl rfl) rfl rfl (Nat.le_of_ble_eq_true rfl) ⟨(Nat.le_of_ble_eq_true rfl), (Nat.le_of_ble_eq_true rfl)⟩ rfl ?_
      refine r_if_ne_t (pc := 12) h (tgt := 22) d_M_bound_12 (by decide) (by decide) ?_
      refine r_iconst (pc := 22) h (v := bI true) d_M_bound_22 (by decide) ?_
      refine r_goto (pc := 23) h (tgt := 27) d_M_bound_23 (by decide) ?_
      refine r_invVa (pc := 27) h 0 (st := []) d_M_bound_27 c_bad_true (r_cV h wc_M_bad w_384 w_3 w_386 (TT_se (q := (y_M_bad, 5)) 10 rfl) hd_M_bad ⟨(Nat.le_of_ble_eq_true rfl), (Nat.le_of_ble_eq_true rfl)⟩ rfl rfl) mw_0 rfl rfl rfl (Nat.le_of_ble_eq_true rfl) ⟨(Nat.le_of_ble_eq_true rfl), (Nat.le_of_ble_eq_true rfl)⟩ mw_adr ?_
      refine r_if_eq_f (pc := 30) h (tgt := 34) d_M_bound_30 (by decide) (by decide) ?_
      exact r_vret (pc := 33) h hr d_M_bound_33
    · subst hN9
      refine r_invSa (pc := 9) h (st := [.ref (b 0)]) d_M_bound_9 (c_none_f j9 hj9) (r_cS h wc_M_none w_378 w_3 w_379 hd_M_none ⟨(Nat.le_of_ble_eq_true rfl), (Nat.le_of_ble_eq_true rfl)⟩ rfl rfl) rfl rfl (Nat.le_of_ble_eq_true rfl) ⟨(Nat.le_of_ble_eq_true rfl), (Nat.le_of_ble_eq_true rfl)⟩ rfl ?_
      refine r_if_ne_f (pc := 12) h (tgt := 22) d_M_bound_12 (by decide) rfl ?_
      refine r_iload_n (pc := 15) h 3 d_M_bound_15 rfl rfl ?_
      rcases pk_ix S (n := 1024) (by decide) with hN | hN | ⟨j16, hj16, hN16⟩
      · refine r_invSa (pc := 16) h (st := [.ref (b 0)]) d_M_bound_16 (c_beyond_t S (Or.inl hN)) (r_cS h wc_M_beyond w_392 w_3 w_393 hd_M_beyond ⟨(Nat.le_of_ble_eq_true rfl), (Nat.le_of_ble_eq_true rfl)⟩ rfl rfl) rfl rfl (Nat.le_of_ble_eq_true rfl) ⟨(Nat.le_of_ble_eq_true rfl), (Nat.le_of_ble_eq_true rfl)⟩ rfl ?_
        refine r_if_eq_f (pc := 19) h (tgt := 26) d_M_bound_19 (by decide) (by decide) ?_
        refine r_iconst (pc := 22) h (v := bI true) d_M_bound_22 (by decide) ?_
        refine r_goto (pc := 23) h (tgt := 27) d_M_bound_23 (by decide) ?_
        refine r_invVa (pc := 27) h 0 (st := []) d_M_bound_27 c_bad_true (r_cV h wc_M_bad w_384 w_3 w_386 (TT_se (q := (y_M_bad, 5)) 10 rfl) hd_M_bad ⟨(Nat.le_of_ble_eq_true rfl), (Nat.le_of_ble_eq_true rfl)⟩ rfl rfl) mw_0 rfl rfl rfl (Nat.le_of_ble_eq_true rfl) ⟨(Nat.le_of_ble_eq_true rfl), (Nat.le_of_ble_eq_true rfl)⟩ mw_adr ?_
        refine r_if_eq_f (pc := 30) h (tgt := 34) d_M_bound_30 (by decide) (by decide) ?_
        exact r_vret (pc := 33) h hr d_M_bound_33
      · refine r_invSa (pc := 16) h (st := [.ref (b 0)]) d_M_bound_16 (c_beyond_t S (Or.inr hN)) (r_cS h wc_M_beyond w_392 w_3 w_393 hd_M_beyond ⟨(Nat.le_of_ble_eq_true rfl), (Nat.le_of_ble_eq_true rfl)⟩ rfl rfl) rfl rfl (Nat.le_of_ble_eq_true rfl) ⟨(Nat.le_of_ble_eq_true rfl), (Nat.le_of_ble_eq_true rfl)⟩ rfl ?_
        refine r_if_eq_f (pc := 19) h (tgt := 26) d_M_bound_19 (by decide) (by decide) ?_
        refine r_iconst (pc := 22) h (v := bI true) d_M_bound_22 (by decide) ?_
        refine r_goto (pc := 23) h (tgt := 27) d_M_bound_23 (by decide) ?_
        refine r_invVa (pc := 27) h 0 (st := []) d_M_bound_27 c_bad_true (r_cV h wc_M_bad w_384 w_3 w_386 (TT_se (q := (y_M_bad, 5)) 10 rfl) hd_M_bad ⟨(Nat.le_of_ble_eq_true rfl), (Nat.le_of_ble_eq_true rfl)⟩ rfl rfl) mw_0 rfl rfl rfl (Nat.le_of_ble_eq_true rfl) ⟨(Nat.le_of_ble_eq_true rfl), (Nat.le_of_ble_eq_true rfl)⟩ mw_adr ?_
        refine r_if_eq_f (pc := 30) h (tgt := 34) d_M_bound_30 (by decide) (by decide) ?_
        exact r_vret (pc := 33) h hr d_M_bound_33
      · exfalso
        exact hB ⟨⟨j2, hj2, rfl⟩, ⟨j9, hj9, rfl⟩, ⟨j16, hj16, hN16⟩⟩
end MQ3
