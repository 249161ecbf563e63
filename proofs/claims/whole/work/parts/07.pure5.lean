-- bound: all, or some, of those that differ in the set alone
def bd (S : Nat → Bool) (set : Nat) (every : Bool) : Nat → Nat → Bool
  | 0, x => S x
  | v + 1, x => if set.testBit v = true then (if every = true then bd S set every v x && bd S set every v (x ^^^ 2 ^ v) else bd S set every v x || bd S set every v (x ^^^ 2 ^ v)) else bd S set every v x
/-- x and y differ in members of the set below v alone -/
def dfr (set v x y : Nat) : Prop := ∀ j, x.testBit j ≠ y.testBit j → j < v ∧ set.testBit j = true
theorem dfr_0 {set x y : Nat} : dfr set 0 x y ↔ x = y := by
  constructor
  · intro h
    apply Nat.eq_of_testBit_eq
    intro i
    apply Classical.byContradiction
    intro q
    have := (h i q).1
    omega
  · rintro rfl j hj
    exact absurd rfl hj
theorem dfr_s1 {set v x y : Nat} (hs : set.testBit v = true) : dfr set (v + 1) x y ↔ dfr set v x y ∨ dfr set v (x ^^^ 2 ^ v) y := by
  constructor
  · intro h
    by_cases hv : x.testBit v = y.testBit v
    · left
      intro j hj
      have h1 := h j hj
      refine ⟨?_, h1.2⟩
      have : j ≠ v := fun e => hj (by rw [e]; exact hv)
      omega
    · right
      intro j hj
      rw [Nat.testBit_xor, Nat.testBit_two_pow] at hj
      by_cases e : v = j
      · subst e
        exfalso
        apply hj
        cases hx : x.testBit v <;> cases hy : y.testBit v <;> simp_all
      · simp only [e, decide_false, Bool.xor_false] at hj
        have h1 := h j hj
        exact ⟨by omega, h1.2⟩
  · rintro (h | h)
    · intro j hj
      have h1 := h j hj
      exact ⟨by omega, h1.2⟩
    · intro j hj
      by_cases e : v = j
      · subst e
        exact ⟨by omega, hs⟩
      · have h1 := h j (by rw [Nat.testBit_xor, Nat.testBit_two_pow]; simp only [e, decide_false, Bool.xor_false]; exact hj)
        exact ⟨by omega, h1.2⟩
theorem dfr_s0 {set v x y : Nat} (hs : ¬ set.testBit v = true) : dfr set (v + 1) x y ↔ dfr set v x y := by
  constructor
  · intro h j hj
    have h1 := h j hj
    refine ⟨?_, h1.2⟩
    have : j ≠ v := fun e => hs (by rw [← e]; exact h1.2)
    omega
  · intro h j hj
    have h1 := h j hj
    exact ⟨by omega, h1.2⟩
theorem bd_all {S : Nat → Bool} {set : Nat} : ∀ v x, bd S set true v x = true ↔ ∀ y, dfr set v x y → S y = true
  | 0, x => by
    show S x = true ↔ _
    constructor
    · intro h y hy
      rw [← dfr_0.mp hy]
      exact h
    · intro h
      exact h x (dfr_0.mpr rfl)
  | v + 1, x => by
    show (if set.testBit v = true then (if true = true then bd S set true v x && bd S set true v (x ^^^ 2 ^ v) else _) else bd S set true v x) = true ↔ _
    by_cases hs : set.testBit v = true
    · rw [if_pos hs, if_pos rfl, Bool.and_eq_true, bd_all v x, bd_all v (x ^^^ 2 ^ v)]
      constructor
      · rintro ⟨h1, h2⟩ y hy
        rcases (dfr_s1 hs).mp hy with h | h
        · exact h1 y h
        · exact h2 y h
      · intro h
        exact ⟨fun y hy => h y ((dfr_s1 hs).mpr (Or.inl hy)), fun y hy => h y ((dfr_s1 hs).mpr (Or.inr hy))⟩
    · rw [if_neg hs, bd_all v x]
      constructor
      · intro h y hy
        exact h y ((dfr_s0 hs).mp hy)
      · intro h y hy
        exact h y ((dfr_s0 hs).mpr hy)
theorem bd_some {S : Nat → Bool} {set : Nat} : ∀ v x, bd S set false v x = true ↔ ∃ y, dfr set v x y ∧ S y = true
  | 0, x => by
    show S x = true ↔ _
    constructor
    · intro h
      exact ⟨x, dfr_0.mpr rfl, h⟩
    · rintro ⟨y, hy, h⟩
      rw [dfr_0.mp hy]
      exact h
  | v + 1, x => by
    show (if set.testBit v = true then (if false = true then _ else bd S set false v x || bd S set false v (x ^^^ 2 ^ v)) else bd S set false v x) = true ↔ _
    by_cases hs : set.testBit v = true
    · rw [if_pos hs, if_neg (by decide), Bool.or_eq_true, bd_some v x, bd_some v (x ^^^ 2 ^ v)]
      constructor
      · rintro (⟨y, h1, h2⟩ | ⟨y, h1, h2⟩)
        · exact ⟨y, (dfr_s1 hs).mpr (Or.inl h1), h2⟩
        · exact ⟨y, (dfr_s1 hs).mpr (Or.inr h1), h2⟩
      · rintro ⟨y, h1, h2⟩
        rcases (dfr_s1 hs).mp h1 with h | h
        · exact Or.inl ⟨y, h, h2⟩
        · exact Or.inr ⟨y, h, h2⟩
    · rw [if_neg hs, bd_some v x]
      constructor
      · rintro ⟨y, h1, h2⟩
        exact ⟨y, (dfr_s0 hs).mpr h1, h2⟩
      · rintro ⟨y, h1, h2⟩
        exact ⟨y, (dfr_s0 hs).mp h1, h2⟩
/-- the reference's condition -/
theorem dfr_ref {set x y : Nat} (hx : x < 1024) (hy : y < 1024) : (x ^^^ y) &&& (set ^^^ 4294967295) = 0 ↔ dfr set 10 x y := by
  have h32 : ∀ i, (4294967295 : Nat).testBit i = decide (i < 32) := fun i => by
    rw [show (4294967295 : Nat) = 2 ^ 32 - 1 from rfl, Nat.testBit_two_pow_sub_one]
  have hlt : ∀ z j : Nat, z < 1024 → 10 ≤ j → z.testBit j = false := fun z j hz hj => Nat.testBit_lt_two_pow (Nat.lt_of_lt_of_le hz (Nat.pow_le_pow_right (n := 2) (by decide) hj))
  constructor
  · intro h j hj
    have h10 : j < 10 := by
      apply Classical.byContradiction
      intro q
      rw [hlt x j hx (by omega), hlt y j hy (by omega)] at hj
      exact hj rfl
    refine ⟨h10, ?_⟩
    have h1 : ((x ^^^ y) &&& (set ^^^ 4294967295)).testBit j = false := by rw [h]; exact Nat.zero_testBit j
    rw [Nat.testBit_and, Nat.testBit_xor, Nat.testBit_xor, h32, decide_eq_true (by omega : j < 32)] at h1
    cases hx9 : x.testBit j <;> cases hy9 : y.testBit j <;> cases hs9 : set.testBit j <;> simp_all
  · intro h
    apply Nat.eq_of_testBit_eq
    intro j
    rw [Nat.zero_testBit, Nat.testBit_and, Nat.testBit_xor, Nat.testBit_xor, h32]
    by_cases q : x.testBit j = y.testBit j
    · simp [q]
    · have h1 := h j q
      rw [h1.2, decide_eq_true (by omega : j < 32)]
      simp
-- swap
/-- the place from which swap reads -/
def swp (x v w : Nat) : Nat := if x.testBit v = x.testBit w then x else (x ^^^ 2 ^ v) ^^^ 2 ^ w
theorem swp_lt {x v w : Nat} (hx : x < 1024) (hv : v < 10) (hw : w < 10) : swp x v w < 1024 := by
  unfold swp
  split
  · exact hx
  · exact Nat.xor_lt_two_pow (n := 10) (Nat.xor_lt_two_pow (n := 10) hx (pw10 v hv)) (pw10 w hw)
theorem swp_ref {x v w : Nat} (hx : x < 1024) (hv : v < 10) (hw : w < 10) : (((x &&& (2 ^ v ^^^ 4294967295)) &&& (2 ^ w ^^^ 4294967295)) ||| (if x.testBit v = true then 2 ^ w else 0)) ||| (if x.testBit w = true then 2 ^ v else 0) = swp x v w := by
  have h32 : ∀ i, (4294967295 : Nat).testBit i = decide (i < 32) := fun i => by
    rw [show (4294967295 : Nat) = 2 ^ 32 - 1 from rfl, Nat.testBit_two_pow_sub_one]
  have hlt : ∀ j : Nat, 10 ≤ j → x.testBit j = false := fun j hj => Nat.testBit_lt_two_pow (Nat.lt_of_lt_of_le hx (Nat.pow_le_pow_right (n := 2) (by decide) hj))
  have hif : ∀ (c : Bool) (k i : Nat), (if c = true then 2 ^ k else 0).testBit i = (c && decide (k = i)) := fun c k i => by
    cases c
    · simp
    · simp [Nat.testBit_two_pow]
  apply Nat.eq_of_testBit_eq
  intro i
  rw [Nat.testBit_or, Nat.testBit_or, Nat.testBit_and, Nat.testBit_and, Nat.testBit_xor, Nat.testBit_xor, Nat.testBit_two_pow, Nat.testBit_two_pow, h32, hif, hif]
  unfold swp
  by_cases hi : i < 32
  · by_cases e1 : v = i
    · subst e1
      by_cases e2 : w = v
      · subst e2
        simp [hi]
      · have e2' : ¬ v = w := fun q => e2 q.symm
        cases hxv : x.testBit v <;> cases hxw : x.testBit w <;> simp [hxv, hxw, e2, e2', hi, Nat.testBit_xor, Nat.testBit_two_pow]
    · by_cases e2 : w = i
      · subst e2
        cases hxv : x.testBit v <;> cases hxw : x.testBit w <;> simp [hxv, hxw, e1, hi, Nat.testBit_xor, Nat.testBit_two_pow]
      · cases hxv : x.testBit v <;> cases hxw : x.testBit w <;> simp [e1, e2, hi, Nat.testBit_xor, Nat.testBit_two_pow]
  · have e1 : ¬ v = i := by omega
    have e2 : ¬ w = i := by omega
    have h0 := hlt i (by omega)
    split <;> simp [h0, e1, e2, Nat.testBit_xor, Nat.testBit_two_pow]
theorem sv_swp {r : Nat → Int64} {v w x : Nat} (hv : v < 10) (hw : w < 10) (hx : x < 1024) : sv (fun j => cW (vW v j ^^^ vW w j) (tW (tW r v) w j) (r j)) x = sv r (swp x v w) := by
  have hx2 : x ^^^ 2 ^ w < 1024 := Nat.xor_lt_two_pow (n := 10) hx (pw10 w hw)
  rw [sv_cW (fun j => vW v j ^^^ vW w j) (tW (tW r v) w) r x, sv_tW hw, sv_tW hv]
  have h1 : sv (fun j => vW v j ^^^ vW w j) x = (x.testBit v ^^ x.testBit w) := by
    rw [← sv_vW hv hx, ← sv_vW hw hx]
    exact lb_xor _ _ _
  rw [h1]
  unfold swp
  rw [Nat.xor_assoc, Nat.xor_comm (2 ^ w) (2 ^ v), ← Nat.xor_assoc]
  cases x.testBit v <;> cases x.testBit w <;> simp
