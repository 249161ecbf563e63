-- the first assignment: the order of first
def tn : Nat → Nat → Nat
  | 0, _ => 0
  | k + 1, x => 2 * tn k x + if x.testBit k = true then 1 else 0
theorem tn_eq {x y : Nat} : ∀ v, (∀ j, j < v → x.testBit j = y.testBit j) → tn v x = tn v y
  | 0, _ => rfl
  | v + 1, h => by
    show 2 * tn v x + (if x.testBit v = true then 1 else 0) = 2 * tn v y + if y.testBit v = true then 1 else 0
    rw [tn_eq v (fun j hj => h j (by omega)), h v (by omega)]
theorem tn_lt {x y v : Nat} (hag : ∀ j, j < v → x.testBit j = y.testBit j) (hx : x.testBit v = false) (hy : y.testBit v = true) : ∀ k, v < k → tn k x < tn k y
  | 0, h => absurd h (by omega)
  | k + 1, h => by
    show 2 * tn k x + (if x.testBit k = true then 1 else 0) < 2 * tn k y + if y.testBit k = true then 1 else 0
    by_cases e : v = k
    · subst e
      rw [tn_eq v hag, hx, hy]
      simp
    · have ih := tn_lt hag hx hy k (by omega)
      split <;> split <;> omega
theorem tn_bd (x : Nat) : ∀ k, tn k x < 2 ^ k
  | 0 => Nat.one_pos
  | k + 1 => by
    have ih := tn_bd x k
    show 2 * tn k x + (if x.testBit k = true then 1 else 0) < 2 ^ (k + 1)
    rw [Nat.pow_succ]
    split <;> omega
/-- the lowest bit where two differ -/
theorem bit_ne {x y : Nat} (hx : x < 1024) (hy : y < 1024) (h : x ≠ y) : ∃ v, v < 10 ∧ (∀ j, j < v → x.testBit j = y.testBit j) ∧ x.testBit v ≠ y.testBit v := by
  have hex : ∃ v, x.testBit v ≠ y.testBit v := by
    apply Classical.byContradiction
    intro hno
    exact h (Nat.eq_of_testBit_eq (fun i => Classical.byContradiction (fun q => hno ⟨i, q⟩)))
  obtain ⟨v, h1, h2⟩ := pk_least _ hex
  refine ⟨v, ?_, fun j hj => Classical.byContradiction (fun q => h2 j hj q), h1⟩
  apply Classical.byContradiction
  intro hge
  have b : 2 ^ 10 ≤ 2 ^ v := Nat.pow_le_pow_right (by decide) (by omega)
  rw [Nat.testBit_lt_two_pow (by omega), Nat.testBit_lt_two_pow (by omega)] at h1
  exact h1 rfl
theorem tn_ne {x y : Nat} (hx : x < 1024) (hy : y < 1024) (h : x ≠ y) : tn 10 x ≠ tn 10 y := by
  obtain ⟨v, hv, h1, h2⟩ := bit_ne hx hy h
  cases hxv : x.testBit v
  · have hyv : y.testBit v = true := by
      cases hyv : y.testBit v
      · rw [hxv, hyv] at h2; exact absurd rfl h2
      · rfl
    exact Nat.ne_of_lt (tn_lt h1 hxv hyv 10 hv)
  · have hyv : y.testBit v = false := by
      cases hyv : y.testBit v
      · rfl
      · rw [hxv, hyv] at h2; exact absurd rfl h2
    exact Nat.ne_of_gt (tn_lt (fun j hj => (h1 j hj).symm) hyv hxv 10 hv)
/-- a is the first true assignment of S -/
def isF (S : Nat → Bool) (a : Nat) : Prop := a < 1024 ∧ S a = true ∧ ∀ y, y < 1024 → S y = true → y ≠ a → tn 10 a < tn 10 y
theorem isF_or (S : Nat → Bool) : (∀ y, y < 1024 → S y = false) ∨ ∃ a, isF S a := by
  by_cases h : ∃ k y, y < 1024 ∧ S y = true ∧ tn 10 y = k
  · right
    obtain ⟨k, ⟨a, ha, hs, ht⟩, hmin⟩ := pk_least _ h
    refine ⟨a, ha, hs, fun y hy hys hne => ?_⟩
    have h1 := tn_ne hy ha hne
    have h2 : ¬ tn 10 y < k := fun q => hmin _ q ⟨y, hy, hys, rfl⟩
    omega
  · left
    intro y hy
    cases hs : S y
    · rfl
    · exact absurd ⟨_, y, hy, hs, rfl⟩ h
theorem isF_one {S : Nat → Bool} {a b : Nat} (ha : isF S a) (hb : b < 1024) (hs : S b = true) (hm : ∀ y, y < 1024 → S y = true → tn 10 b ≤ tn 10 y) : b = a := by
  apply Classical.byContradiction
  intro h
  have h1 := ha.2.2 b hb hs h
  have h2 := hm a ha.1 ha.2.1
  omega
/-- those that agree with the first one below v: one with bit v false is left just if the first has it false -/
theorem isF_step {S : Nat → Bool} {a v : Nat} (ha : isF S a) (hv : v < 10) : (∃ y, y < 1024 ∧ (S y = true ∧ y % 2 ^ v = a % 2 ^ v) ∧ y.testBit v = false) ↔ a.testBit v = false := by
  constructor
  · rintro ⟨y, hy, ⟨hs, he⟩, hb⟩
    cases hav : a.testBit v
    · rfl
    · exfalso
      have hag : ∀ j, j < v → y.testBit j = a.testBit j := fun j hj => by
        have h1 := Nat.testBit_mod_two_pow y v j
        have h2 := Nat.testBit_mod_two_pow a v j
        rw [he, h2] at h1
        simpa [hj] using h1.symm
      have h3 := tn_lt hag hb hav 10 hv
      have hne : y ≠ a := fun e => by rw [e, hav] at hb; cases hb
      have h4 := ha.2.2 y hy hs hne
      omega
  · intro h
    exact ⟨a, ha.1, ⟨ha.2.1, rfl⟩, h⟩
theorem mod_succ {y a v : Nat} : y % 2 ^ (v + 1) = a % 2 ^ (v + 1) ↔ y % 2 ^ v = a % 2 ^ v ∧ y.testBit v = a.testBit v := by
  constructor
  · intro h
    have key : ∀ j, j < v + 1 → y.testBit j = a.testBit j := fun j hj => by
      have h1 := Nat.testBit_mod_two_pow y (v + 1) j
      have h2 := Nat.testBit_mod_two_pow a (v + 1) j
      rw [h, h2] at h1
      simpa [hj] using h1.symm
    refine ⟨?_, key v (by omega)⟩
    apply Nat.eq_of_testBit_eq
    intro j
    rw [Nat.testBit_mod_two_pow, Nat.testBit_mod_two_pow]
    by_cases hj : j < v
    · rw [key j (by omega)]
    · simp [hj]
  · rintro ⟨h, hb⟩
    apply Nat.eq_of_testBit_eq
    intro j
    rw [Nat.testBit_mod_two_pow, Nat.testBit_mod_two_pow]
    by_cases hj : j < v + 1
    · by_cases e : j = v
      · subst e; rw [hb]
      · have h1 := Nat.testBit_mod_two_pow y v j
        have h2 := Nat.testBit_mod_two_pow a v j
        rw [h, h2] at h1
        have hjv : j < v := by omega
        simp [hjv] at h1
        rw [h1]
    · simp [hj]
theorem mod_bit (a v : Nat) : (a % 2 ^ v) ||| (if a.testBit v = true then 2 ^ v else 0) = a % 2 ^ (v + 1) := by
  apply Nat.eq_of_testBit_eq
  intro j
  rw [Nat.testBit_or, Nat.testBit_mod_two_pow, Nat.testBit_mod_two_pow]
  by_cases e : j = v
  · subst e
    cases h : a.testBit j <;> simp [h, Nat.testBit_two_pow_self]
  · have h1 : (if a.testBit v = true then 2 ^ v else 0).testBit j = false := by
      split
      · rw [Nat.testBit_two_pow]; simp; omega
      · exact Nat.zero_testBit j
    rw [h1]
    by_cases hj : j < v
    · simp [hj, Nat.lt_succ_of_lt hj]
    · simp [hj, show ¬ j < v + 1 by omega]
