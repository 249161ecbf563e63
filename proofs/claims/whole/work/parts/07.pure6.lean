-- shared diagrams: names, keys, parts
def KEY (v a b : Nat) : Nat := v * 67108864 + a * 8192 + b
theorem KEY_inj {v a b v' a' b' : Nat} (ha : a < 8192) (hb : b < 8192) (ha' : a' < 8192) (hb' : b' < 8192) (h : KEY v a b = KEY v' a' b') : v = v' ∧ a = a' ∧ b = b' := by
  unfold KEY at h
  omega
/-- name n stands for the function f of d variables, in the table kt -/
def ND (kt : Nat → Nat) : Nat → Nat → (Nat → Bool) → Prop
  | 0, n, f => n = if f 0 = true then 1 else 0
  | d + 1, n, f => ∃ n0 n1 : Nat, ND kt d n0 (fun m => f (2 * m)) ∧ ND kt d n1 (fun m => f (2 * m + 1)) ∧ ((n0 = n1 ∧ n = n0) ∨ (n0 ≠ n1 ∧ ∃ s : Nat, s < 4096 ∧ n = s + 2 ∧ kt s = KEY (9 - d) n0 n1))
theorem ND_lt {kt : Nat → Nat} : ∀ {d n : Nat} {f : Nat → Bool}, ND kt d n f → n < 4098
  | 0, n, f, h => by
    have h : n = if f 0 = true then 1 else 0 := h
    split at h <;> omega
  | d + 1, n, f, h => by
    obtain ⟨n0, n1, h0, h1, h2⟩ := h
    rcases h2 with ⟨-, e⟩ | ⟨-, s, hs, e, -⟩
    · rw [e]; exact ND_lt h0
    · omega
theorem ND_ext {kt : Nat → Nat} : ∀ {d n : Nat} {f g : Nat → Bool}, (∀ m, m < 2 ^ d → f m = g m) → ND kt d n f → ND kt d n g
  | 0, n, f, g, he, h => by
    have h : n = if f 0 = true then 1 else 0 := h
    show n = if g 0 = true then 1 else 0
    rw [← he 0 (by decide)]
    exact h
  | d + 1, n, f, g, he, h => by
    obtain ⟨n0, n1, h0, h1, h2⟩ := h
    have hp : 2 ^ (d + 1) = 2 * 2 ^ d := by rw [Nat.pow_succ, Nat.mul_comm]
    exact ⟨n0, n1, ND_ext (fun m hm => he (2 * m) (by omega)) h0, ND_ext (fun m hm => he (2 * m + 1) (by omega)) h1, h2⟩
theorem KEY_0 {v a b : Nat} (h : a ≠ b) : KEY v a b ≠ 0 := by
  unfold KEY
  omega
theorem ND_mono {kt kt' : Nat → Nat} (hk : ∀ s, s < 4096 → kt s ≠ 0 → kt' s = kt s) : ∀ {d n : Nat} {f : Nat → Bool}, ND kt d n f → ND kt' d n f
  | 0, n, f, h => h
  | d + 1, n, f, h => by
    obtain ⟨n0, n1, h0, h1, h2⟩ := h
    refine ⟨n0, n1, ND_mono hk h0, ND_mono hk h1, ?_⟩
    rcases h2 with h2 | ⟨hne, s, hs, e, hkey⟩
    · exact Or.inl h2
    · exact Or.inr ⟨hne, s, hs, e, by rw [hk s hs (by rw [hkey]; exact KEY_0 hne)]; exact hkey⟩
/-- no key stands twice -/
def TI (kt : Nat → Nat) : Prop := ∀ s s' : Nat, s < 4096 → s' < 4096 → kt s ≠ 0 → kt s = kt s' → s = s'
theorem ND_fun {kt : Nat → Nat} (hT : TI kt) : ∀ {d n n' : Nat} {f : Nat → Bool}, ND kt d n f → ND kt d n' f → n = n'
  | 0, n, n', f, h, h' => by
    have h : n = if f 0 = true then 1 else 0 := h
    have h' : n' = if f 0 = true then 1 else 0 := h'
    rw [h, h']
  | d + 1, n, n', f, h, h' => by
    obtain ⟨a0, a1, ha0, ha1, ha⟩ := h
    obtain ⟨b0, b1, hb0, hb1, hb⟩ := h'
    have e0 := ND_fun hT ha0 hb0
    have e1 := ND_fun hT ha1 hb1
    subst e0; subst e1
    rcases ha with ⟨q, e⟩ | ⟨q, s, hs, e, hk⟩
    · rcases hb with ⟨-, e'⟩ | ⟨q', -⟩
      · rw [e, e']
      · exact absurd q q'
    · rcases hb with ⟨q', -⟩ | ⟨-, s', hs', e', hk'⟩
      · exact absurd q' q
      · have := hT s s' hs hs' (by rw [hk]; exact KEY_0 q) (by rw [hk, hk'])
        omega
theorem ND_lev {kt : Nat → Nat} : ∀ {d n : Nat} {f : Nat → Bool}, d ≤ 10 → ND kt d n f → n < 2 ∨ ∃ s : Nat, s < 4096 ∧ n = s + 2 ∧ (10 - d) * 67108864 ≤ kt s
  | 0, n, f, _, h => by
    have h : n = if f 0 = true then 1 else 0 := h
    left
    split at h <;> omega
  | d + 1, n, f, hd, h => by
    obtain ⟨n0, n1, h0, h1, h2⟩ := h
    rcases h2 with ⟨-, e⟩ | ⟨-, s, hs, e, hk⟩
    · rcases ND_lev (by omega) h0 with h3 | ⟨s, hs, e3, hk⟩
      · left; omega
      · right; exact ⟨s, hs, by omega, Nat.le_trans (Nat.mul_le_mul_right _ (by omega)) hk⟩
    · right
      refine ⟨s, hs, e, ?_⟩
      rw [hk]
      unfold KEY
      have : 10 - (d + 1) = 9 - d := by omega
      rw [this]
      omega
theorem ND_inj {kt : Nat → Nat} : ∀ {d n : Nat} {f g : Nat → Bool}, d ≤ 10 → ND kt d n f → ND kt d n g → ∀ m, m < 2 ^ d → f m = g m
  | 0, n, f, g, _, h, h' => by
    have h : n = if f 0 = true then 1 else 0 := h
    have h' : n = if g 0 = true then 1 else 0 := h'
    intro m hm
    have hm0 : m = 0 := by simpa using hm
    subst hm0
    rw [h] at h'
    cases hf : f 0 <;> cases hg : g 0 <;> simp_all
  | d + 1, n, f, g, hd, h, h' => by
    obtain ⟨a0, a1, ha0, ha1, ha⟩ := h
    obtain ⟨b0, b1, hb0, hb1, hb⟩ := h'
    have la0 := ND_lt ha0
    have la1 := ND_lt ha1
    have lb0 := ND_lt hb0
    have lb1 := ND_lt hb1
    have hab : a0 = b0 ∧ a1 = b1 := by
      rcases ha with ⟨q, e⟩ | ⟨q, s, hs, e, hk⟩
      · rcases hb with ⟨q', e'⟩ | ⟨q', s', hs', e', hk'⟩
        · omega
        · exfalso
          rcases ND_lev (by omega) ha0 with h3 | ⟨s3, hs3, e3, hk3⟩
          · omega
          · have e4 : s3 = s' := by omega
            subst e4
            rw [hk'] at hk3
            unfold KEY at hk3
            omega
      · rcases hb with ⟨q', e'⟩ | ⟨q', s', hs', e', hk'⟩
        · exfalso
          rcases ND_lev (by omega) hb0 with h3 | ⟨s3, hs3, e3, hk3⟩
          · omega
          · have e4 : s3 = s := by omega
            subst e4
            rw [hk] at hk3
            unfold KEY at hk3
            omega
        · have e4 : s = s' := by omega
          subst e4
          rw [hk] at hk'
          obtain ⟨-, h5, h6⟩ := KEY_inj (by omega) (by omega) (by omega) (by omega) hk'
          exact ⟨h5, h6⟩
    obtain ⟨e0, e1⟩ := hab
    subst e0; subst e1
    intro m hm
    have hp : 2 ^ (d + 1) = 2 * 2 ^ d := by rw [Nat.pow_succ, Nat.mul_comm]
    rcases Nat.mod_two_eq_zero_or_one m with h2 | h2
    · have h3 := ND_inj (by omega) ha0 hb0 (m / 2) (by omega)
      have e : 2 * (m / 2) = m := by omega
      rw [e] at h3
      exact h3
    · have h3 := ND_inj (by omega) ha1 hb1 (m / 2) (by omega)
      have e : 2 * (m / 2) + 1 = m := by omega
      rw [e] at h3
      exact h3
/-- a part: how many variables lie below its own, and its values -/
def pcode (d : Nat) (f : Nat → Bool) : Nat × List Bool := (d, (List.range (2 ^ (d + 1))).map f)
theorem pcode_eq {d d' : Nat} {f g : Nat → Bool} : pcode d f = pcode d' g ↔ d = d' ∧ ∀ m, m < 2 ^ (d + 1) → f m = g m := by
  constructor
  · intro h
    have h1 : d = d' := congrArg Prod.fst h
    subst h1
    refine ⟨rfl, fun m hm => ?_⟩
    have h2 : ((List.range (2 ^ (d + 1))).map f)[m]? = ((List.range (2 ^ (d + 1))).map g)[m]? := by rw [show (List.range (2 ^ (d + 1))).map f = (List.range (2 ^ (d + 1))).map g from congrArg Prod.snd h]
    rw [rg_get f hm, rg_get g hm] at h2
    exact Option.some.inj h2
  · rintro ⟨rfl, h⟩
    show (d, _) = (d, _)
    congr 1
    exact List.map_congr_left (fun m hm => h m (List.mem_range.mp hm))
/-- two lists without doubles and with the same members are of one length -/
theorem nd_le {α : Type} [DecidableEq α] : ∀ {l l' : List α}, l.Nodup → (∀ a, a ∈ l → a ∈ l') → l.length ≤ l'.length
  | [], l', _, _ => Nat.zero_le _
  | a :: l, l', hn, hs => by
    have hn' := List.nodup_cons.mp hn
    have ha : a ∈ l' := hs a List.mem_cons_self
    have h1 : l.length ≤ (l'.erase a).length := nd_le hn'.2 (fun b hb => by
      have hne : b ≠ a := fun e => hn'.1 (e ▸ hb)
      exact (List.mem_erase_of_ne hne).mpr (hs b (List.mem_cons_of_mem _ hb)))
    have h2 := List.length_erase_of_mem ha
    have h3 := List.length_pos_of_mem ha
    simp only [List.length_cons]
    omega
theorem nd_eq {l l' : List (Nat × List Bool)} (h : l.Nodup) (h' : l'.Nodup) (hs : ∀ a, a ∈ l ↔ a ∈ l') : l.length = l'.length :=
  Nat.le_antisymm (nd_le h (fun a ha => (hs a).mp ha)) (nd_le h' (fun a ha => (hs a).mpr ha))
