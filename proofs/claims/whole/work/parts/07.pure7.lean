-- the table of keys: probing, counting, inserting
def cntU (kt : Nat → Nat) : Nat → Nat
  | 0 => 0
  | n + 1 => cntU kt n + if kt n = 0 then 0 else 1
theorem cntU_up {kt : Nat → Nat} {p K : Nat} (h0 : kt p = 0) (hK : K ≠ 0) : ∀ n, cntU (va_up kt p K) n = cntU kt n + if p < n then 1 else 0
  | 0 => by simp [cntU]
  | n + 1 => by
    have ih := cntU_up h0 hK n
    show cntU (va_up kt p K) n + (if va_up kt p K n = 0 then 0 else 1) = cntU kt n + (if kt n = 0 then 0 else 1) + if p < n + 1 then 1 else 0
    rw [ih]
    by_cases h : n = p
    · subst h
      rw [va_up_s, if_neg hK, h0, if_pos rfl, if_neg (Nat.lt_irrefl _), if_pos (Nat.lt_succ_self _)]
    · rw [va_up_n kt K h]
      by_cases h2 : p < n
      · rw [if_pos h2, if_pos (Nat.lt_succ_of_lt h2)]
        omega
      · rw [if_neg h2, if_neg (show ¬ p < n + 1 by omega), Nat.add_zero, Nat.add_zero]
theorem cntU_all {kt : Nat → Nat} : ∀ n, (∀ s, s < n → kt s ≠ 0) → cntU kt n = n
  | 0, _ => rfl
  | n + 1, h => by
    show cntU kt n + (if kt n = 0 then 0 else 1) = n + 1
    rw [cntU_all n (fun s hs => h s (by omega)), if_neg (h n (by omega))]
theorem cntU_0 : ∀ n, cntU (fun _ => 0) n = 0
  | 0 => rfl
  | n + 1 => by
    show cntU (fun _ => 0) n + (if (0 : Nat) = 0 then 0 else 1) = 0
    rw [cntU_0 n, if_pos rfl]
/-- between a key's home and its slot all are used -/
def PI (hm : Nat → Nat) (kt : Nat → Nat) : Prop := ∀ s, s < 4096 → kt s ≠ 0 → ∃ u, u < 4096 ∧ s = (hm (kt s) + u) % 4096 ∧ ∀ t, t < u → kt ((hm (kt s) + t) % 4096) ≠ 0
/-- the probe for K has gone t slots far -/
def PB (hm : Nat → Nat) (kt : Nat → Nat) (K t : Nat) : Prop := ∀ t', t' < t → kt ((hm K + t') % 4096) ≠ 0 ∧ kt ((hm K + t') % 4096) ≠ K
theorem PB_absent {hm kt : Nat → Nat} {K t : Nat} (hP : PI hm kt) (hB : PB hm kt K t) (h0 : kt ((hm K + t) % 4096) = 0) (hK : K ≠ 0) : ∀ s, s < 4096 → kt s ≠ K := by
  intro s hs e
  obtain ⟨u, hu, e1, h1⟩ := hP s hs (by rw [e]; exact hK)
  rw [e] at e1 h1
  rcases Nat.lt_trichotomy u t with h | h | h
  · exact (hB u h).2 (by rw [← e1]; exact e)
  · subst h
    rw [← e1, e] at h0
    exact hK h0
  · exact h1 t h h0
theorem PI_up {hm kt : Nat → Nat} {K t : Nat} (hP : PI hm kt) (hB : PB hm kt K t) (ht : t < 4096) (h0 : kt ((hm K + t) % 4096) = 0) (hK : K ≠ 0) : PI hm (va_up kt ((hm K + t) % 4096) K) := by
  intro s hs hne
  by_cases h : s = (hm K + t) % 4096
  · refine ⟨t, ht, ?_, fun t' ht' => ?_⟩
    · rw [h, va_up_s]
    · rw [h, va_up_s]
      by_cases h2 : (hm K + t') % 4096 = (hm K + t) % 4096
      · rw [h2, va_up_s]; exact hK
      · rw [va_up_n _ _ h2]; exact (hB t' ht').1
  · rw [va_up_n _ _ h] at hne ⊢
    obtain ⟨u, hu, e1, h1⟩ := hP s hs hne
    refine ⟨u, hu, e1, fun t' ht' => ?_⟩
    by_cases h2 : (hm (kt s) + t') % 4096 = (hm K + t) % 4096
    · rw [h2, va_up_s]; exact hK
    · rw [va_up_n _ _ h2]; exact h1 t' ht'
theorem mod_all {h s : Nat} (hs : s < 4096) : ∃ t, t < 4096 ∧ (h + t) % 4096 = s := ⟨(s + 4096 - h % 4096) % 4096, Nat.mod_lt _ (by decide), by omega⟩
/-- where the probe ends -/
theorem PB_end {hm kt : Nat → Nat} {K : Nat} (hu : cntU kt 4096 < 4096) : ∃ t, t < 4096 ∧ PB hm kt K t ∧ (kt ((hm K + t) % 4096) = K ∨ kt ((hm K + t) % 4096) = 0) := by
  have hex : ∃ t, kt ((hm K + t) % 4096) = K ∨ kt ((hm K + t) % 4096) = 0 := by
    apply Classical.byContradiction
    intro hno
    have hall : ∀ s, s < 4096 → kt s ≠ 0 := fun s hs e => by
      obtain ⟨t, -, ht⟩ := mod_all (h := hm K) hs
      exact hno ⟨t, Or.inr (by rw [ht]; exact e)⟩
    have := cntU_all 4096 hall
    omega
  obtain ⟨t, h1, h2⟩ := pk_least _ hex
  refine ⟨t, ?_, fun t' ht' => ⟨fun e => h2 t' ht' (Or.inr e), fun e => h2 t' ht' (Or.inl e)⟩, h1⟩
  apply Classical.byContradiction
  intro hge
  have hall : ∀ s, s < 4096 → kt s ≠ 0 := fun s hs e => by
    obtain ⟨t', ht', e'⟩ := mod_all (h := hm K) hs
    exact h2 t' (by omega) (Or.inr (by rw [e']; exact e))
  have := cntU_all 4096 hall
  omega
theorem TI_up {kt : Nat → Nat} {p K : Nat} (hT : TI kt) (h0 : kt p = 0) (hK : K ≠ 0) (ha : ∀ s, s < 4096 → kt s ≠ K) : TI (va_up kt p K) := by
  intro s s' hs hs' hne he
  by_cases h : s = p
  · by_cases h' : s' = p
    · rw [h, h']
    · rw [h, va_up_s, va_up_n _ _ h'] at he
      exact absurd he.symm (ha s' hs')
  · by_cases h' : s' = p
    · rw [h', va_up_s, va_up_n _ _ h] at he
      exact absurd he (ha s hs)
    · rw [va_up_n _ _ h] at hne he
      rw [va_up_n _ _ h'] at he
      exact hT s s' hs hs' hne he
/-- slot s holds the part c -/
def SL (kt : Nat → Nat) (s : Nat) (c : Nat × List Bool) : Prop := ∃ (d n0 n1 : Nat) (f : Nat → Bool), d ≤ 9 ∧ ND kt d n0 (fun m => f (2 * m)) ∧ ND kt d n1 (fun m => f (2 * m + 1)) ∧ n0 ≠ n1 ∧ kt s = KEY (9 - d) n0 n1 ∧ c = pcode d f
theorem SL_mono {kt kt' : Nat → Nat} (hk : ∀ s, s < 4096 → kt s ≠ 0 → kt' s = kt s) {s : Nat} {c : Nat × List Bool} (hs : s < 4096) (h : SL kt s c) : SL kt' s c := by
  obtain ⟨d, n0, n1, f, h1, h2, h3, h4, h5, h6⟩ := h
  exact ⟨d, n0, n1, f, h1, ND_mono hk h2, ND_mono hk h3, h4, by rw [hk s hs (by rw [h5]; exact KEY_0 h4)]; exact h5, h6⟩
/-- the table, and the parts that it holds -/
def TS (hm kt : Nat → Nat) (GL : List (Nat × List Bool)) : Prop :=
  TI kt ∧ PI hm kt ∧ cntU kt 4096 = GL.length ∧ GL.Nodup ∧ (∀ s, s < 4096 → kt s ≠ 0 → ∃ c, c ∈ GL ∧ SL kt s c) ∧ (∀ c, c ∈ GL → ∃ s, s < 4096 ∧ SL kt s c) ∧ ∀ s, s < 4096 → kt s < 1073741824
theorem TS_0 (hm : Nat → Nat) : TS hm (fun _ => 0) [] :=
  ⟨fun s s' _ _ h _ => absurd rfl h, fun s _ h => absurd rfl h, cntU_0 4096, List.nodup_nil, fun s _ h => absurd rfl h, fun c hc => absurd hc (by simp), fun s _ => (by decide : 0 < 1073741824)⟩
/-- the key stands there already: so does the part -/
theorem TS_found {hm kt : Nat → Nat} {GL : List (Nat × List Bool)} {d n0 n1 s : Nat} {f : Nat → Bool} (h : TS hm kt GL) (hd : d ≤ 9) (h0 : ND kt d n0 (fun m => f (2 * m))) (h1 : ND kt d n1 (fun m => f (2 * m + 1))) (hne : n0 ≠ n1) (hs : s < 4096) (hk : kt s = KEY (9 - d) n0 n1) : pcode d f ∈ GL := by
  obtain ⟨-, -, -, -, hJ, -, -⟩ := h
  obtain ⟨c, hc, d', m0, m1, g, hd', g0, g1, hne', hk', e⟩ := hJ s hs (by rw [hk]; exact KEY_0 hne)
  rw [hk] at hk'
  have l0 := ND_lt h0
  have l1 := ND_lt h1
  have l2 := ND_lt g0
  have l3 := ND_lt g1
  obtain ⟨e1, e2, e3⟩ := KEY_inj (by omega) (by omega) (by omega) (by omega) hk'
  have ed : d = d' := by omega
  subst ed; subst e2; subst e3
  rw [e] at hc
  have hcode : pcode d f = pcode d g := by
    rw [pcode_eq]
    refine ⟨rfl, fun m hm => ?_⟩
    have hp : 2 ^ (d + 1) = 2 * 2 ^ d := by rw [Nat.pow_succ, Nat.mul_comm]
    rcases Nat.mod_two_eq_zero_or_one m with h2 | h2
    · have h3 := ND_inj (by omega) h0 g0 (m / 2) (by omega)
      have e9 : 2 * (m / 2) = m := by omega
      rw [e9] at h3
      exact h3
    · have h3 := ND_inj (by omega) h1 g1 (m / 2) (by omega)
      have e9 : 2 * (m / 2) + 1 = m := by omega
      rw [e9] at h3
      exact h3
  rw [hcode]
  exact hc
/-- the key is new: the part is, too -/
theorem TS_new {hm kt : Nat → Nat} {GL : List (Nat × List Bool)} {d n0 n1 t : Nat} {f : Nat → Bool} (h : TS hm kt GL) (hd : d ≤ 9) (h0 : ND kt d n0 (fun m => f (2 * m))) (h1 : ND kt d n1 (fun m => f (2 * m + 1))) (hne : n0 ≠ n1) (ht : t < 4096) (hB : PB hm kt (KEY (9 - d) n0 n1) t) (hf : kt ((hm (KEY (9 - d) n0 n1) + t) % 4096) = 0) : TS hm (va_up kt ((hm (KEY (9 - d) n0 n1) + t) % 4096) (KEY (9 - d) n0 n1)) (pcode d f :: GL) := by
  obtain ⟨hT, hP, hU, hN, hJ, hJ', hlt⟩ := h
  have hK := KEY_0 (v := 9 - d) hne
  have l0 := ND_lt h0
  have l1 := ND_lt h1
  have hKl : KEY (9 - d) n0 n1 < 1073741824 := by unfold KEY; omega
  generalize hKe : KEY (9 - d) n0 n1 = K at *
  have hp : (hm K + t) % 4096 < 4096 := Nat.mod_lt _ (by decide)
  have ha := PB_absent hP hB hf hK
  have hmono : ∀ s, s < 4096 → kt s ≠ 0 → va_up kt ((hm K + t) % 4096) K s = kt s := fun s _ hne9 => va_up_n _ _ (fun e => hne9 (by rw [e]; exact hf))
  have hSL : SL (va_up kt ((hm K + t) % 4096) K) ((hm K + t) % 4096) (pcode d f) := ⟨d, n0, n1, f, hd, ND_mono hmono h0, ND_mono hmono h1, hne, by rw [va_up_s, hKe], rfl⟩
  refine ⟨TI_up hT hf hK ha, PI_up hP hB ht hf hK, ?_, ?_, ?_, ?_, ?_⟩
  · rw [cntU_up hf hK, if_pos hp, hU]; rfl
  · refine List.nodup_cons.mpr ⟨fun hin => ?_, hN⟩
    obtain ⟨s, hs, d', m0, m1, g, hd', g0, g1, hne', hk', e⟩ := hJ' _ hin
    rw [pcode_eq] at e
    obtain ⟨e1, e2⟩ := e
    subst e1
    have hp2 : 2 ^ (d + 1) = 2 * 2 ^ d := by rw [Nat.pow_succ, Nat.mul_comm]
    have q0 := ND_fun hT h0 (ND_ext (fun m hm9 => (e2 (2 * m) (by omega)).symm) g0)
    have q1 := ND_fun hT h1 (ND_ext (fun m hm9 => (e2 (2 * m + 1) (by omega)).symm) g1)
    rw [← q0, ← q1, hKe] at hk'
    exact ha s hs hk'
  · intro s hs hne9
    by_cases h9 : s = (hm K + t) % 4096
    · rw [h9]; exact ⟨_, List.mem_cons_self, hSL⟩
    · rw [va_up_n _ _ h9] at hne9
      obtain ⟨c, hc, hsl⟩ := hJ s hs hne9
      exact ⟨c, List.mem_cons_of_mem _ hc, SL_mono hmono hs hsl⟩
  · intro c hc
    rcases List.mem_cons.mp hc with rfl | hc
    · exact ⟨_, hp, hSL⟩
    · obtain ⟨s, hs, hsl⟩ := hJ' c hc
      exact ⟨s, hs, SL_mono hmono hs hsl⟩
  · intro s hs
    by_cases h9 : s = (hm K + t) % 4096
    · rw [h9, va_up_s]; exact hKl
    · rw [va_up_n _ _ h9]; exact hlt s hs
