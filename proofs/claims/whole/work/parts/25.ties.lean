-- both sides tied: what class and reference answer out of one function
def tie (hd : Nat → Nat → Int64) (rg : Nat → Nat → Bool) : Prop := ∀ r, r < 16 → ∀ x, x < 1024 → rg r x = sv (hd r) x
theorem tie_0 : tie (fun _ _ => 0) (fun _ _ => false) := fun _ _ x _ => (sv_0 x).symm
theorem tie_up {hd : Nat → Nat → Int64} {rg : Nat → Nat → Bool} {t : Nat} {F : Nat → Int64} {g : Nat → Bool} (h : tie hd rg) (hg : ∀ x, x < 1024 → g x = sv F x) : tie (va_up hd t F) (va_up rg t g) := by
  intro r hr x hx
  by_cases e : r = t
  · rw [e, va_up_self, va_up_self]
    exact hg x hx
  · rw [va_up_ne _ _ e, va_up_ne _ _ e]
    exact h r hr x hx
theorem cbN_ext {f g : Nat → Bool} : ∀ n, (∀ x, x < n → f x = g x) → cbN f n = cbN g n
  | 0, _ => rfl
  | n + 1, h => by
    have ih := cbN_ext n (fun x hx => h x (Nat.lt_succ_of_lt hx))
    have h1 := h n (Nat.lt_succ_self n)
    cases hg : g n
    · rw [cbN_f (h1.trans hg), cbN_f hg, ih]
    · rw [cbN_t (h1.trans hg), cbN_t hg, ih]
theorem cbN_add (f : Nat → Bool) (a : Nat) : ∀ n, cbN f (a + n) = cbN f a + cbN (fun x => f (a + x)) n
  | 0 => rfl
  | n + 1 => by
    have ih := cbN_add f a n
    cases hg : f (a + n)
    · rw [← Nat.add_assoc, cbN_f hg, cbN_f (f := fun x => f (a + x)) hg, ih]
    · rw [← Nat.add_assoc, cbN_t hg, cbN_t (f := fun x => f (a + x)) hg, ih, Nat.add_assoc]
theorem pc8_c : ∀ b, b < 256 → pc8 b = cbN (fun i => b.testBit i) 8 := by decide +kernel
theorem bys_c : ∀ k n, bys pc8 k n = cbN (fun i => n.testBit i) (8 * k)
  | 0, _ => rfl
  | k + 1, n => by
    show pc8 (n % 256) + bys pc8 k (n / 256) = _
    rw [bys_c k, pc8_c _ (Nat.mod_lt _ (by decide)), Nat.mul_add, Nat.mul_one, Nat.add_comm (8 * k) 8, cbN_add]
    congr 1
    · apply cbN_ext
      intro x hx
      show (n % 2 ^ 8).testBit x = n.testBit x
      rw [Nat.testBit_mod_two_pow, decide_eq_true hx, Bool.true_and]
    · apply cbN_ext
      intro x _
      show (n / 2 ^ 8).testBit x = n.testBit (8 + x)
      rw [Nat.testBit_div_two_pow, Nat.add_comm]
theorem wy_c (f : Nat → Int64) : ∀ j, wyN f j = cbN (sv f) (64 * j)
  | 0 => rfl
  | j + 1 => by
    show wyN f j + bys pc8 8 (f j).toBitVec.toNat = _
    rw [wy_c f j, bys_c, Nat.mul_add, Nat.mul_one, cbN_add]
    congr 1
    apply cbN_ext
    intro x hx
    show (f j).toBitVec.toNat.testBit x = lb (f ((64 * j + x) / 64)) ((64 * j + x) % 64)
    rw [show (64 * j + x) / 64 = j by omega, show (64 * j + x) % 64 = x by omega]
    exact BitVec.testBit_toNat _
theorem ways_eq {f : Nat → Int64} {g : Nat → Bool} (h : ∀ x, x < 1024 → g x = sv f x) : wyN f 16 = cbN g 1024 := (wy_c f 16).trans (cbN_ext 1024 (fun x hx => (h x hx).symm))
theorem hangB_eq {f : Nat → Int64} {g : Nat → Bool} (h : ∀ x, x < 1024 → g x = sv f x) {v : Nat} (hv : v < 10) : hgB f v = hrB g v := by
  unfold hgB hrB
  have h2 : ∀ x, x < 1024 → x ^^^ 2 ^ v < 1024 := fun x hx => Nat.xor_lt_two_pow (n := 10) hx (pw10 v hv)
  by_cases hp : ∀ i, i < 16 → f i = tW f v i
  · rw [bD_t hp, bD_f (fun ⟨x, hx, hn⟩ => hn (by
      have h3 := row_eq.mp hp x hx
      rw [sv_tW hv] at h3
      rw [h x hx, h _ (h2 x hx), h3]))]
    rfl
  · rw [bD_f hp, bD_t]
    · rfl
    · exact Classical.byContradiction (fun q => hp (row_eq.mpr (fun x hx => by
        rw [sv_tW hv, ← h x hx, ← h _ (h2 x hx)]
        exact Classical.byContradiction (fun z => q ⟨x, hx, z⟩))))
theorem hang_eq {f : Nat → Int64} {g : Nat → Bool} (h : ∀ x, x < 1024 → g x = sv f x) : ∀ v, v ≤ 10 → hgN f v = hrN g v
  | 0, _ => rfl
  | v + 1, hv => by
    show (if hgB f v = true then hgN f v ||| 2 ^ v else hgN f v) = (if hrB g v = true then hrN g v ||| 2 ^ v else hrN g v)
    rw [hangB_eq h (by omega), hang_eq h v (by omega)]
theorem same_eq {hd : Nat → Nat → Int64} {rg : Nat → Nat → Bool} (h : tie hd rg) {r1 r2 : Nat} (h1 : r1 < 16) (h2 : r2 < 16) : bD (∀ i, i < 1024 → rg r1 i = rg r2 i) = bD (∀ i, i < 16 → hd r1 i = hd r2 i) := by
  refine bD_c (Iff.trans ?_ row_eq.symm)
  exact ⟨fun q x hx => by rw [← h r1 h1 x hx, ← h r2 h2 x hx]; exact q x hx, fun q x hx => by rw [h r1 h1 x hx, h r2 h2 x hx]; exact q x hx⟩
theorem isF_eq {f g : Nat → Bool} (h : ∀ x, x < 1024 → g x = f x) {x0 : Nat} (hF : isF f x0) : isF g x0 :=
  ⟨hF.1, (h x0 hF.1).trans hF.2.1, fun y hy hs hn => hF.2.2 y hy ((h y hy).symm.trans hs) hn⟩
theorem dep_eq {f g : Nat → Bool} (h : ∀ x, x < 1024 → g x = f x) {k v : Nat} (hk : k < 10) (hv : v < 2 ^ k) (hd : dep f k v) : dep g k v := by
  obtain ⟨m, hm, hn⟩ := hd
  exact ⟨m, hm, by rw [h _ (ix_lt hk hv hm), h _ (ix_lt hk hv (x1_lt hk hm))]; exact hn⟩
theorem PK_to {S S' : Nat → Nat → Bool} {fr r : Nat} (h : ∀ q, q < r → ∀ x, x < 1024 → S' q x = S q x) {c : Nat × List Bool} (hc : PK S fr r 10 c) : PK S' fr r 10 c := by
  obtain ⟨k, hk, r', v, h1, h2, h3, h4, h5⟩ := hc
  exact ⟨k, hk, r', v, h1, h2, h3, dep_eq (h r' h2) hk h3 h4, h5.trans ((pcode_sub hk).mpr (fun m hm => (h r' h2 _ (ix_lt hk h3 hm)).symm))⟩
theorem PK_eq {hd : Nat → Nat → Int64} {rg : Nat → Nat → Bool} (h : tie hd rg) {fr r : Nat} (hr : r ≤ 16) (c : Nat × List Bool) : PK rg fr r 10 c ↔ PK (fun q => sv (hd q)) fr r 10 c :=
  ⟨PK_to (fun q hq x hx => (h q (by omega) x hx).symm), PK_to (fun q hq x hx => h q (by omega) x hx)⟩
theorem parts_eq {hd : Nat → Nat → Int64} {rg : Nat → Nat → Bool} (h : tie hd rg) {fr r : Nat} (hr : r ≤ 16) {L L' : List (Nat × List Bool)} (n1 : L.Nodup) (n2 : L'.Nodup) (h1 : ∀ c, c ∈ L ↔ PK (fun q => sv (hd q)) fr r 10 c) (h2 : ∀ c, c ∈ L' ↔ PK rg fr r 10 c) : L'.length = L.length :=
  nd_eq n2 n1 (fun c => (h2 c).trans ((PK_eq h hr c).trans (h1 c).symm))
theorem lc_self (x : Int64) : lg_cmp x x = 0 := by
  unfold lg_cmp
  simp
theorem sw_15 (x : Int32) : ∃ j, j < 16 ∧ x &&& nI 15 = nI j := by
  refine ⟨x.toBitVec.toNat % 16, Nat.mod_lt _ (by decide), ?_⟩
  have h := nI_tn x
  rw [h, nx_and, ← nI_tn x]
  congr 1
  exact Nat.and_two_pow_sub_one_eq_mod _ 4
theorem tg_in {x y : Int32} (h : ¬ x < 0 ∧ ¬ y ≤ x ∧ y ≤ nI 16) : ∃ a b : Nat, a < b ∧ b ≤ 16 ∧ x = nI a ∧ y = nI b := by
  obtain ⟨b, hb, rfl⟩ := nI_of2 (M := nI 16) (n := 16) (by decide) (fun q => h.2.1 (Int32.le_of_lt (Int32.lt_of_lt_of_le q (Int32.not_lt.mp h.1)))) h.2.2
  obtain ⟨a, ha, rfl⟩ := nI_of2 (M := nI 16) (n := 16) (by decide) h.1 (Int32.le_trans (Int32.le_of_lt (Int32.not_le.mp h.2.1)) h.2.2)
  refine ⟨a, b, ?_, hb, rfl, rfl⟩
  have h1 := h.2.1
  rw [nI_leI (by omega) (by omega)] at h1
  omega
theorem tg_out {x y : Int32} (h : ¬ (¬ x < 0 ∧ ¬ y ≤ x ∧ y ≤ nI 16)) : ¬ (¬ x < 0 ∧ ¬ nI 16 < y ∧ x < y) :=
  fun q => h ⟨q.1, Int32.not_le.mpr q.2.2, Int32.not_lt.mp q.2.1⟩
theorem lw_go {L i : Nat} (hL : L ≤ 2560) (h : i + 5 ≤ L) : ¬ nI L - nI 5 < nI i := by
  intro q
  have h1 := Int32.lt_iff_toInt_lt.mp q
  rw [pk_sub_toInt (by omega) (by omega), nI_toInt (by omega)] at h1
  omega
theorem lw_no {L i : Nat} (hL : L ≤ 2560) (hi : i ≤ 2565) (h : ¬ i + 5 ≤ L) : nI L - nI 5 < nI i := by
  refine Int32.lt_iff_toInt_lt.mpr ?_
  rw [pk_sub_toInt (by omega) (by omega), nI_toInt (by omega)]
  omega
