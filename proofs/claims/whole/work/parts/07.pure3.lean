-- counting the bits of a long as Long.bitCount does
theorem and256 {x c : Nat} (y M : Nat) (hx : x < 256) (hc : c < 256) : (x + 256 * y) &&& (c + 256 * M) = (x &&& c) + 256 * (y &&& M) := by
  have hxc : x &&& c < 2 ^ 8 := Nat.and_lt_two_pow _ hc
  rw [Nat.add_comm x, Nat.add_comm c, Nat.add_comm (x &&& c)]
  apply Nat.eq_of_testBit_eq
  intro j
  rw [Nat.testBit_and, show (256 : Nat) = 2 ^ 8 from rfl, Nat.testBit_two_pow_mul_add y hx, Nat.testBit_two_pow_mul_add M hc, Nat.testBit_two_pow_mul_add (y &&& M) hxc]
  split
  · rw [Nat.testBit_and]
  · rw [Nat.testBit_and]
/-- the byte c, k times -/
def mk (c : Nat) : Nat → Nat
  | 0 => 0
  | k + 1 => c + 256 * mk c k
/-- f on each of k bytes -/
def byt (f : Nat → Nat) : Nat → Nat → Nat
  | 0, _ => 0
  | k + 1, n => f (n % 256) + 256 * byt f k (n / 256)
/-- the sum of f over k bytes -/
def bys (f : Nat → Nat) : Nat → Nat → Nat
  | 0, _ => 0
  | k + 1, n => f (n % 256) + bys f k (n / 256)
theorem pc_d1 : ∀ t, t < 2 → ∀ b, b < 256 → (b / 2 + 128 * t) &&& 85 = (b / 2) &&& 85 := by decide +kernel
theorem pc_l1 : ∀ b, b < 256 → (b / 2) &&& 85 ≤ b := by decide +kernel
theorem pc_d2 : ∀ t, t < 4 → ∀ b, b < 256 → (b / 4 + 64 * t) &&& 51 = (b / 4) &&& 51 := by decide +kernel
def pcf1 (b : Nat) : Nat := b - ((b / 2) &&& 85)
def pcf2 (b : Nat) : Nat := (b &&& 51) + ((b / 4) &&& 51)
def pcf3 (b : Nat) : Nat := (b + b / 16) &&& 15
theorem pc_1 (k : Nat) : ∀ n, n < 256 ^ k → (n / 2) &&& mk 85 k ≤ n ∧ n - ((n / 2) &&& mk 85 k) = byt pcf1 k n := by
  induction k with
  | zero =>
    intro n hn
    have : n = 0 := by simpa using hn
    subst this
    exact ⟨Nat.le_refl _, rfl⟩
  | succ k ih =>
    intro n hn
    have hm : n / 256 < 256 ^ k := by
      rw [Nat.div_lt_iff_lt_mul (by decide)]
      rw [Nat.pow_succ] at hn
      exact hn
    obtain ⟨i1, i2⟩ := ih (n / 256) hm
    have hb : n % 256 < 256 := Nat.mod_lt _ (by decide)
    have e1 : n / 2 = (n % 256 / 2 + 128 * (n / 256 % 2)) + 256 * (n / 256 / 2) := by omega
    have ht : n / 256 % 2 < 2 := Nat.mod_lt _ (by decide)
    have e2 : (n / 2) &&& mk 85 (k + 1) = ((n % 256 / 2) &&& 85) + 256 * ((n / 256 / 2) &&& mk 85 k) := by
      rw [e1]
      show _ &&& (85 + 256 * mk 85 k) = _
      rw [and256 _ _ (by omega) (by decide), pc_d1 _ ht _ hb]
    have h1 := pc_l1 _ hb
    rw [e2]
    show _ ∧ _ = pcf1 (n % 256) + 256 * byt pcf1 k (n / 256)
    rw [← i2]
    unfold pcf1
    generalize (n % 256 / 2) &&& 85 = u at *
    generalize (n / 256 / 2) &&& mk 85 k = w at *
    omega
theorem pc_2 (k : Nat) : ∀ n, n < 256 ^ k → (n &&& mk 51 k) + ((n / 4) &&& mk 51 k) = byt pcf2 k n := by
  induction k with
  | zero =>
    intro n hn
    have : n = 0 := by simpa using hn
    subst this
    rfl
  | succ k ih =>
    intro n hn
    have hm : n / 256 < 256 ^ k := by
      rw [Nat.div_lt_iff_lt_mul (by decide)]
      rw [Nat.pow_succ] at hn
      exact hn
    have i2 := ih (n / 256) hm
    have hb : n % 256 < 256 := Nat.mod_lt _ (by decide)
    have e1 : n / 4 = (n % 256 / 4 + 64 * (n / 256 % 4)) + 256 * (n / 256 / 4) := by omega
    have ht : n / 256 % 4 < 4 := Nat.mod_lt _ (by decide)
    have e2 : (n / 4) &&& mk 51 (k + 1) = ((n % 256 / 4) &&& 51) + 256 * ((n / 256 / 4) &&& mk 51 k) := by
      rw [e1]
      show _ &&& (51 + 256 * mk 51 k) = _
      rw [and256 _ _ (by omega) (by decide), pc_d2 _ ht _ hb]
    have e3 : n &&& mk 51 (k + 1) = ((n % 256) &&& 51) + 256 * ((n / 256) &&& mk 51 k) := by
      have e4 : n = n % 256 + 256 * (n / 256) := by omega
      conv => lhs; lhs; rw [e4]
      show _ &&& (51 + 256 * mk 51 k) = _
      rw [and256 _ _ hb (by decide)]
    rw [e2, e3]
    show _ = pcf2 (n % 256) + 256 * byt pcf2 k (n / 256)
    rw [← i2]
    unfold pcf2
    omega
/-- both halves of each byte are at most 4 -/
def nib4 : Nat → Nat → Prop
  | 0, _ => True
  | k + 1, n => n % 256 % 16 ≤ 4 ∧ n % 256 / 16 ≤ 4 ∧ nib4 k (n / 256)
theorem pc_15 (x y : Nat) : (x + 16 * y) &&& 15 = x &&& 15 := by
  rw [show (15 : Nat) = 2 ^ 4 - 1 from rfl, Nat.and_two_pow_sub_one_eq_mod, Nat.and_two_pow_sub_one_eq_mod]
  omega
theorem pc_3 (k : Nat) : ∀ n, n < 256 ^ k → nib4 k n → (n + n / 16) &&& mk 15 k = byt pcf3 k n := by
  induction k with
  | zero =>
    intro n hn _
    have : n = 0 := by simpa using hn
    subst this
    rfl
  | succ k ih =>
    intro n hn hnb
    obtain ⟨h1, h2, h3⟩ := hnb
    have hm : n / 256 < 256 ^ k := by
      rw [Nat.div_lt_iff_lt_mul (by decide)]
      rw [Nat.pow_succ] at hn
      exact hn
    have i2 := ih (n / 256) hm h3
    have h5 : n / 256 % 16 ≤ 4 := by
      cases k with
      | zero =>
        have : n / 256 = 0 := by simpa using hm
        rw [this]; decide
      | succ k =>
        have := h3.1
        omega
    have e1 : n + n / 16 = (n % 256 + n % 256 / 16 + 16 * (n / 256 % 16)) + 256 * (n / 256 + n / 256 / 16) := by omega
    rw [e1]
    show _ &&& (15 + 256 * mk 15 k) = pcf3 (n % 256) + 256 * byt pcf3 k (n / 256)
    rw [and256 _ _ (by omega) (by decide), i2, pc_15]
    rfl
theorem byt_lt {f : Nat → Nat} (hf : ∀ b, b < 256 → f b < 256) (k : Nat) : ∀ n, byt f k n < 256 ^ k := by
  induction k with
  | zero => intro n; exact Nat.one_pos
  | succ k ih =>
    intro n
    show f (n % 256) + 256 * byt f k (n / 256) < 256 ^ (k + 1)
    have h1 := hf _ (Nat.mod_lt n (by decide : 256 > 0))
    have h2 := ih (n / 256)
    rw [Nat.pow_succ]
    omega
theorem byt_byt {f g : Nat → Nat} (hf : ∀ b, b < 256 → f b < 256) (k : Nat) : ∀ n, byt g k (byt f k n) = byt (fun b => g (f b)) k n := by
  induction k with
  | zero => intro n; rfl
  | succ k ih =>
    intro n
    show g ((f (n % 256) + 256 * byt f k (n / 256)) % 256) + 256 * byt g k ((f (n % 256) + 256 * byt f k (n / 256)) / 256) = g (f (n % 256)) + 256 * byt (fun b => g (f b)) k (n / 256)
    have h1 := hf _ (Nat.mod_lt n (by decide : 256 > 0))
    rw [show (f (n % 256) + 256 * byt f k (n / 256)) % 256 = f (n % 256) by omega, show (f (n % 256) + 256 * byt f k (n / 256)) / 256 = byt f k (n / 256) by omega, ih]
theorem nib_byt {f : Nat → Nat} (hf : ∀ b, b < 256 → f b < 256 ∧ f b % 16 ≤ 4 ∧ f b / 16 ≤ 4) (k : Nat) : ∀ n, nib4 k (byt f k n) := by
  induction k with
  | zero => intro n; trivial
  | succ k ih =>
    intro n
    have h1 := hf _ (Nat.mod_lt n (by decide : 256 > 0))
    show (f (n % 256) + 256 * byt f k (n / 256)) % 256 % 16 ≤ 4 ∧ (f (n % 256) + 256 * byt f k (n / 256)) % 256 / 16 ≤ 4 ∧ nib4 k ((f (n % 256) + 256 * byt f k (n / 256)) / 256)
    rw [show (f (n % 256) + 256 * byt f k (n / 256)) % 256 = f (n % 256) by omega, show (f (n % 256) + 256 * byt f k (n / 256)) / 256 = byt f k (n / 256) by omega]
    exact ⟨h1.2.1, h1.2.2, ih _⟩
/-- how many bits of a byte are set -/
def pc8 (b : Nat) : Nat := b % 2 + b / 2 % 2 + b / 4 % 2 + b / 8 % 2 + b / 16 % 2 + b / 32 % 2 + b / 64 % 2 + b / 128 % 2
theorem pc_f1 : ∀ b, b < 256 → pcf1 b < 256 := by decide +kernel
theorem pc_f2 : ∀ b, b < 256 → pcf2 (pcf1 b) < 256 ∧ pcf2 (pcf1 b) % 16 ≤ 4 ∧ pcf2 (pcf1 b) / 16 ≤ 4 := by decide +kernel
theorem pc_f2' : ∀ b, b < 256 → pcf2 b < 256 := by decide +kernel
theorem pc_f3 : ∀ b, b < 256 → pcf3 (pcf2 (pcf1 b)) = pc8 b := by decide +kernel
theorem byt_eq {f g : Nat → Nat} (h : ∀ b, b < 256 → f b = g b) (k : Nat) : ∀ n, byt f k n = byt g k n := by
  induction k with
  | zero => intro n; rfl
  | succ k ih =>
    intro n
    show f (n % 256) + 256 * byt f k (n / 256) = g (n % 256) + 256 * byt g k (n / 256)
    rw [h _ (Nat.mod_lt n (by decide : 256 > 0)), ih]
/-- the first three steps, over n < 2 ^ 64 -/
theorem pc_123 {n a b : Nat} (hn : n < 256 ^ 8) (ha : a = n - ((n / 2) &&& mk 85 8)) (hb : b = (a &&& mk 51 8) + ((a / 4) &&& mk 51 8)) : (b + b / 16) &&& mk 15 8 = byt pc8 8 n := by
  rw [(pc_1 8 n hn).2] at ha
  rw [pc_2 8 a (by rw [ha]; exact byt_lt pc_f1 8 n), ha, byt_byt pc_f1] at hb
  rw [pc_3 8 b (by rw [hb]; exact byt_lt (fun b hb => (pc_f2 b hb).1) 8 n) (by rw [hb]; exact nib_byt pc_f2 8 n), hb, byt_byt (fun b hb => (pc_f2 b hb).1)]
  exact byt_eq pc_f3 8 n
theorem pc8_le : ∀ b, b < 256 → pc8 b ≤ 8 := by decide +kernel
theorem dv_k {x k : Nat} (y : Nat) (hx : x < k) : (x + k * y) / k = y := by
  rw [Nat.add_mul_div_left _ _ (by omega), Nat.div_eq_of_lt hx, Nat.zero_add]
theorem md_k {x k : Nat} (y : Nat) (hx : x < k) : (x + k * y) % k = x := by
  rw [Nat.add_mul_mod_self_left, Nat.mod_eq_of_lt hx]
theorem pc_i1 (p0 p1 p2 p3 p4 p5 p6 p7 : Nat) : p0 + 256 * (p1 + 256 * (p2 + 256 * (p3 + 256 * (p4 + 256 * (p5 + 256 * (p6 + 256 * p7)))))) + (p1 + 256 * (p2 + 256 * (p3 + 256 * (p4 + 256 * (p5 + 256 * (p6 + 256 * p7)))))) = ((p0 + p1) + 256 * (p1 + p2)) + 65536 * ((p2 + p3) + 256 * (p3 + p4) + 65536 * (p4 + p5) + 16777216 * (p5 + p6) + 4294967296 * (p6 + p7) + 1099511627776 * p7) := by omega
theorem pc_i2 (p0 p1 p2 p3 p4 p5 p6 p7 : Nat) : ((p0 + p1) + 256 * (p1 + p2)) + 65536 * ((p2 + p3) + 256 * (p3 + p4) + 65536 * (p4 + p5) + 16777216 * (p5 + p6) + 4294967296 * (p6 + p7) + 1099511627776 * p7) + ((p2 + p3) + 256 * (p3 + p4) + 65536 * (p4 + p5) + 16777216 * (p5 + p6) + 4294967296 * (p6 + p7) + 1099511627776 * p7) = ((p0 + p1 + p2 + p3) + 256 * (p1 + p2 + p3 + p4) + 65536 * (p2 + p3 + p4 + p5) + 16777216 * (p3 + p4 + p5 + p6)) + 4294967296 * ((p4 + p5 + p6 + p7) + 256 * (p5 + p6 + p7) + 65536 * (p6 + p7) + 16777216 * p7) := by omega
theorem pc_i3 (p0 p1 p2 p3 p4 p5 p6 p7 : Nat) : ((p0 + p1 + p2 + p3) + 256 * (p1 + p2 + p3 + p4) + 65536 * (p2 + p3 + p4 + p5) + 16777216 * (p3 + p4 + p5 + p6)) + 4294967296 * ((p4 + p5 + p6 + p7) + 256 * (p5 + p6 + p7) + 65536 * (p6 + p7) + 16777216 * p7) + ((p4 + p5 + p6 + p7) + 256 * (p5 + p6 + p7) + 65536 * (p6 + p7) + 16777216 * p7) = (p0 + p1 + p2 + p3 + p4 + p5 + p6 + p7) + 128 * (2 * ((p1 + p2 + p3 + p4) + (p5 + p6 + p7)) + 512 * ((p2 + p3 + p4 + p5) + (p6 + p7)) + 131072 * ((p3 + p4 + p5 + p6) + p7) + 33554432 * ((p4 + p5 + p6 + p7) + 256 * (p5 + p6 + p7) + 65536 * (p6 + p7) + 16777216 * p7)) := by omega
theorem pc_b3 {p0 p1 p2 p3 p4 p5 p6 p7 : Nat} (h0 : p0 ≤ 8) (h1 : p1 ≤ 8) (h2 : p2 ≤ 8) (h3 : p3 ≤ 8) (h4 : p4 ≤ 8) (h5 : p5 ≤ 8) (h6 : p6 ≤ 8) (h7 : p7 ≤ 8) : (p0 + p1 + p2 + p3 + p4 + p5 + p6 + p7) + 128 * (2 * ((p1 + p2 + p3 + p4) + (p5 + p6 + p7)) + 512 * ((p2 + p3 + p4 + p5) + (p6 + p7)) + 131072 * ((p3 + p4 + p5 + p6) + p7) + 33554432 * ((p4 + p5 + p6 + p7) + 256 * (p5 + p6 + p7) + 65536 * (p6 + p7) + 16777216 * p7)) < 9223372036854775808 := by omega
theorem pc_lin {p0 p1 p2 p3 p4 p5 p6 p7 q a b c : Nat} (h0 : p0 ≤ 8) (h1 : p1 ≤ 8) (h2 : p2 ≤ 8) (h3 : p3 ≤ 8) (h4 : p4 ≤ 8) (h5 : p5 ≤ 8) (h6 : p6 ≤ 8) (h7 : p7 ≤ 8)
    (hq : q = p0 + 256 * (p1 + 256 * (p2 + 256 * (p3 + 256 * (p4 + 256 * (p5 + 256 * (p6 + 256 * p7))))))) (ha : a = q + q / 256) (hb : b = a + a / 65536) (hc : c = b + b / 4294967296) : c % 128 = p0 + p1 + p2 + p3 + p4 + p5 + p6 + p7 ∧ c < 9223372036854775808 := by
  have l1 : p0 < 256 := Nat.lt_of_le_of_lt h0 (by decide)
  have l2 : (p0 + p1) + 256 * (p1 + p2) < 65536 := by clear hq ha hb hc; omega
  have l3 : (p0 + p1 + p2 + p3) + 256 * (p1 + p2 + p3 + p4) + 65536 * (p2 + p3 + p4 + p5) + 16777216 * (p3 + p4 + p5 + p6) < 4294967296 := by clear hq ha hb hc; omega
  have l4 : p0 + p1 + p2 + p3 + p4 + p5 + p6 + p7 < 128 := by clear hq ha hb hc; omega
  rw [hq, dv_k _ l1, pc_i1] at ha
  rw [ha, dv_k _ l2, pc_i2] at hb
  rw [hb, dv_k _ l3, pc_i3] at hc
  rw [hc]
  exact ⟨md_k _ l4, pc_b3 h0 h1 h2 h3 h4 h5 h6 h7⟩
/-- the last steps: the bytes' sum -/
theorem pc_sum {n q a b c : Nat} (hq : q = byt pc8 8 n) (ha : a = q + q / 256) (hb : b = a + a / 65536) (hc : c = b + b / 4294967296) : c % 128 = bys pc8 8 n ∧ c < 9223372036854775808 := by
  have m8 : ∀ k, pc8 (k % 256) ≤ 8 := fun k => pc8_le _ (Nat.mod_lt k (by decide : 256 > 0))
  simp only [byt, Nat.mul_zero, Nat.add_zero] at hq
  have h := pc_lin (m8 _) (m8 _) (m8 _) (m8 _) (m8 _) (m8 _) (m8 _) (m8 _) hq ha hb hc
  refine ⟨?_, h.2⟩
  rw [h.1]
  simp only [bys, Nat.add_zero, Nat.add_assoc]
