-- ints as naturals: and, or, xor, shifts, one bit (s_l, nx_and, nx_xor: laws/BITS.to-paste)
theorem nI_inc (i : Nat) : nI i + Int32.ofInt 1 = nI (i + 1) := nI_1 i
theorem s_l : ∀ n, n < 32 → ((nI n &&& 31).toBitVec.smod 32).toNat = n := by decide +kernel
theorem s_u : ∀ n, n < 32 → (((nI n).toUInt32 &&& Int32.toUInt32 31).toBitVec % 32).toNat = n := by decide +kernel
theorem nx_and (a b : Nat) : nI a &&& nI b = nI (a &&& b) := by
  apply Int32.toBitVec_inj.1
  show BitVec.ofNat 32 a &&& BitVec.ofNat 32 b = BitVec.ofNat 32 (a &&& b)
  apply BitVec.eq_of_getLsbD_eq
  intro i hi
  simp [hi]
theorem nx_xor (a b : Nat) : nI a ^^^ nI b = nI (a ^^^ b) := by
  apply Int32.toBitVec_inj.1
  show BitVec.ofNat 32 a ^^^ BitVec.ofNat 32 b = BitVec.ofNat 32 (a ^^^ b)
  apply BitVec.eq_of_getLsbD_eq
  intro i hi
  simp [hi]
theorem nx_or (a b : Nat) : nI a ||| nI b = nI (a ||| b) := by
  apply Int32.toBitVec_inj.1
  show BitVec.ofNat 32 a ||| BitVec.ofNat 32 b = BitVec.ofNat 32 (a ||| b)
  apply BitVec.eq_of_getLsbD_eq
  intro i hi
  simp [hi]
theorem nx_m1 : (-1 : Int32) = nI 4294967295 := by decide
theorem nx_shr {x v : Nat} (hx : x < 2 ^ 31) (hv : v < 32) : nI x >>> (nI v &&& 31) = nI (x / 2 ^ v) := pk_shrN hx _ v (s_l v hv)
theorem nx_shl {x v : Nat} (hv : v < 32) (hx : x * 2 ^ v < 2 ^ 32) : nI x <<< (nI v &&& 31) = nI (x * 2 ^ v) := pk_shlN _ v (s_l v hv) hx
theorem nx_ushr {x v : Nat} (hx : x < 2 ^ 32) (hv : v < 32) : ((nI x).toUInt32 >>> ((nI v).toUInt32 &&& Int32.toUInt32 31)).toInt32 = nI (x / 2 ^ v) := pk_ushrN hx _ v (s_u v hv)
theorem nx_b1 {x : Nat} (hx : x < 2 ^ 32) : nI x &&& nI 1 = nI (x % 2) := pk_andN hx 1 (by decide)
theorem nx_63 {x : Nat} (hx : x < 2 ^ 32) : nI x &&& nI 63 = nI (x % 64) := pk_andN hx 6 (by decide)
theorem bI_nI (b : Bool) : bI b = nI (if b = true then 1 else 0) := by cases b <;> decide
theorem nI_bit (x v : Nat) : nI (x / 2 ^ v % 2) = bI (x.testBit v) := by
  rw [Nat.testBit_eq_decide_div_mod_eq]
  rcases Nat.mod_two_eq_zero_or_one (x / 2 ^ v) with h | h
  · rw [h]; decide
  · rw [h]; decide
/-- bit v of x, as both sides reckon it -/
theorem nx_bit {x v : Nat} (hx : x < 2 ^ 31) (hv : v < 32) : (nI x >>> (nI v &&& 31)) &&& nI 1 = bI (x.testBit v) := by
  rw [nx_shr hx hv, nx_b1 (Nat.lt_of_le_of_lt (Nat.div_le_self _ _) (Nat.lt_trans hx (by decide))), nI_bit]
theorem pw10 : ∀ v, v < 10 → 2 ^ v < 1024 := by decide
theorem pw31 : ∀ v, v < 31 → 2 ^ v < 2147483648 := by decide
theorem nx_pw {v : Nat} (hv : v < 31) : nI 1 <<< (nI v &&& 31) = nI (2 ^ v) := by
  rw [nx_shl (by omega) (by have := pw31 v hv; omega), Nat.one_mul]
/-- x with bit v set to b -/
def sb (x v : Nat) (b : Bool) : Nat := if x.testBit v = b then x else x ^^^ 2 ^ v
theorem sb_lt {x v : Nat} {b : Bool} (hx : x < 1024) (hv : v < 10) : sb x v b < 1024 := by
  unfold sb
  split
  · exact hx
  · exact Nat.xor_lt_two_pow (n := 10) hx (pw10 v hv)
theorem sb_or (x v : Nat) : x ||| 2 ^ v = sb x v true := by
  unfold sb
  apply Nat.eq_of_testBit_eq
  intro i
  by_cases h : x.testBit v = true
  · rw [if_pos h, Nat.testBit_or, Nat.testBit_two_pow]
    by_cases e : v = i
    · subst e; simp [h]
    · simp [e]
  · rw [if_neg h, Nat.testBit_or, Nat.testBit_xor, Nat.testBit_two_pow]
    by_cases e : v = i
    · subst e; simp [h]
    · simp [e]
theorem sb_and {x v : Nat} (hx : x < 2 ^ 32) : x &&& (2 ^ v ^^^ 4294967295) = sb x v false := by
  unfold sb
  apply Nat.eq_of_testBit_eq
  intro i
  have h32 : (4294967295 : Nat).testBit i = decide (i < 32) := by
    rw [show (4294967295 : Nat) = 2 ^ 32 - 1 from rfl, Nat.testBit_two_pow_sub_one]
  by_cases hi : i < 32
  · by_cases h : x.testBit v = false
    · rw [if_pos h, Nat.testBit_and, Nat.testBit_xor, Nat.testBit_two_pow, h32]
      by_cases e : v = i
      · subst e; simp [h]
      · simp [e, hi]
    · rw [if_neg h, Nat.testBit_and, Nat.testBit_xor, Nat.testBit_xor, Nat.testBit_two_pow, h32]
      by_cases e : v = i
      · subst e; simp [hi] at h ⊢; simp [h]
      · simp [e, hi]
  · have hx0 : x.testBit i = false := Nat.testBit_lt_two_pow (Nat.lt_of_lt_of_le hx (Nat.pow_le_pow_right (by decide) (by omega)))
    rw [Nat.testBit_and, hx0]
    split
    · simp [hx0]
    · rename_i h
      rw [Bool.false_and, Nat.testBit_xor, hx0, Nat.testBit_two_pow]
      by_cases e : v = i
      · subst e; exact absurd hx0 h
      · simp [e]
theorem sv_sb {r : Nat → Int64} {v x : Nat} {b : Bool} (hv : v < 10) (hx : x < 1024) : sv (fW r v b) x = sv r (sb x v b) := by
  rw [sv_fW hv hx]
  unfold sb
  split <;> rfl
