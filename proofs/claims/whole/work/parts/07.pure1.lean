-- bits of a long, and what the words of a row say of its function
def lb (w : Int64) (i : Nat) : Bool := w.toBitVec.getLsbD i
theorem lb_ext {x y : Int64} (h : ∀ i, i < 64 → lb x i = lb y i) : x = y := Int64.toBitVec_inj.mp (BitVec.eq_of_getLsbD_eq (fun i hi => h i hi))
theorem lb_and (x y : Int64) (i : Nat) : lb (x &&& y) i = (lb x i && lb y i) := by unfold lb; rw [Int64.toBitVec_and, BitVec.getLsbD_and]
theorem lb_or (x y : Int64) (i : Nat) : lb (x ||| y) i = (lb x i || lb y i) := by unfold lb; rw [Int64.toBitVec_or, BitVec.getLsbD_or]
theorem lb_xor (x y : Int64) (i : Nat) : lb (x ^^^ y) i = (lb x i ^^ lb y i) := by unfold lb; rw [Int64.toBitVec_xor, BitVec.getLsbD_xor]
theorem lb_big (x : Int64) {i : Nat} (h : 64 ≤ i) : lb x i = false := BitVec.getLsbD_of_ge _ _ h
theorem lb_m1 : ∀ i, i < 64 → lb (-1) i = true := by decide +kernel
theorem lb_0 (i : Nat) : lb 0 i = false := BitVec.getLsbD_zero
theorem lb_not (x : Int64) {i : Nat} (hi : i < 64) : lb (x ^^^ (-1)) i = !lb x i := by rw [lb_xor, lb_m1 i hi]; cases lb x i <;> rfl
theorem sl64 : ∀ n, n < 64 → (((nI n).toInt64 &&& 63).toBitVec.smod 64).toNat = n := by decide +kernel
theorem su64 : ∀ n, n < 64 → (((nI n).toInt64.toUInt64 &&& Int64.toUInt64 63).toBitVec % 64).toNat = n := by decide +kernel
theorem lb_shl (n : Nat) (hn : n < 64) (x : Int64) {i : Nat} (hi : i < 64) : lb (x <<< ((nI n).toInt64 &&& 63)) i = (decide (n ≤ i) && lb x (i - n)) := by
  unfold lb
  rw [Int64.toBitVec_shiftLeft]
  show (x.toBitVec <<< (((nI n).toInt64 &&& 63).toBitVec.smod 64).toNat).getLsbD i = _
  rw [sl64 n hn, BitVec.getLsbD_shiftLeft]
  rcases Nat.lt_or_ge i n with h | h
  · simp [h, Nat.not_le.mpr h]
  · simp [hi, h, Nat.not_lt.mpr h]
theorem lb_shr (n : Nat) (hn : n < 64) (x : Int64) (i : Nat) : lb ((x.toUInt64 >>> ((nI n).toInt64.toUInt64 &&& Int64.toUInt64 63)).toInt64) i = lb x (n + i) := by
  show (x.toUInt64 >>> ((nI n).toInt64.toUInt64 &&& Int64.toUInt64 63)).toBitVec.getLsbD i = x.toUInt64.toBitVec.getLsbD (n + i)
  rw [UInt64.toBitVec_shiftRight]
  show (x.toUInt64.toBitVec >>> (((nI n).toInt64.toUInt64 &&& Int64.toUInt64 63).toBitVec % 64).toNat).getLsbD i = _
  rw [su64 n hn, BitVec.getLsbD_ushiftRight]
/-- what a row says at x -/
def sv (r : Nat → Int64) (x : Nat) : Bool := lb (r (x / 64)) (x % 64)
theorem lb_tp : ∀ v, v < 6 → ∀ i, i < 64 → lb (tp v) i = i.testBit v := by decide +kernel
/-- word j of variable v -/
def vW (v j : Nat) : Int64 := if v < 6 then tp v else if j.testBit (v - 6) = true then -1 else 0
/-- word j of the row with v turned -/
def tW (r : Nat → Int64) (v j : Nat) : Int64 :=
  if v < 6 then ((r j &&& tp v).toUInt64 >>> ((nI (2 ^ v)).toInt64.toUInt64 &&& Int64.toUInt64 63)).toInt64 ||| ((r j &&& (tp v ^^^ (-1))) <<< ((nI (2 ^ v)).toInt64 &&& 63)) else r (j ^^^ 2 ^ (v - 6))
/-- chosen bit by bit -/
def cW (w t f : Int64) : Int64 := (w &&& t) ||| ((w ^^^ (-1)) &&& f)
/-- word j of the row with v fixed -/
def fW (r : Nat → Int64) (v : Nat) (b : Bool) (j : Nat) : Int64 := cW (if b = true then vW v j else vW v j ^^^ (-1)) (r j) (tW r v j)
def jW (k : Nat) (a b : Int64) : Int64 := match k with
  | 0 => a &&& b
  | 1 => a ||| b
  | 2 => a ^^^ b
  | 3 => (a ^^^ (-1)) ||| b
  | _ => a ^^^ (-1)
def jB (k : Nat) (a b : Bool) : Bool := match k with
  | 0 => a && b
  | 1 => a || b
  | 2 => a ^^ b
  | 3 => !a || b
  | _ => !a
theorem sv_vW {v x : Nat} (hv : v < 10) (hx : x < 1024) : sv (vW v) x = x.testBit v := by
  unfold sv vW
  have hm : x % 64 < 64 := Nat.mod_lt _ (by decide)
  by_cases h : v < 6
  · rw [if_pos h, lb_tp v h _ hm, show (64 : Nat) = 2 ^ 6 from rfl, Nat.testBit_mod_two_pow]
    simp [h]
  · rw [if_neg h, show x / 64 = x / 2 ^ 6 from rfl, Nat.testBit_div_two_pow, show v - 6 + 6 = v by omega]
    by_cases hb : x.testBit v = true
    · rw [if_pos hb, hb, lb_m1 _ hm]
    · rw [if_neg hb, lb_0]
      cases h9 : x.testBit v
      · rfl
      · exact absurd h9 hb
theorem tw_0 : ∀ v, v < 6 → ∀ i, i < 64 → i.testBit v = false → 2 ^ v < 64 ∧ 2 ^ v + i < 64 ∧ (2 ^ v + i).testBit v = true ∧ i ^^^ 2 ^ v = 2 ^ v + i ∧ (2 ^ v ≤ i → (i - 2 ^ v).testBit v = true) := by decide +kernel
theorem tw_1 : ∀ v, v < 6 → ∀ i, i < 64 → i.testBit v = true → 2 ^ v < 64 ∧ 2 ^ v ≤ i ∧ (i - 2 ^ v).testBit v = false ∧ i ^^^ 2 ^ v = i - 2 ^ v ∧ (2 ^ v + i < 64 → (2 ^ v + i).testBit v = false) := by decide +kernel
theorem pw64 : ∀ v, v < 6 → 2 ^ v % 64 = 2 ^ v ∧ 2 ^ v / 64 = 0 := by decide +kernel
theorem pw64' : ∀ v, v < 10 → 6 ≤ v → 2 ^ v % 64 = 0 ∧ 2 ^ v / 64 = 2 ^ (v - 6) := by decide +kernel
theorem lb_tW {r : Nat → Int64} {v j i : Nat} (hv : v < 6) (hi : i < 64) : lb (tW r v j) i = lb (r j) (i ^^^ 2 ^ v) := by
  unfold tW
  rw [if_pos hv, lb_or]
  have hsub : i - 2 ^ v < 64 := Nat.lt_of_le_of_lt (Nat.sub_le _ _) hi
  cases hb : i.testBit v
  · obtain ⟨h1, h2, h3, h4, h5⟩ := tw_0 v hv i hi hb
    rw [lb_shr _ h1, lb_shl _ h1 _ hi, lb_and, lb_tp v hv _ h2, h3, h4, Bool.and_true]
    by_cases hle : 2 ^ v ≤ i
    · rw [lb_and, lb_not _ hsub, lb_tp v hv _ hsub, h5 hle]
      simp
    · simp [hle]
  · obtain ⟨h1, h2, h3, h4, h5⟩ := tw_1 v hv i hi hb
    rw [lb_shr _ h1, lb_shl _ h1 _ hi, lb_and, lb_and, lb_not _ hsub, lb_tp v hv (i - 2 ^ v) hsub, h3, h4]
    by_cases h6 : 2 ^ v + i < 64
    · rw [lb_tp v hv _ h6, h5 h6]
      simp [h2]
    · rw [lb_big _ (Nat.le_of_not_lt h6)]
      simp [h2]
theorem sv_tW {r : Nat → Int64} {v x : Nat} (hv : v < 10) : sv (tW r v) x = sv r (x ^^^ 2 ^ v) := by
  have hm : x % 64 < 64 := Nat.mod_lt _ (by decide)
  have hd : (x ^^^ 2 ^ v) / 64 = x / 64 ^^^ 2 ^ v / 64 := Nat.xor_div_two_pow (n := 6)
  have hr : (x ^^^ 2 ^ v) % 64 = x % 64 ^^^ 2 ^ v % 64 := Nat.xor_mod_two_pow (n := 6)
  unfold sv
  rw [hd, hr]
  by_cases h : v < 6
  · rw [lb_tW h hm, (pw64 v h).1, (pw64 v h).2, Nat.xor_zero]
  · rw [(pw64' v hv (by omega)).1, (pw64' v hv (by omega)).2, Nat.xor_zero]
    unfold tW
    rw [if_neg h]
theorem lb_cW (w t f : Int64) {i : Nat} (hi : i < 64) : lb (cW w t f) i = if lb w i = true then lb t i else lb f i := by
  unfold cW
  rw [lb_or, lb_and, lb_and, lb_not _ hi]
  cases lb w i <;> simp
theorem sv_cW (w t f : Nat → Int64) (x : Nat) : sv (fun j => cW (w j) (t j) (f j)) x = if sv w x = true then sv t x else sv f x :=
  lb_cW _ _ _ (Nat.mod_lt _ (by decide))
theorem lb_jW (k : Nat) (a b : Int64) {i : Nat} (hi : i < 64) : lb (jW k a b) i = jB k (lb a i) (lb b i) := by
  rcases k with _ | _ | _ | _ | k
  · exact lb_and _ _ _
  · exact lb_or _ _ _
  · exact lb_xor _ _ _
  · show lb ((a ^^^ (-1)) ||| b) i = _
    rw [lb_or, lb_not _ hi]
    rfl
  · show lb (a ^^^ (-1)) i = _
    rw [lb_not _ hi]
    rfl
theorem sv_jW (k : Nat) (a b : Nat → Int64) (x : Nat) : sv (fun j => jW k (a j) (b j)) x = jB k (sv a x) (sv b x) :=
  lb_jW _ _ _ (Nat.mod_lt _ (by decide))
theorem sv_fW {r : Nat → Int64} {v x : Nat} {b : Bool} (hv : v < 10) (hx : x < 1024) : sv (fW r v b) x = if x.testBit v = b then sv r x else sv r (x ^^^ 2 ^ v) := by
  have hm : x % 64 < 64 := Nat.mod_lt _ (by decide)
  have h1 := sv_vW hv hx
  have h2 := sv_tW (r := r) (x := x) hv
  unfold sv at h1 h2 ⊢
  unfold fW
  rw [lb_cW _ _ _ hm, h2]
  cases b
  · rw [if_neg (by decide : ¬ (false = true)), lb_not _ hm, h1]
    cases x.testBit v <;> simp
  · rw [if_pos rfl, h1]
